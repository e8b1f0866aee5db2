theorem dX12_isTimes_199 : decode cX12_isTimes 199 = .ok (.iload_n 1, 1) := by decide +kernel
theorem dX12_isTimes_200 : decode cX12_isTimes 200 = .ok (.iaload, 1) := by decide +kernel
theorem dX12_isTimes_201 : decode cX12_isTimes 201 = .ok (.if_icmp .ge 25, 3) := by decide +kernel
theorem dX12_isTimes_204 : decode cX12_isTimes 204 = .ok (.aload_n 0, 1) := by decide +kernel
theorem dX12_isTimes_205 : decode cX12_isTimes 205 = .ok (.getfield 32, 3) := by decide +kernel
theorem dX12_isTimes_208 : decode cX12_isTimes 208 = .ok (.iload 4, 2) := by decide +kernel
theorem dX12_isTimes_210 : decode cX12_isTimes 210 = .ok (.aload_n 0, 1) := by decide +kernel
theorem dX12_isTimes_211 : decode cX12_isTimes 211 = .ok (.getfield 32, 3) := by decide +kernel
theorem dX12_isTimes_214 : decode cX12_isTimes 214 = .ok (.iload 4, 2) := by decide +kernel
theorem dX12_isTimes_216 : decode cX12_isTimes 216 = .ok (.iload_n 3, 1) := by decide +kernel
theorem dX12_isTimes_217 : decode cX12_isTimes 217 = .ok (.isub, 1) := by decide +kernel
theorem dX12_isTimes_218 : decode cX12_isTimes 218 = .ok (.iaload, 1) := by decide +kernel
theorem dX12_isTimes_219 : decode cX12_isTimes 219 = .ok (.iastore, 1) := by decide +kernel
theorem dX12_isTimes_220 : decode cX12_isTimes 220 = .ok (.iinc 4 1, 3) := by decide +kernel
theorem dX12_isTimes_223 : decode cX12_isTimes 223 = .ok (.goto (-30), 3) := by decide +kernel
theorem dX12_isTimes_226 : decode cX12_isTimes 226 = .ok (.aload_n 0, 1) := by decide +kernel
theorem dX12_isTimes_227 : decode cX12_isTimes 227 = .ok (.aload_n 0, 1) := by decide +kernel
theorem dX12_isTimes_228 : decode cX12_isTimes 228 = .ok (.getfield 17, 3) := by decide +kernel
theorem dX12_isTimes_231 : decode cX12_isTimes 231 = .ok (.iload_n 1, 1) := by decide +kernel
theorem dX12_isTimes_232 : decode cX12_isTimes 232 = .ok (.iaload, 1) := by decide +kernel
theorem dX12_isTimes_233 : decode cX12_isTimes 233 = .ok (.invokevirtual 179, 3) := by decide +kernel
theorem dX12_isTimes_236 : decode cX12_isTimes 236 = .ok (.iconst 0, 1) := by decide +kernel
theorem dX12_isTimes_237 : decode cX12_isTimes 237 = .ok (.istore 4, 2) := by decide +kernel
theorem dX12_isTimes_239 : decode cX12_isTimes 239 = .ok (.iload 4, 2) := by decide +kernel
theorem dX12_isTimes_241 : decode cX12_isTimes 241 = .ok (.aload_n 0, 1) := by decide +kernel
theorem dX12_isTimes_242 : decode cX12_isTimes 242 = .ok (.getfield 17, 3) := by decide +kernel
theorem dX12_isTimes_245 : decode cX12_isTimes 245 = .ok (.iload_n 1, 1) := by decide +kernel
theorem dX12_isTimes_246 : decode cX12_isTimes 246 = .ok (.iaload, 1) := by decide +kernel
theorem dX12_isTimes_247 : decode cX12_isTimes 247 = .ok (.if_icmp .ge 48, 3) := by decide +kernel
theorem dX12_isTimes_250 : decode cX12_isTimes 250 = .ok (.aload_n 0, 1) := by decide +kernel
theorem dX12_isTimes_251 : decode cX12_isTimes 251 = .ok (.aload_n 0, 1) := by decide +kernel
theorem dX12_isTimes_252 : decode cX12_isTimes 252 = .ok (.getfield 29, 3) := by decide +kernel
theorem dX12_isTimes_255 : decode cX12_isTimes 255 = .ok (.aload_n 0, 1) := by decide +kernel
theorem dX12_isTimes_256 : decode cX12_isTimes 256 = .ok (.getfield 17, 3) := by decide +kernel
theorem dX12_isTimes_259 : decode cX12_isTimes 259 = .ok (.iload_n 1, 1) := by decide +kernel
theorem dX12_isTimes_260 : decode cX12_isTimes 260 = .ok (.iaload, 1) := by decide +kernel
theorem dX12_isTimes_261 : decode cX12_isTimes 261 = .ok (.aload_n 0, 1) := by decide +kernel
theorem dX12_isTimes_262 : decode cX12_isTimes 262 = .ok (.getfield 32, 3) := by decide +kernel
theorem dX12_isTimes_265 : decode cX12_isTimes 265 = .ok (.iload 4, 2) := by decide +kernel
theorem dX12_isTimes_267 : decode cX12_isTimes 267 = .ok (.iaload, 1) := by decide +kernel
theorem dX12_isTimes_268 : decode cX12_isTimes 268 = .ok (.invokevirtual 175, 3) := by decide +kernel
theorem dX12_isTimes_271 : decode cX12_isTimes 271 = .ok (.istore 5, 2) := by decide +kernel
theorem dX12_isTimes_273 : decode cX12_isTimes 273 = .ok (.iload 5, 2) := by decide +kernel
theorem dX12_isTimes_275 : decode cX12_isTimes 275 = .ok (.iconst (-1), 1) := by decide +kernel
theorem dX12_isTimes_276 : decode cX12_isTimes 276 = .ok (.if_icmp .ne 5, 3) := by decide +kernel
theorem dX12_isTimes_279 : decode cX12_isTimes 279 = .ok (.iconst 0, 1) := by decide +kernel
theorem dX12_isTimes_280 : decode cX12_isTimes 280 = .ok (.ireturn, 1) := by decide +kernel
theorem dX12_isTimes_281 : decode cX12_isTimes 281 = .ok (.aload_n 0, 1) := by decide +kernel
theorem dX12_isTimes_282 : decode cX12_isTimes 282 = .ok (.getfield 38, 3) := by decide +kernel
theorem dX12_isTimes_285 : decode cX12_isTimes 285 = .ok (.iload 5, 2) := by decide +kernel
theorem dX12_isTimes_287 : decode cX12_isTimes 287 = .ok (.iconst 1, 1) := by decide +kernel
theorem dX12_isTimes_288 : decode cX12_isTimes 288 = .ok (.bastore, 1) := by decide +kernel
theorem dX12_isTimes_289 : decode cX12_isTimes 289 = .ok (.iinc 4 1, 3) := by decide +kernel
theorem dX12_isTimes_292 : decode cX12_isTimes 292 = .ok (.goto (-53), 3) := by decide +kernel
theorem dX12_isTimes_295 : decode cX12_isTimes 295 = .ok (.iconst 1, 1) := by decide +kernel
theorem dX12_isTimes_296 : decode cX12_isTimes 296 = .ok (.ireturn, 1) := by decide +kernel
theorem dX12_root_0 : decode cX12_root 0 = .ok (.iload_n 1, 1) := by decide +kernel
theorem dX12_root_1 : decode cX12_root 1 = .ok (.invokestatic 172, 3) := by decide +kernel
theorem dX12_root_4 : decode cX12_root 4 = .ok (.ifCond .ne 6, 3) := by decide +kernel
theorem dX12_root_7 : decode cX12_root 7 = .ok (.bipush (-2), 2) := by decide +kernel
theorem dX12_root_9 : decode cX12_root 9 = .ok (.ireturn, 1) := by decide +kernel
theorem dX12_root_10 : decode cX12_root 10 = .ok (.iconst 0, 1) := by decide +kernel
theorem dX12_root_11 : decode cX12_root 11 = .ok (.istore_n 2, 1) := by decide +kernel
theorem dX12_root_12 : decode cX12_root 12 = .ok (.iconst 1, 1) := by decide +kernel
theorem dX12_root_13 : decode cX12_root 13 = .ok (.istore_n 3, 1) := by decide +kernel
theorem dX12_root_14 : decode cX12_root 14 = .ok (.iload_n 3, 1) := by decide +kernel
theorem dX12_root_15 : decode cX12_root 15 = .ok (.aload_n 0, 1) := by decide +kernel
theorem dX12_root_16 : decode cX12_root 16 = .ok (.getfield 17, 3) := by decide +kernel
theorem dX12_root_19 : decode cX12_root 19 = .ok (.iload_n 1, 1) := by decide +kernel
theorem dX12_root_20 : decode cX12_root 20 = .ok (.iaload, 1) := by decide +kernel
theorem dX12_root_21 : decode cX12_root 21 = .ok (.if_icmp .gt 24, 3) := by decide +kernel
theorem dX12_root_24 : decode cX12_root 24 = .ok (.aload_n 0, 1) := by decide +kernel
theorem dX12_root_25 : decode cX12_root 25 = .ok (.iload_n 1, 1) := by decide +kernel
theorem dX12_root_26 : decode cX12_root 26 = .ok (.iload_n 3, 1) := by decide +kernel
theorem dX12_root_27 : decode cX12_root 27 = .ok (.invokevirtual 232, 3) := by decide +kernel
theorem dX12_root_30 : decode cX12_root 30 = .ok (.ifCond .eq 7, 3) := by decide +kernel
theorem dX12_root_33 : decode cX12_root 33 = .ok (.iload_n 3, 1) := by decide +kernel
theorem dX12_root_34 : decode cX12_root 34 = .ok (.goto 4, 3) := by decide +kernel
theorem dX12_root_37 : decode cX12_root 37 = .ok (.iload_n 2, 1) := by decide +kernel
theorem dX12_root_38 : decode cX12_root 38 = .ok (.istore_n 2, 1) := by decide +kernel
theorem dX12_root_39 : decode cX12_root 39 = .ok (.iinc 3 1, 3) := by decide +kernel
theorem dX12_root_42 : decode cX12_root 42 = .ok (.goto (-28), 3) := by decide +kernel
theorem dX12_root_45 : decode cX12_root 45 = .ok (.iload_n 2, 1) := by decide +kernel
theorem dX12_root_46 : decode cX12_root 46 = .ok (.ireturn, 1) := by decide +kernel
theorem dX12_keyOf_0 : decode cX12_keyOf 0 = .ok (.lconst 0, 1) := by decide +kernel
theorem dX12_keyOf_1 : decode cX12_keyOf 1 = .ok (.lstore_n 3, 1) := by decide +kernel
theorem dX12_keyOf_2 : decode cX12_keyOf 2 = .ok (.iconst 0, 1) := by decide +kernel
theorem dX12_keyOf_3 : decode cX12_keyOf 3 = .ok (.istore 5, 2) := by decide +kernel
theorem dX12_keyOf_5 : decode cX12_keyOf 5 = .ok (.iload 5, 2) := by decide +kernel
theorem dX12_keyOf_7 : decode cX12_keyOf 7 = .ok (.iload_n 2, 1) := by decide +kernel
theorem dX12_keyOf_8 : decode cX12_keyOf 8 = .ok (.if_icmp .ge 23, 3) := by decide +kernel
theorem dX12_keyOf_11 : decode cX12_keyOf 11 = .ok (.ldc2_w 235, 3) := by decide +kernel
theorem dX12_keyOf_14 : decode cX12_keyOf 14 = .ok (.lload_n 3, 1) := by decide +kernel
theorem dX12_keyOf_15 : decode cX12_keyOf 15 = .ok (.lmul, 1) := by decide +kernel
theorem dX12_keyOf_16 : decode cX12_keyOf 16 = .ok (.aload_n 1, 1) := by decide +kernel
theorem dX12_keyOf_17 : decode cX12_keyOf 17 = .ok (.iload 5, 2) := by decide +kernel
theorem dX12_keyOf_19 : decode cX12_keyOf 19 = .ok (.iaload, 1) := by decide +kernel
theorem dX12_keyOf_20 : decode cX12_keyOf 20 = .ok (.i2l, 1) := by decide +kernel
theorem dX12_keyOf_21 : decode cX12_keyOf 21 = .ok (.ladd, 1) := by decide +kernel
theorem dX12_keyOf_22 : decode cX12_keyOf 22 = .ok (.lconst 1, 1) := by decide +kernel
theorem dX12_keyOf_23 : decode cX12_keyOf 23 = .ok (.ladd, 1) := by decide +kernel
theorem dX12_keyOf_24 : decode cX12_keyOf 24 = .ok (.lstore_n 3, 1) := by decide +kernel
theorem dX12_keyOf_25 : decode cX12_keyOf 25 = .ok (.iinc 5 1, 3) := by decide +kernel
theorem dX12_keyOf_28 : decode cX12_keyOf 28 = .ok (.goto (-23), 3) := by decide +kernel
theorem dX12_keyOf_31 : decode cX12_keyOf 31 = .ok (.lload_n 3, 1) := by decide +kernel
theorem dX12_keyOf_32 : decode cX12_keyOf 32 = .ok (.lreturn, 1) := by decide +kernel
theorem dX12_isMetIn_0 : decode cX12_isMetIn 0 = .ok (.iconst 0, 1) := by decide +kernel
theorem dX12_isMetIn_1 : decode cX12_isMetIn 1 = .ok (.istore_n 3, 1) := by decide +kernel
theorem dX12_isMetIn_2 : decode cX12_isMetIn 2 = .ok (.iload_n 3, 1) := by decide +kernel
theorem dX12_isMetIn_3 : decode cX12_isMetIn 3 = .ok (.aload_n 0, 1) := by decide +kernel
theorem dX12_isMetIn_4 : decode cX12_isMetIn 4 = .ok (.getfield 237, 3) := by decide +kernel
theorem dX12_isMetIn_7 : decode cX12_isMetIn 7 = .ok (.if_icmp .ge 22, 3) := by decide +kernel
theorem dX12_isMetIn_10 : decode cX12_isMetIn 10 = .ok (.aload_n 0, 1) := by decide +kernel
theorem dX12_isMetIn_11 : decode cX12_isMetIn 11 = .ok (.getfield 62, 3) := by decide +kernel
theorem dX12_isMetIn_14 : decode cX12_isMetIn 14 = .ok (.iload_n 3, 1) := by decide +kernel
theorem dX12_isMetIn_15 : decode cX12_isMetIn 15 = .ok (.laload, 1) := by decide +kernel
theorem dX12_isMetIn_16 : decode cX12_isMetIn 16 = .ok (.lload_n 1, 1) := by decide +kernel
theorem dX12_isMetIn_17 : decode cX12_isMetIn 17 = .ok (.lcmp, 1) := by decide +kernel
theorem dX12_isMetIn_18 : decode cX12_isMetIn 18 = .ok (.ifCond .ne 5, 3) := by decide +kernel
theorem dX12_isMetIn_21 : decode cX12_isMetIn 21 = .ok (.iconst 1, 1) := by decide +kernel
theorem dX12_isMetIn_22 : decode cX12_isMetIn 22 = .ok (.ireturn, 1) := by decide +kernel
theorem dX12_isMetIn_23 : decode cX12_isMetIn 23 = .ok (.iinc 3 1, 3) := by decide +kernel
theorem dX12_isMetIn_26 : decode cX12_isMetIn 26 = .ok (.goto (-24), 3) := by decide +kernel
theorem dX12_isMetIn_29 : decode cX12_isMetIn 29 = .ok (.iconst 0, 1) := by decide +kernel
theorem dX12_isMetIn_30 : decode cX12_isMetIn 30 = .ok (.ireturn, 1) := by decide +kernel
theorem dX12_findCircle_0 : decode cX12_findCircle 0 = .ok (.aload_n 0, 1) := by decide +kernel
theorem dX12_findCircle_1 : decode cX12_findCircle 1 = .ok (.getfield 17, 3) := by decide +kernel
theorem dX12_findCircle_4 : decode cX12_findCircle 4 = .ok (.iload_n 1, 1) := by decide +kernel
theorem dX12_findCircle_5 : decode cX12_findCircle 5 = .ok (.iaload, 1) := by decide +kernel
theorem dX12_findCircle_6 : decode cX12_findCircle 6 = .ok (.istore_n 2, 1) := by decide +kernel
theorem dX12_findCircle_7 : decode cX12_findCircle 7 = .ok (.aload_n 0, 1) := by decide +kernel
theorem dX12_findCircle_8 : decode cX12_findCircle 8 = .ok (.iload_n 1, 1) := by decide +kernel
theorem dX12_findCircle_9 : decode cX12_findCircle 9 = .ok (.aload_n 0, 1) := by decide +kernel
theorem dX12_findCircle_10 : decode cX12_findCircle 10 = .ok (.getfield 29, 3) := by decide +kernel
theorem dX12_findCircle_13 : decode cX12_findCircle 13 = .ok (.invokevirtual 186, 3) := by decide +kernel
theorem dX12_findCircle_16 : decode cX12_findCircle 16 = .ok (.aload_n 0, 1) := by decide +kernel
theorem dX12_findCircle_17 : decode cX12_findCircle 17 = .ok (.aload_n 0, 1) := by decide +kernel
theorem dX12_findCircle_18 : decode cX12_findCircle 18 = .ok (.getfield 29, 3) := by decide +kernel
theorem dX12_findCircle_21 : decode cX12_findCircle 21 = .ok (.iload_n 2, 1) := by decide +kernel
theorem dX12_findCircle_22 : decode cX12_findCircle 22 = .ok (.invokevirtual 190, 3) := by decide +kernel
theorem dX12_findCircle_25 : decode cX12_findCircle 25 = .ok (.pop, 1) := by decide +kernel
theorem dX12_findCircle_26 : decode cX12_findCircle 26 = .ok (.aload_n 0, 1) := by decide +kernel
theorem dX12_findCircle_27 : decode cX12_findCircle 27 = .ok (.getfield 62, 3) := by decide +kernel
theorem dX12_findCircle_30 : decode cX12_findCircle 30 = .ok (.iconst 0, 1) := by decide +kernel
theorem dX12_findCircle_31 : decode cX12_findCircle 31 = .ok (.aload_n 0, 1) := by decide +kernel
theorem dX12_findCircle_32 : decode cX12_findCircle 32 = .ok (.aload_n 0, 1) := by decide +kernel
theorem dX12_findCircle_33 : decode cX12_findCircle 33 = .ok (.getfield 35, 3) := by decide +kernel
theorem dX12_findCircle_36 : decode cX12_findCircle 36 = .ok (.iload_n 2, 1) := by decide +kernel
theorem dX12_findCircle_37 : decode cX12_findCircle 37 = .ok (.invokevirtual 240, 3) := by decide +kernel
theorem dX12_findCircle_40 : decode cX12_findCircle 40 = .ok (.lastore, 1) := by decide +kernel
theorem dX12_findCircle_41 : decode cX12_findCircle 41 = .ok (.aload_n 0, 1) := by decide +kernel
theorem dX12_findCircle_42 : decode cX12_findCircle 42 = .ok (.iconst 1, 1) := by decide +kernel
theorem dX12_findCircle_43 : decode cX12_findCircle 43 = .ok (.putfield 237, 3) := by decide +kernel
theorem dX12_findCircle_46 : decode cX12_findCircle 46 = .ok (.iconst 0, 1) := by decide +kernel
theorem dX12_findCircle_47 : decode cX12_findCircle 47 = .ok (.istore_n 3, 1) := by decide +kernel
theorem dX12_findCircle_48 : decode cX12_findCircle 48 = .ok (.iload_n 3, 1) := by decide +kernel
theorem dX12_findCircle_49 : decode cX12_findCircle 49 = .ok (.aload_n 0, 1) := by decide +kernel
theorem dX12_findCircle_50 : decode cX12_findCircle 50 = .ok (.getfield 237, 3) := by decide +kernel
theorem dX12_findCircle_53 : decode cX12_findCircle 53 = .ok (.if_icmp .ge 212, 3) := by decide +kernel
theorem dX12_findCircle_56 : decode cX12_findCircle 56 = .ok (.aload_n 0, 1) := by decide +kernel
theorem dX12_findCircle_57 : decode cX12_findCircle 57 = .ok (.getfield 237, 3) := by decide +kernel
theorem dX12_findCircle_60 : decode cX12_findCircle 60 = .ok (.sipush 2000, 3) := by decide +kernel
theorem dX12_findCircle_63 : decode cX12_findCircle 63 = .ok (.if_icmp .gt 202, 3) := by decide +kernel
theorem dX12_findCircle_66 : decode cX12_findCircle 66 = .ok (.iconst 0, 1) := by decide +kernel
theorem dX12_findCircle_67 : decode cX12_findCircle 67 = .ok (.istore 4, 2) := by decide +kernel
theorem dX12_findCircle_69 : decode cX12_findCircle 69 = .ok (.iload 4, 2) := by decide +kernel
theorem dX12_findCircle_71 : decode cX12_findCircle 71 = .ok (.bipush 6, 2) := by decide +kernel
theorem dX12_findCircle_73 : decode cX12_findCircle 73 = .ok (.if_icmp .ge 186, 3) := by decide +kernel
theorem dX12_findCircle_76 : decode cX12_findCircle 76 = .ok (.aload_n 0, 1) := by decide +kernel
theorem dX12_findCircle_77 : decode cX12_findCircle 77 = .ok (.getfield 237, 3) := by decide +kernel
theorem dX12_findCircle_80 : decode cX12_findCircle 80 = .ok (.sipush 2000, 3) := by decide +kernel
theorem dX12_findCircle_83 : decode cX12_findCircle 83 = .ok (.if_icmp .gt 176, 3) := by decide +kernel
theorem dX12_findCircle_86 : decode cX12_findCircle 86 = .ok (.aload_n 0, 1) := by decide +kernel
theorem dX12_findCircle_87 : decode cX12_findCircle 87 = .ok (.getfield 62, 3) := by decide +kernel
theorem dX12_findCircle_90 : decode cX12_findCircle 90 = .ok (.iload_n 3, 1) := by decide +kernel
theorem dX12_findCircle_91 : decode cX12_findCircle 91 = .ok (.laload, 1) := by decide +kernel
theorem dX12_findCircle_92 : decode cX12_findCircle 92 = .ok (.lstore 5, 2) := by decide +kernel
theorem dX12_findCircle_94 : decode cX12_findCircle 94 = .ok (.iload_n 2, 1) := by decide +kernel
theorem dX12_findCircle_95 : decode cX12_findCircle 95 = .ok (.iconst 1, 1) := by decide +kernel
theorem dX12_findCircle_96 : decode cX12_findCircle 96 = .ok (.isub, 1) := by decide +kernel
theorem dX12_findCircle_97 : decode cX12_findCircle 97 = .ok (.istore 7, 2) := by decide +kernel
theorem dX12_findCircle_99 : decode cX12_findCircle 99 = .ok (.iload 7, 2) := by decide +kernel
theorem dX12_findCircle_101 : decode cX12_findCircle 101 = .ok (.ifCond .lt 33, 3) := by decide +kernel
theorem dX12_findCircle_104 : decode cX12_findCircle 104 = .ok (.aload_n 0, 1) := by decide +kernel
theorem dX12_findCircle_105 : decode cX12_findCircle 105 = .ok (.getfield 29, 3) := by decide +kernel
theorem dX12_findCircle_108 : decode cX12_findCircle 108 = .ok (.iload 7, 2) := by decide +kernel
theorem dX12_findCircle_110 : decode cX12_findCircle 110 = .ok (.lload 5, 2) := by decide +kernel
theorem dX12_findCircle_112 : decode cX12_findCircle 112 = .ok (.ldc2_w 235, 3) := by decide +kernel
theorem dX12_findCircle_115 : decode cX12_findCircle 115 = .ok (.lrem, 1) := by decide +kernel
theorem dX12_findCircle_116 : decode cX12_findCircle 116 = .ok (.l2i, 1) := by decide +kernel
theorem dX12_findCircle_117 : decode cX12_findCircle 117 = .ok (.iconst 1, 1) := by decide +kernel
theorem dX12_findCircle_118 : decode cX12_findCircle 118 = .ok (.isub, 1) := by decide +kernel
theorem dX12_findCircle_119 : decode cX12_findCircle 119 = .ok (.iastore, 1) := by decide +kernel
theorem dX12_findCircle_120 : decode cX12_findCircle 120 = .ok (.lload 5, 2) := by decide +kernel
theorem dX12_findCircle_122 : decode cX12_findCircle 122 = .ok (.ldc2_w 235, 3) := by decide +kernel
theorem dX12_findCircle_125 : decode cX12_findCircle 125 = .ok (.ldiv, 1) := by decide +kernel
theorem dX12_findCircle_126 : decode cX12_findCircle 126 = .ok (.lstore 5, 2) := by decide +kernel
theorem dX12_findCircle_128 : decode cX12_findCircle 128 = .ok (.iinc 7 (-1), 3) := by decide +kernel
theorem dX12_findCircle_131 : decode cX12_findCircle 131 = .ok (.goto (-32), 3) := by decide +kernel
theorem dX12_findCircle_134 : decode cX12_findCircle 134 = .ok (.aload_n 0, 1) := by decide +kernel
theorem dX12_findCircle_135 : decode cX12_findCircle 135 = .ok (.iload_n 2, 1) := by decide +kernel
theorem dX12_findCircle_136 : decode cX12_findCircle 136 = .ok (.invokevirtual 179, 3) := by decide +kernel
theorem dX12_findCircle_139 : decode cX12_findCircle 139 = .ok (.aload_n 0, 1) := by decide +kernel
theorem dX12_findCircle_140 : decode cX12_findCircle 140 = .ok (.aload_n 0, 1) := by decide +kernel
theorem dX12_findCircle_141 : decode cX12_findCircle 141 = .ok (.getfield 29, 3) := by decide +kernel
theorem dX12_findCircle_144 : decode cX12_findCircle 144 = .ok (.iload_n 2, 1) := by decide +kernel
theorem dX12_findCircle_145 : decode cX12_findCircle 145 = .ok (.iload 4, 2) := by decide +kernel
theorem dX12_findCircle_147 : decode cX12_findCircle 147 = .ok (.invokevirtual 175, 3) := by decide +kernel
theorem dX12_findCircle_150 : decode cX12_findCircle 150 = .ok (.istore 7, 2) := by decide +kernel
theorem dX12_findCircle_152 : decode cX12_findCircle 152 = .ok (.iload 7, 2) := by decide +kernel
theorem dX12_findCircle_154 : decode cX12_findCircle 154 = .ok (.iconst (-1), 1) := by decide +kernel
theorem dX12_findCircle_155 : decode cX12_findCircle 155 = .ok (.if_icmp .eq 98, 3) := by decide +kernel
theorem dX12_findCircle_158 : decode cX12_findCircle 158 = .ok (.iload 7, 2) := by decide +kernel
theorem dX12_findCircle_160 : decode cX12_findCircle 160 = .ok (.istore 8, 2) := by decide +kernel
theorem dX12_findCircle_162 : decode cX12_findCircle 162 = .ok (.iload 8, 2) := by decide +kernel
theorem dX12_findCircle_164 : decode cX12_findCircle 164 = .ok (.iconst 1, 1) := by decide +kernel
theorem dX12_findCircle_165 : decode cX12_findCircle 165 = .ok (.iadd, 1) := by decide +kernel
theorem dX12_findCircle_166 : decode cX12_findCircle 166 = .ok (.iload_n 2, 1) := by decide +kernel
theorem dX12_findCircle_167 : decode cX12_findCircle 167 = .ok (.if_icmp .ge 25, 3) := by decide +kernel
theorem dX12_findCircle_170 : decode cX12_findCircle 170 = .ok (.aload_n 0, 1) := by decide +kernel
theorem dX12_findCircle_171 : decode cX12_findCircle 171 = .ok (.getfield 29, 3) := by decide +kernel
theorem dX12_findCircle_174 : decode cX12_findCircle 174 = .ok (.iload 8, 2) := by decide +kernel
theorem dX12_findCircle_176 : decode cX12_findCircle 176 = .ok (.aload_n 0, 1) := by decide +kernel
theorem dX12_findCircle_177 : decode cX12_findCircle 177 = .ok (.getfield 29, 3) := by decide +kernel
theorem dX12_findCircle_180 : decode cX12_findCircle 180 = .ok (.iload 8, 2) := by decide +kernel
theorem dX12_findCircle_182 : decode cX12_findCircle 182 = .ok (.iconst 1, 1) := by decide +kernel
theorem dX12_findCircle_183 : decode cX12_findCircle 183 = .ok (.iadd, 1) := by decide +kernel
theorem dX12_findCircle_184 : decode cX12_findCircle 184 = .ok (.iaload, 1) := by decide +kernel
theorem dX12_findCircle_185 : decode cX12_findCircle 185 = .ok (.iastore, 1) := by decide +kernel
theorem dX12_findCircle_186 : decode cX12_findCircle 186 = .ok (.iinc 8 1, 3) := by decide +kernel
theorem dX12_findCircle_189 : decode cX12_findCircle 189 = .ok (.goto (-27), 3) := by decide +kernel
theorem dX12_findCircle_192 : decode cX12_findCircle 192 = .ok (.aload_n 0, 1) := by decide +kernel
theorem dX12_findCircle_193 : decode cX12_findCircle 193 = .ok (.getfield 29, 3) := by decide +kernel
theorem dX12_findCircle_196 : decode cX12_findCircle 196 = .ok (.iload_n 2, 1) := by decide +kernel
theorem dX12_findCircle_197 : decode cX12_findCircle 197 = .ok (.iconst 1, 1) := by decide +kernel
theorem dX12_findCircle_198 : decode cX12_findCircle 198 = .ok (.isub, 1) := by decide +kernel
theorem dX12_findCircle_199 : decode cX12_findCircle 199 = .ok (.iload 4, 2) := by decide +kernel
theorem dX12_findCircle_201 : decode cX12_findCircle 201 = .ok (.iastore, 1) := by decide +kernel
theorem dX12_findCircle_202 : decode cX12_findCircle 202 = .ok (.aload_n 0, 1) := by decide +kernel
theorem dX12_findCircle_203 : decode cX12_findCircle 203 = .ok (.aload_n 0, 1) := by decide +kernel
theorem dX12_findCircle_204 : decode cX12_findCircle 204 = .ok (.getfield 29, 3) := by decide +kernel
theorem dX12_findCircle_207 : decode cX12_findCircle 207 = .ok (.iload_n 2, 1) := by decide +kernel
theorem dX12_findCircle_208 : decode cX12_findCircle 208 = .ok (.invokevirtual 190, 3) := by decide +kernel
theorem dX12_findCircle_211 : decode cX12_findCircle 211 = .ok (.pop, 1) := by decide +kernel
theorem dX12_findCircle_212 : decode cX12_findCircle 212 = .ok (.aload_n 0, 1) := by decide +kernel
theorem dX12_findCircle_213 : decode cX12_findCircle 213 = .ok (.aload_n 0, 1) := by decide +kernel
theorem dX12_findCircle_214 : decode cX12_findCircle 214 = .ok (.getfield 35, 3) := by decide +kernel
theorem dX12_findCircle_217 : decode cX12_findCircle 217 = .ok (.iload_n 2, 1) := by decide +kernel
theorem dX12_findCircle_218 : decode cX12_findCircle 218 = .ok (.invokevirtual 240, 3) := by decide +kernel
theorem dX12_findCircle_221 : decode cX12_findCircle 221 = .ok (.lstore 8, 2) := by decide +kernel
theorem dX12_findCircle_223 : decode cX12_findCircle 223 = .ok (.aload_n 0, 1) := by decide +kernel
theorem dX12_findCircle_224 : decode cX12_findCircle 224 = .ok (.lload 8, 2) := by decide +kernel
theorem dX12_findCircle_226 : decode cX12_findCircle 226 = .ok (.invokevirtual 244, 3) := by decide +kernel
theorem dX12_findCircle_229 : decode cX12_findCircle 229 = .ok (.ifCond .ne 24, 3) := by decide +kernel
theorem dX12_findCircle_232 : decode cX12_findCircle 232 = .ok (.aload_n 0, 1) := by decide +kernel
theorem dX12_findCircle_233 : decode cX12_findCircle 233 = .ok (.getfield 62, 3) := by decide +kernel
theorem dX12_findCircle_236 : decode cX12_findCircle 236 = .ok (.aload_n 0, 1) := by decide +kernel
theorem dX12_findCircle_237 : decode cX12_findCircle 237 = .ok (.getfield 237, 3) := by decide +kernel
theorem dX12_findCircle_240 : decode cX12_findCircle 240 = .ok (.lload 8, 2) := by decide +kernel
theorem dX12_findCircle_242 : decode cX12_findCircle 242 = .ok (.lastore, 1) := by decide +kernel
theorem dX12_findCircle_243 : decode cX12_findCircle 243 = .ok (.aload_n 0, 1) := by decide +kernel
theorem dX12_findCircle_244 : decode cX12_findCircle 244 = .ok (.dup, 1) := by decide +kernel
theorem dX12_findCircle_245 : decode cX12_findCircle 245 = .ok (.getfield 237, 3) := by decide +kernel
theorem dX12_findCircle_248 : decode cX12_findCircle 248 = .ok (.iconst 1, 1) := by decide +kernel
theorem dX12_findCircle_249 : decode cX12_findCircle 249 = .ok (.iadd, 1) := by decide +kernel
theorem dX12_findCircle_250 : decode cX12_findCircle 250 = .ok (.putfield 237, 3) := by decide +kernel
theorem dX12_findCircle_253 : decode cX12_findCircle 253 = .ok (.iinc 4 1, 3) := by decide +kernel
theorem dX12_findCircle_256 : decode cX12_findCircle 256 = .ok (.goto (-187), 3) := by decide +kernel
theorem dX12_findCircle_259 : decode cX12_findCircle 259 = .ok (.iinc 3 1, 3) := by decide +kernel
theorem dX12_findCircle_262 : decode cX12_findCircle 262 = .ok (.goto (-214), 3) := by decide +kernel
theorem dX12_findCircle_265 : decode cX12_findCircle 265 = .ok (.return_, 1) := by decide +kernel
theorem dX12_circle_0 : decode cX12_circle 0 = .ok (.iload_n 1, 1) := by decide +kernel
theorem dX12_circle_1 : decode cX12_circle 1 = .ok (.invokestatic 172, 3) := by decide +kernel
theorem dX12_circle_4 : decode cX12_circle 4 = .ok (.ifCond .ne 6, 3) := by decide +kernel
theorem dX12_circle_7 : decode cX12_circle 7 = .ok (.bipush (-2), 2) := by decide +kernel
theorem dX12_circle_9 : decode cX12_circle 9 = .ok (.ireturn, 1) := by decide +kernel
theorem dX12_circle_10 : decode cX12_circle 10 = .ok (.aload_n 0, 1) := by decide +kernel
theorem dX12_circle_11 : decode cX12_circle 11 = .ok (.getfield 17, 3) := by decide +kernel
theorem dX12_circle_14 : decode cX12_circle 14 = .ok (.iload_n 1, 1) := by decide +kernel
theorem dX12_circle_15 : decode cX12_circle 15 = .ok (.iaload, 1) := by decide +kernel
theorem dX12_circle_16 : decode cX12_circle 16 = .ok (.bipush 12, 2) := by decide +kernel
theorem dX12_circle_18 : decode cX12_circle 18 = .ok (.if_icmp .le 6, 3) := by decide +kernel
theorem dX12_circle_21 : decode cX12_circle 21 = .ok (.bipush (-3), 2) := by decide +kernel
theorem dX12_circle_23 : decode cX12_circle 23 = .ok (.ireturn, 1) := by decide +kernel
theorem dX12_circle_24 : decode cX12_circle 24 = .ok (.aload_n 0, 1) := by decide +kernel
theorem dX12_circle_25 : decode cX12_circle 25 = .ok (.iload_n 1, 1) := by decide +kernel
theorem dX12_circle_26 : decode cX12_circle 26 = .ok (.invokevirtual 248, 3) := by decide +kernel
theorem dX12_circle_29 : decode cX12_circle 29 = .ok (.aload_n 0, 1) := by decide +kernel
theorem dX12_circle_30 : decode cX12_circle 30 = .ok (.getfield 237, 3) := by decide +kernel
theorem dX12_circle_33 : decode cX12_circle 33 = .ok (.sipush 2000, 3) := by decide +kernel
theorem dX12_circle_36 : decode cX12_circle 36 = .ok (.if_icmp .le 8, 3) := by decide +kernel
theorem dX12_circle_39 : decode cX12_circle 39 = .ok (.bipush (-6), 2) := by decide +kernel
theorem dX12_circle_41 : decode cX12_circle 41 = .ok (.goto 7, 3) := by decide +kernel
theorem dX12_circle_44 : decode cX12_circle 44 = .ok (.aload_n 0, 1) := by decide +kernel
theorem dX12_circle_45 : decode cX12_circle 45 = .ok (.getfield 237, 3) := by decide +kernel
theorem dX12_circle_48 : decode cX12_circle 48 = .ok (.ireturn, 1) := by decide +kernel
theorem dX12_turned_0 : decode cX12_turned 0 = .ok (.iload_n 1, 1) := by decide +kernel
theorem dX12_turned_1 : decode cX12_turned 1 = .ok (.invokestatic 172, 3) := by decide +kernel
theorem dX12_turned_4 : decode cX12_turned 4 = .ok (.ifCond .eq 10, 3) := by decide +kernel
theorem dX12_turned_7 : decode cX12_turned 7 = .ok (.iload_n 2, 1) := by decide +kernel
theorem dX12_turned_8 : decode cX12_turned 8 = .ok (.invokestatic 172, 3) := by decide +kernel
theorem dX12_turned_11 : decode cX12_turned 11 = .ok (.ifCond .ne 6, 3) := by decide +kernel
theorem dX12_turned_14 : decode cX12_turned 14 = .ok (.bipush (-2), 2) := by decide +kernel
theorem dX12_turned_16 : decode cX12_turned 16 = .ok (.ireturn, 1) := by decide +kernel
theorem dX12_turned_17 : decode cX12_turned 17 = .ok (.aload_n 0, 1) := by decide +kernel
theorem dX12_turned_18 : decode cX12_turned 18 = .ok (.getfield 17, 3) := by decide +kernel
theorem dX12_turned_21 : decode cX12_turned 21 = .ok (.iload_n 1, 1) := by decide +kernel
theorem dX12_turned_22 : decode cX12_turned 22 = .ok (.iaload, 1) := by decide +kernel
theorem dX12_turned_23 : decode cX12_turned 23 = .ok (.bipush 12, 2) := by decide +kernel
theorem dX12_turned_25 : decode cX12_turned 25 = .ok (.if_icmp .le 6, 3) := by decide +kernel
theorem dX12_turned_28 : decode cX12_turned 28 = .ok (.bipush (-3), 2) := by decide +kernel
theorem dX12_turned_30 : decode cX12_turned 30 = .ok (.ireturn, 1) := by decide +kernel
theorem dX12_turned_31 : decode cX12_turned 31 = .ok (.aload_n 0, 1) := by decide +kernel
theorem dX12_turned_32 : decode cX12_turned 32 = .ok (.iload_n 1, 1) := by decide +kernel
theorem dX12_turned_33 : decode cX12_turned 33 = .ok (.invokevirtual 248, 3) := by decide +kernel
theorem dX12_turned_36 : decode cX12_turned 36 = .ok (.aload_n 0, 1) := by decide +kernel
theorem dX12_turned_37 : decode cX12_turned 37 = .ok (.getfield 237, 3) := by decide +kernel
theorem dX12_turned_40 : decode cX12_turned 40 = .ok (.sipush 2000, 3) := by decide +kernel
theorem dX12_turned_43 : decode cX12_turned 43 = .ok (.if_icmp .le 6, 3) := by decide +kernel
theorem dX12_turned_46 : decode cX12_turned 46 = .ok (.bipush (-6), 2) := by decide +kernel
theorem dX12_turned_48 : decode cX12_turned 48 = .ok (.ireturn, 1) := by decide +kernel
theorem dX12_turned_49 : decode cX12_turned 49 = .ok (.aload_n 0, 1) := by decide +kernel
theorem dX12_turned_50 : decode cX12_turned 50 = .ok (.iload_n 2, 1) := by decide +kernel
theorem dX12_turned_51 : decode cX12_turned 51 = .ok (.aload_n 0, 1) := by decide +kernel
theorem dX12_turned_52 : decode cX12_turned 52 = .ok (.getfield 29, 3) := by decide +kernel
theorem dX12_turned_55 : decode cX12_turned 55 = .ok (.invokevirtual 186, 3) := by decide +kernel
theorem dX12_turned_58 : decode cX12_turned 58 = .ok (.aload_n 0, 1) := by decide +kernel
theorem dX12_turned_59 : decode cX12_turned 59 = .ok (.aload_n 0, 1) := by decide +kernel
theorem dX12_turned_60 : decode cX12_turned 60 = .ok (.getfield 29, 3) := by decide +kernel
theorem dX12_turned_63 : decode cX12_turned 63 = .ok (.aload_n 0, 1) := by decide +kernel
theorem dX12_turned_64 : decode cX12_turned 64 = .ok (.getfield 17, 3) := by decide +kernel
theorem dX12_turned_67 : decode cX12_turned 67 = .ok (.iload_n 2, 1) := by decide +kernel
theorem dX12_turned_68 : decode cX12_turned 68 = .ok (.iaload, 1) := by decide +kernel
theorem dX12_turned_69 : decode cX12_turned 69 = .ok (.invokevirtual 190, 3) := by decide +kernel
theorem dX12_turned_72 : decode cX12_turned 72 = .ok (.pop, 1) := by decide +kernel
theorem dX12_turned_73 : decode cX12_turned 73 = .ok (.aload_n 0, 1) := by decide +kernel
theorem dX12_turned_74 : decode cX12_turned 74 = .ok (.getfield 17, 3) := by decide +kernel
theorem dX12_turned_77 : decode cX12_turned 77 = .ok (.iload_n 1, 1) := by decide +kernel
theorem dX12_turned_78 : decode cX12_turned 78 = .ok (.iaload, 1) := by decide +kernel
theorem dX12_turned_79 : decode cX12_turned 79 = .ok (.aload_n 0, 1) := by decide +kernel
theorem dX12_turned_80 : decode cX12_turned 80 = .ok (.getfield 17, 3) := by decide +kernel
theorem dX12_turned_83 : decode cX12_turned 83 = .ok (.iload_n 2, 1) := by decide +kernel
theorem dX12_turned_84 : decode cX12_turned 84 = .ok (.iaload, 1) := by decide +kernel
theorem dX12_turned_85 : decode cX12_turned 85 = .ok (.if_icmp .ne 28, 3) := by decide +kernel
theorem dX12_turned_88 : decode cX12_turned 88 = .ok (.aload_n 0, 1) := by decide +kernel
theorem dX12_turned_89 : decode cX12_turned 89 = .ok (.aload_n 0, 1) := by decide +kernel
theorem dX12_turned_90 : decode cX12_turned 90 = .ok (.aload_n 0, 1) := by decide +kernel
theorem dX12_turned_91 : decode cX12_turned 91 = .ok (.getfield 35, 3) := by decide +kernel
theorem dX12_turned_94 : decode cX12_turned 94 = .ok (.aload_n 0, 1) := by decide +kernel
theorem dX12_turned_95 : decode cX12_turned 95 = .ok (.getfield 17, 3) := by decide +kernel
theorem dX12_turned_98 : decode cX12_turned 98 = .ok (.iload_n 2, 1) := by decide +kernel
theorem dX12_turned_99 : decode cX12_turned 99 = .ok (.iaload, 1) := by decide +kernel
theorem dX12_turned_100 : decode cX12_turned 100 = .ok (.invokevirtual 240, 3) := by decide +kernel
theorem dX12_turned_103 : decode cX12_turned 103 = .ok (.invokevirtual 244, 3) := by decide +kernel
theorem dX12_turned_106 : decode cX12_turned 106 = .ok (.ifCond .eq 7, 3) := by decide +kernel
theorem dX12_turned_109 : decode cX12_turned 109 = .ok (.iconst 1, 1) := by decide +kernel
theorem dX12_turned_110 : decode cX12_turned 110 = .ok (.goto 4, 3) := by decide +kernel
theorem dX12_turned_113 : decode cX12_turned 113 = .ok (.iconst 0, 1) := by decide +kernel
theorem dX12_turned_114 : decode cX12_turned 114 = .ok (.ireturn, 1) := by decide +kernel
theorem dX12_togetherOf_0 : decode cX12_togetherOf 0 = .ok (.iconst 0, 1) := by decide +kernel
theorem dX12_togetherOf_1 : decode cX12_togetherOf 1 = .ok (.istore_n 2, 1) := by decide +kernel
theorem dX12_togetherOf_2 : decode cX12_togetherOf 2 = .ok (.iconst 0, 1) := by decide +kernel
theorem dX12_togetherOf_3 : decode cX12_togetherOf 3 = .ok (.istore_n 3, 1) := by decide +kernel
theorem dX12_togetherOf_4 : decode cX12_togetherOf 4 = .ok (.iload_n 3, 1) := by decide +kernel
theorem dX12_togetherOf_5 : decode cX12_togetherOf 5 = .ok (.iconst 1, 1) := by decide +kernel
theorem dX12_togetherOf_6 : decode cX12_togetherOf 6 = .ok (.aload_n 0, 1) := by decide +kernel
theorem dX12_togetherOf_7 : decode cX12_togetherOf 7 = .ok (.getfield 7, 3) := by decide +kernel
theorem dX12_togetherOf_10 : decode cX12_togetherOf 10 = .ok (.ishl, 1) := by decide +kernel
theorem dX12_togetherOf_11 : decode cX12_togetherOf 11 = .ok (.if_icmp .ge 98, 3) := by decide +kernel
theorem dX12_togetherOf_14 : decode cX12_togetherOf 14 = .ok (.iconst 0, 1) := by decide +kernel
theorem dX12_togetherOf_15 : decode cX12_togetherOf 15 = .ok (.istore 4, 2) := by decide +kernel
theorem dX12_togetherOf_17 : decode cX12_togetherOf 17 = .ok (.iconst 1, 1) := by decide +kernel
theorem dX12_togetherOf_18 : decode cX12_togetherOf 18 = .ok (.istore 5, 2) := by decide +kernel
theorem dX12_togetherOf_20 : decode cX12_togetherOf 20 = .ok (.iconst 0, 1) := by decide +kernel
theorem dX12_togetherOf_21 : decode cX12_togetherOf 21 = .ok (.istore 6, 2) := by decide +kernel
theorem dX12_togetherOf_23 : decode cX12_togetherOf 23 = .ok (.iload 6, 2) := by decide +kernel
theorem dX12_togetherOf_25 : decode cX12_togetherOf 25 = .ok (.aload_n 0, 1) := by decide +kernel
theorem dX12_togetherOf_26 : decode cX12_togetherOf 26 = .ok (.getfield 7, 3) := by decide +kernel
theorem dX12_togetherOf_29 : decode cX12_togetherOf 29 = .ok (.if_icmp .ge 55, 3) := by decide +kernel
theorem dX12_togetherOf_32 : decode cX12_togetherOf 32 = .ok (.iload_n 3, 1) := by decide +kernel
theorem dX12_togetherOf_33 : decode cX12_togetherOf 33 = .ok (.iload 6, 2) := by decide +kernel
theorem dX12_togetherOf_35 : decode cX12_togetherOf 35 = .ok (.ishr, 1) := by decide +kernel
theorem dX12_togetherOf_36 : decode cX12_togetherOf 36 = .ok (.iconst 1, 1) := by decide +kernel
theorem dX12_togetherOf_37 : decode cX12_togetherOf 37 = .ok (.iand, 1) := by decide +kernel
theorem dX12_togetherOf_38 : decode cX12_togetherOf 38 = .ok (.iconst 1, 1) := by decide +kernel
theorem dX12_togetherOf_39 : decode cX12_togetherOf 39 = .ok (.if_icmp .ne 39, 3) := by decide +kernel
theorem dX12_togetherOf_42 : decode cX12_togetherOf 42 = .ok (.iinc 4 1, 3) := by decide +kernel
theorem dX12_togetherOf_45 : decode cX12_togetherOf 45 = .ok (.iload 5, 2) := by decide +kernel
theorem dX12_togetherOf_47 : decode cX12_togetherOf 47 = .ok (.ifCond .eq 28, 3) := by decide +kernel
theorem dX12_togetherOf_50 : decode cX12_togetherOf 50 = .ok (.iload_n 3, 1) := by decide +kernel
theorem dX12_togetherOf_51 : decode cX12_togetherOf 51 = .ok (.iconst 1, 1) := by decide +kernel
theorem dX12_togetherOf_52 : decode cX12_togetherOf 52 = .ok (.iload 6, 2) := by decide +kernel
theorem dX12_togetherOf_54 : decode cX12_togetherOf 54 = .ok (.ishl, 1) := by decide +kernel
theorem dX12_togetherOf_55 : decode cX12_togetherOf 55 = .ok (.iconst (-1), 1) := by decide +kernel
theorem dX12_togetherOf_56 : decode cX12_togetherOf 56 = .ok (.ixor, 1) := by decide +kernel
theorem dX12_togetherOf_57 : decode cX12_togetherOf 57 = .ok (.iand, 1) := by decide +kernel
theorem dX12_togetherOf_58 : decode cX12_togetherOf 58 = .ok (.aload_n 0, 1) := by decide +kernel
theorem dX12_togetherOf_59 : decode cX12_togetherOf 59 = .ok (.getfield 13, 3) := by decide +kernel
theorem dX12_togetherOf_62 : decode cX12_togetherOf 62 = .ok (.iload 6, 2) := by decide +kernel
theorem dX12_togetherOf_64 : decode cX12_togetherOf 64 = .ok (.iaload, 1) := by decide +kernel
theorem dX12_togetherOf_65 : decode cX12_togetherOf 65 = .ok (.iconst (-1), 1) := by decide +kernel
theorem dX12_togetherOf_66 : decode cX12_togetherOf 66 = .ok (.ixor, 1) := by decide +kernel
theorem dX12_togetherOf_67 : decode cX12_togetherOf 67 = .ok (.iand, 1) := by decide +kernel
theorem dX12_togetherOf_68 : decode cX12_togetherOf 68 = .ok (.ifCond .ne 7, 3) := by decide +kernel
theorem dX12_togetherOf_71 : decode cX12_togetherOf 71 = .ok (.iconst 1, 1) := by decide +kernel
theorem dX12_togetherOf_72 : decode cX12_togetherOf 72 = .ok (.goto 4, 3) := by decide +kernel
theorem dX12_togetherOf_75 : decode cX12_togetherOf 75 = .ok (.iconst 0, 1) := by decide +kernel
theorem dX12_togetherOf_76 : decode cX12_togetherOf 76 = .ok (.istore 5, 2) := by decide +kernel
theorem dX12_togetherOf_78 : decode cX12_togetherOf 78 = .ok (.iinc 6 1, 3) := by decide +kernel
theorem dX12_togetherOf_81 : decode cX12_togetherOf 81 = .ok (.goto (-58), 3) := by decide +kernel
theorem dX12_togetherOf_84 : decode cX12_togetherOf 84 = .ok (.iload_n 2, 1) := by decide +kernel
theorem dX12_togetherOf_85 : decode cX12_togetherOf 85 = .ok (.iload 5, 2) := by decide +kernel
theorem dX12_togetherOf_87 : decode cX12_togetherOf 87 = .ok (.ifCond .eq 13, 3) := by decide +kernel
theorem dX12_togetherOf_90 : decode cX12_togetherOf 90 = .ok (.iload 4, 2) := by decide +kernel
theorem dX12_togetherOf_92 : decode cX12_togetherOf 92 = .ok (.iload_n 1, 1) := by decide +kernel
theorem dX12_togetherOf_93 : decode cX12_togetherOf 93 = .ok (.if_icmp .ne 7, 3) := by decide +kernel
theorem dX12_togetherOf_96 : decode cX12_togetherOf 96 = .ok (.iconst 1, 1) := by decide +kernel
theorem dX12_togetherOf_97 : decode cX12_togetherOf 97 = .ok (.goto 4, 3) := by decide +kernel
theorem dX12_togetherOf_100 : decode cX12_togetherOf 100 = .ok (.iconst 0, 1) := by decide +kernel
theorem dX12_togetherOf_101 : decode cX12_togetherOf 101 = .ok (.iadd, 1) := by decide +kernel
theorem dX12_togetherOf_102 : decode cX12_togetherOf 102 = .ok (.istore_n 2, 1) := by decide +kernel
theorem dX12_togetherOf_103 : decode cX12_togetherOf 103 = .ok (.iinc 3 1, 3) := by decide +kernel
theorem dX12_togetherOf_106 : decode cX12_togetherOf 106 = .ok (.goto (-102), 3) := by decide +kernel
theorem dX12_togetherOf_109 : decode cX12_togetherOf 109 = .ok (.iload_n 2, 1) := by decide +kernel
theorem dX12_togetherOf_110 : decode cX12_togetherOf 110 = .ok (.ireturn, 1) := by decide +kernel
theorem dX12_together_0 : decode cX12_together 0 = .ok (.iload_n 1, 1) := by decide +kernel
theorem dX12_together_1 : decode cX12_together 1 = .ok (.iconst 0, 1) := by decide +kernel
theorem dX12_together_2 : decode cX12_together 2 = .ok (.bipush 6, 2) := by decide +kernel
theorem dX12_together_4 : decode cX12_together 4 = .ok (.invokestatic 83, 3) := by decide +kernel
theorem dX12_together_7 : decode cX12_together 7 = .ok (.ifCond .eq 11, 3) := by decide +kernel
theorem dX12_together_10 : decode cX12_together 10 = .ok (.aload_n 0, 1) := by decide +kernel
theorem dX12_together_11 : decode cX12_together 11 = .ok (.iload_n 1, 1) := by decide +kernel
theorem dX12_together_12 : decode cX12_together 12 = .ok (.invokevirtual 251, 3) := by decide +kernel
theorem dX12_together_15 : decode cX12_together 15 = .ok (.goto 5, 3) := by decide +kernel
theorem dX12_together_18 : decode cX12_together 18 = .ok (.bipush (-3), 2) := by decide +kernel
theorem dX12_together_20 : decode cX12_together 20 = .ok (.ireturn, 1) := by decide +kernel
theorem dX12_many_0 : decode cX12_many 0 = .ok (.iload_n 1, 1) := by decide +kernel
theorem dX12_many_1 : decode cX12_many 1 = .ok (.iconst 0, 1) := by decide +kernel
theorem dX12_many_2 : decode cX12_many 2 = .ok (.bipush 60, 2) := by decide +kernel
theorem dX12_many_4 : decode cX12_many 4 = .ok (.invokestatic 83, 3) := by decide +kernel
theorem dX12_many_7 : decode cX12_many 7 = .ok (.ifCond .ne 6, 3) := by decide +kernel
theorem dX12_many_10 : decode cX12_many 10 = .ok (.bipush (-3), 2) := by decide +kernel
theorem dX12_many_12 : decode cX12_many 12 = .ok (.ireturn, 1) := by decide +kernel
theorem dX12_many_13 : decode cX12_many 13 = .ok (.iconst 0, 1) := by decide +kernel
theorem dX12_many_14 : decode cX12_many 14 = .ok (.istore_n 2, 1) := by decide +kernel
theorem dX12_many_15 : decode cX12_many 15 = .ok (.iload_n 2, 1) := by decide +kernel
theorem dX12_many_16 : decode cX12_many 16 = .ok (.bipush 6, 2) := by decide +kernel
theorem dX12_many_18 : decode cX12_many 18 = .ok (.if_icmp .ge 22, 3) := by decide +kernel
theorem dX12_many_21 : decode cX12_many 21 = .ok (.aload_n 0, 1) := by decide +kernel
theorem dX12_many_22 : decode cX12_many 22 = .ok (.getfield 59, 3) := by decide +kernel
theorem dX12_many_25 : decode cX12_many 25 = .ok (.iload_n 2, 1) := by decide +kernel
theorem dX12_many_26 : decode cX12_many 26 = .ok (.aload_n 0, 1) := by decide +kernel
theorem dX12_many_27 : decode cX12_many 27 = .ok (.iload_n 2, 1) := by decide +kernel
theorem dX12_many_28 : decode cX12_many 28 = .ok (.iconst 1, 1) := by decide +kernel
theorem dX12_many_29 : decode cX12_many 29 = .ok (.iadd, 1) := by decide +kernel
theorem dX12_many_30 : decode cX12_many 30 = .ok (.invokevirtual 251, 3) := by decide +kernel
theorem dX12_many_33 : decode cX12_many 33 = .ok (.iastore, 1) := by decide +kernel
theorem dX12_many_34 : decode cX12_many 34 = .ok (.iinc 2 1, 3) := by decide +kernel
theorem dX12_many_37 : decode cX12_many 37 = .ok (.goto (-22), 3) := by decide +kernel
theorem dX12_many_40 : decode cX12_many 40 = .ok (.aload_n 0, 1) := by decide +kernel
theorem dX12_many_41 : decode cX12_many 41 = .ok (.getfield 74, 3) := by decide +kernel
theorem dX12_many_44 : decode cX12_many 44 = .ok (.iconst 0, 1) := by decide +kernel
theorem dX12_many_45 : decode cX12_many 45 = .ok (.lconst 1, 1) := by decide +kernel
theorem dX12_many_46 : decode cX12_many 46 = .ok (.lastore, 1) := by decide +kernel
theorem dX12_many_47 : decode cX12_many 47 = .ok (.iconst 1, 1) := by decide +kernel
theorem dX12_many_48 : decode cX12_many 48 = .ok (.istore_n 2, 1) := by decide +kernel
theorem dX12_many_49 : decode cX12_many 49 = .ok (.iload_n 2, 1) := by decide +kernel
theorem dX12_many_50 : decode cX12_many 50 = .ok (.iload_n 1, 1) := by decide +kernel
theorem dX12_many_51 : decode cX12_many 51 = .ok (.if_icmp .gt 94, 3) := by decide +kernel
theorem dX12_many_54 : decode cX12_many 54 = .ok (.lconst 0, 1) := by decide +kernel
theorem dX12_many_55 : decode cX12_many 55 = .ok (.lstore_n 3, 1) := by decide +kernel
theorem dX12_many_56 : decode cX12_many 56 = .ok (.iconst 1, 1) := by decide +kernel
theorem dX12_many_57 : decode cX12_many 57 = .ok (.istore 5, 2) := by decide +kernel
theorem dX12_many_59 : decode cX12_many 59 = .ok (.iload 5, 2) := by decide +kernel
theorem dX12_many_61 : decode cX12_many 61 = .ok (.bipush 6, 2) := by decide +kernel
theorem dX12_many_63 : decode cX12_many 63 = .ok (.if_icmp .gt 65, 3) := by decide +kernel
theorem dX12_many_66 : decode cX12_many 66 = .ok (.iload 5, 2) := by decide +kernel
theorem dX12_many_68 : decode cX12_many 68 = .ok (.iload_n 2, 1) := by decide +kernel
theorem dX12_many_69 : decode cX12_many 69 = .ok (.if_icmp .gt 59, 3) := by decide +kernel
theorem dX12_many_72 : decode cX12_many 72 = .ok (.aload_n 0, 1) := by decide +kernel
theorem dX12_many_73 : decode cX12_many 73 = .ok (.getfield 59, 3) := by decide +kernel
theorem dX12_many_76 : decode cX12_many 76 = .ok (.iload 5, 2) := by decide +kernel
theorem dX12_many_78 : decode cX12_many 78 = .ok (.iconst 1, 1) := by decide +kernel
theorem dX12_many_79 : decode cX12_many 79 = .ok (.isub, 1) := by decide +kernel
theorem dX12_many_80 : decode cX12_many 80 = .ok (.iaload, 1) := by decide +kernel
theorem dX12_many_81 : decode cX12_many 81 = .ok (.i2l, 1) := by decide +kernel
theorem dX12_many_82 : decode cX12_many 82 = .ok (.aload_n 0, 1) := by decide +kernel
theorem dX12_many_83 : decode cX12_many 83 = .ok (.getfield 74, 3) := by decide +kernel
theorem dX12_many_86 : decode cX12_many 86 = .ok (.iload_n 2, 1) := by decide +kernel
theorem dX12_many_87 : decode cX12_many 87 = .ok (.iload 5, 2) := by decide +kernel
theorem dX12_many_89 : decode cX12_many 89 = .ok (.isub, 1) := by decide +kernel
theorem dX12_many_90 : decode cX12_many 90 = .ok (.laload, 1) := by decide +kernel
theorem dX12_many_91 : decode cX12_many 91 = .ok (.lmul, 1) := by decide +kernel
theorem dX12_many_92 : decode cX12_many 92 = .ok (.ldc2_w 218, 3) := by decide +kernel
theorem dX12_many_95 : decode cX12_many 95 = .ok (.lrem, 1) := by decide +kernel
theorem dX12_many_96 : decode cX12_many 96 = .ok (.lstore 6, 2) := by decide +kernel
theorem dX12_many_98 : decode cX12_many 98 = .ok (.iload 5, 2) := by decide +kernel
theorem dX12_many_100 : decode cX12_many 100 = .ok (.iconst 2, 1) := by decide +kernel
theorem dX12_many_101 : decode cX12_many 101 = .ok (.irem, 1) := by decide +kernel
theorem dX12_many_102 : decode cX12_many 102 = .ok (.iconst 1, 1) := by decide +kernel
theorem dX12_many_103 : decode cX12_many 103 = .ok (.if_icmp .ne 10, 3) := by decide +kernel
theorem dX12_many_106 : decode cX12_many 106 = .ok (.lload_n 3, 1) := by decide +kernel
theorem dX12_many_107 : decode cX12_many 107 = .ok (.lload 6, 2) := by decide +kernel
theorem dX12_many_109 : decode cX12_many 109 = .ok (.ladd, 1) := by decide +kernel
theorem dX12_many_110 : decode cX12_many 110 = .ok (.goto 11, 3) := by decide +kernel
theorem dX12_many_113 : decode cX12_many 113 = .ok (.lload_n 3, 1) := by decide +kernel
theorem dX12_many_114 : decode cX12_many 114 = .ok (.ldc2_w 218, 3) := by decide +kernel
theorem dX12_many_117 : decode cX12_many 117 = .ok (.ladd, 1) := by decide +kernel
theorem dX12_many_118 : decode cX12_many 118 = .ok (.lload 6, 2) := by decide +kernel
theorem dX12_many_120 : decode cX12_many 120 = .ok (.lsub, 1) := by decide +kernel
theorem dX12_many_121 : decode cX12_many 121 = .ok (.lstore_n 3, 1) := by decide +kernel
theorem dX12_many_122 : decode cX12_many 122 = .ok (.iinc 5 1, 3) := by decide +kernel
theorem dX12_many_125 : decode cX12_many 125 = .ok (.goto (-66), 3) := by decide +kernel
theorem dX12_many_128 : decode cX12_many 128 = .ok (.aload_n 0, 1) := by decide +kernel
theorem dX12_many_129 : decode cX12_many 129 = .ok (.getfield 74, 3) := by decide +kernel
theorem dX12_many_132 : decode cX12_many 132 = .ok (.iload_n 2, 1) := by decide +kernel
theorem dX12_many_133 : decode cX12_many 133 = .ok (.lload_n 3, 1) := by decide +kernel
theorem dX12_many_134 : decode cX12_many 134 = .ok (.ldc2_w 218, 3) := by decide +kernel
theorem dX12_many_137 : decode cX12_many 137 = .ok (.lrem, 1) := by decide +kernel
theorem dX12_many_138 : decode cX12_many 138 = .ok (.lastore, 1) := by decide +kernel
theorem dX12_many_139 : decode cX12_many 139 = .ok (.iinc 2 1, 3) := by decide +kernel
theorem dX12_many_142 : decode cX12_many 142 = .ok (.goto (-93), 3) := by decide +kernel
theorem dX12_many_145 : decode cX12_many 145 = .ok (.aload_n 0, 1) := by decide +kernel
theorem dX12_many_146 : decode cX12_many 146 = .ok (.getfield 74, 3) := by decide +kernel
theorem dX12_many_149 : decode cX12_many 149 = .ok (.iload_n 1, 1) := by decide +kernel
theorem dX12_many_150 : decode cX12_many 150 = .ok (.laload, 1) := by decide +kernel
theorem dX12_many_151 : decode cX12_many 151 = .ok (.l2i, 1) := by decide +kernel
theorem dX12_many_152 : decode cX12_many 152 = .ok (.ireturn, 1) := by decide +kernel
theorem dX12_barred_0 : decode cX12_barred 0 = .ok (.aload_n 0, 1) := by decide +kernel
theorem dX12_barred_1 : decode cX12_barred 1 = .ok (.getfield 13, 3) := by decide +kernel
theorem dX12_barred_4 : decode cX12_barred 4 = .ok (.iload_n 2, 1) := by decide +kernel
theorem dX12_barred_5 : decode cX12_barred 5 = .ok (.iaload, 1) := by decide +kernel
theorem dX12_barred_6 : decode cX12_barred 6 = .ok (.iload_n 1, 1) := by decide +kernel
theorem dX12_barred_7 : decode cX12_barred 7 = .ok (.iconst 1, 1) := by decide +kernel
theorem dX12_barred_8 : decode cX12_barred 8 = .ok (.iload_n 2, 1) := by decide +kernel
theorem dX12_barred_9 : decode cX12_barred 9 = .ok (.ishl, 1) := by decide +kernel
theorem dX12_barred_10 : decode cX12_barred 10 = .ok (.iconst 1, 1) := by decide +kernel
theorem dX12_barred_11 : decode cX12_barred 11 = .ok (.isub, 1) := by decide +kernel
theorem dX12_barred_12 : decode cX12_barred 12 = .ok (.ior, 1) := by decide +kernel
theorem dX12_barred_13 : decode cX12_barred 13 = .ok (.iand, 1) := by decide +kernel
theorem dX12_barred_14 : decode cX12_barred 14 = .ok (.ireturn, 1) := by decide +kernel
theorem dX12_findExact_0 : decode cX12_findExact 0 = .ok (.iconst 0, 1) := by decide +kernel
theorem dX12_findExact_1 : decode cX12_findExact 1 = .ok (.istore_n 2, 1) := by decide +kernel
theorem dX12_findExact_2 : decode cX12_findExact 2 = .ok (.iload_n 2, 1) := by decide +kernel
theorem dX12_findExact_3 : decode cX12_findExact 3 = .ok (.iload_n 1, 1) := by decide +kernel
theorem dX12_findExact_4 : decode cX12_findExact 4 = .ok (.if_icmp .gt 107, 3) := by decide +kernel
theorem dX12_findExact_7 : decode cX12_findExact 7 = .ok (.iconst 0, 1) := by decide +kernel
theorem dX12_findExact_8 : decode cX12_findExact 8 = .ok (.istore_n 3, 1) := by decide +kernel
theorem dX12_findExact_9 : decode cX12_findExact 9 = .ok (.iload_n 3, 1) := by decide +kernel
theorem dX12_findExact_10 : decode cX12_findExact 10 = .ok (.bipush 64, 2) := by decide +kernel
theorem dX12_findExact_12 : decode cX12_findExact 12 = .ok (.if_icmp .ge 93, 3) := by decide +kernel
theorem dX12_findExact_15 : decode cX12_findExact 15 = .ok (.iload_n 2, 1) := by decide +kernel
theorem dX12_findExact_16 : decode cX12_findExact 16 = .ok (.ifCond .ne 7, 3) := by decide +kernel
theorem dX12_findExact_19 : decode cX12_findExact 19 = .ok (.lconst 1, 1) := by decide +kernel
theorem dX12_findExact_20 : decode cX12_findExact 20 = .ok (.goto 4, 3) := by decide +kernel
theorem dX12_findExact_23 : decode cX12_findExact 23 = .ok (.lconst 0, 1) := by decide +kernel
theorem dX12_findExact_24 : decode cX12_findExact 24 = .ok (.lstore 4, 2) := by decide +kernel
theorem dX12_findExact_26 : decode cX12_findExact 26 = .ok (.iconst 0, 1) := by decide +kernel
theorem dX12_findExact_27 : decode cX12_findExact 27 = .ok (.istore 6, 2) := by decide +kernel
theorem dX12_findExact_29 : decode cX12_findExact 29 = .ok (.iload 6, 2) := by decide +kernel
theorem dX12_findExact_31 : decode cX12_findExact 31 = .ok (.aload_n 0, 1) := by decide +kernel
theorem dX12_findExact_32 : decode cX12_findExact 32 = .ok (.getfield 7, 3) := by decide +kernel
theorem dX12_findExact_35 : decode cX12_findExact 35 = .ok (.if_icmp .ge 51, 3) := by decide +kernel
theorem dX12_findExact_38 : decode cX12_findExact 38 = .ok (.iload_n 2, 1) := by decide +kernel
theorem dX12_findExact_39 : decode cX12_findExact 39 = .ok (.ifCond .le 47, 3) := by decide +kernel
theorem dX12_findExact_42 : decode cX12_findExact 42 = .ok (.lload 4, 2) := by decide +kernel
theorem dX12_findExact_44 : decode cX12_findExact 44 = .ok (.iload_n 3, 1) := by decide +kernel
theorem dX12_findExact_45 : decode cX12_findExact 45 = .ok (.iload 6, 2) := by decide +kernel
theorem dX12_findExact_47 : decode cX12_findExact 47 = .ok (.ishr, 1) := by decide +kernel
theorem dX12_findExact_48 : decode cX12_findExact 48 = .ok (.iconst 1, 1) := by decide +kernel
theorem dX12_findExact_49 : decode cX12_findExact 49 = .ok (.iand, 1) := by decide +kernel
theorem dX12_findExact_50 : decode cX12_findExact 50 = .ok (.iconst 1, 1) := by decide +kernel
theorem dX12_findExact_51 : decode cX12_findExact 51 = .ok (.if_icmp .ne 7, 3) := by decide +kernel
theorem dX12_findExact_54 : decode cX12_findExact 54 = .ok (.lconst 0, 1) := by decide +kernel
theorem dX12_findExact_55 : decode cX12_findExact 55 = .ok (.goto 22, 3) := by decide +kernel
theorem dX12_findExact_58 : decode cX12_findExact 58 = .ok (.aload_n 0, 1) := by decide +kernel
theorem dX12_findExact_59 : decode cX12_findExact 59 = .ok (.getfield 65, 3) := by decide +kernel
theorem dX12_findExact_62 : decode cX12_findExact 62 = .ok (.bipush 64, 2) := by decide +kernel
theorem dX12_findExact_64 : decode cX12_findExact 64 = .ok (.iload_n 2, 1) := by decide +kernel
theorem dX12_findExact_65 : decode cX12_findExact 65 = .ok (.iconst 1, 1) := by decide +kernel
theorem dX12_findExact_66 : decode cX12_findExact 66 = .ok (.isub, 1) := by decide +kernel
theorem dX12_findExact_67 : decode cX12_findExact 67 = .ok (.imul, 1) := by decide +kernel
theorem dX12_findExact_68 : decode cX12_findExact 68 = .ok (.aload_n 0, 1) := by decide +kernel
theorem dX12_findExact_69 : decode cX12_findExact 69 = .ok (.iload_n 3, 1) := by decide +kernel
theorem dX12_findExact_70 : decode cX12_findExact 70 = .ok (.iload 6, 2) := by decide +kernel
theorem dX12_findExact_72 : decode cX12_findExact 72 = .ok (.invokevirtual 254, 3) := by decide +kernel
theorem dX12_findExact_75 : decode cX12_findExact 75 = .ok (.iadd, 1) := by decide +kernel
theorem dX12_findExact_76 : decode cX12_findExact 76 = .ok (.laload, 1) := by decide +kernel
theorem dX12_findExact_77 : decode cX12_findExact 77 = .ok (.ladd, 1) := by decide +kernel
theorem dX12_findExact_78 : decode cX12_findExact 78 = .ok (.lstore 4, 2) := by decide +kernel
theorem dX12_findExact_80 : decode cX12_findExact 80 = .ok (.iinc 6 1, 3) := by decide +kernel
theorem dX12_findExact_83 : decode cX12_findExact 83 = .ok (.goto (-54), 3) := by decide +kernel
theorem dX12_findExact_86 : decode cX12_findExact 86 = .ok (.aload_n 0, 1) := by decide +kernel
theorem dX12_findExact_87 : decode cX12_findExact 87 = .ok (.getfield 65, 3) := by decide +kernel
theorem dX12_findExact_90 : decode cX12_findExact 90 = .ok (.bipush 64, 2) := by decide +kernel
theorem dX12_findExact_92 : decode cX12_findExact 92 = .ok (.iload_n 2, 1) := by decide +kernel
theorem dX12_findExact_93 : decode cX12_findExact 93 = .ok (.imul, 1) := by decide +kernel
theorem dX12_findExact_94 : decode cX12_findExact 94 = .ok (.iload_n 3, 1) := by decide +kernel
theorem dX12_findExact_95 : decode cX12_findExact 95 = .ok (.iadd, 1) := by decide +kernel
theorem dX12_findExact_96 : decode cX12_findExact 96 = .ok (.lload 4, 2) := by decide +kernel
theorem dX12_findExact_98 : decode cX12_findExact 98 = .ok (.lastore, 1) := by decide +kernel
theorem dX12_findExact_99 : decode cX12_findExact 99 = .ok (.iinc 3 1, 3) := by decide +kernel
theorem dX12_findExact_102 : decode cX12_findExact 102 = .ok (.goto (-93), 3) := by decide +kernel
theorem dX12_findExact_105 : decode cX12_findExact 105 = .ok (.iinc 2 1, 3) := by decide +kernel
theorem dX12_findExact_108 : decode cX12_findExact 108 = .ok (.goto (-106), 3) := by decide +kernel
theorem dX12_findExact_111 : decode cX12_findExact 111 = .ok (.return_, 1) := by decide +kernel
theorem dX12_of_0 : decode cX12_of 0 = .ok (.iload_n 1, 1) := by decide +kernel
theorem dX12_of_1 : decode cX12_of 1 = .ok (.iconst 0, 1) := by decide +kernel
theorem dX12_of_2 : decode cX12_of 2 = .ok (.bipush 20, 2) := by decide +kernel
theorem dX12_of_4 : decode cX12_of 4 = .ok (.invokestatic 83, 3) := by decide +kernel
theorem dX12_of_7 : decode cX12_of 7 = .ok (.ifCond .eq 11, 3) := by decide +kernel
theorem dX12_of_10 : decode cX12_of 10 = .ok (.iload_n 2, 1) := by decide +kernel
theorem dX12_of_11 : decode cX12_of 11 = .ok (.ifCond .lt 7, 3) := by decide +kernel
theorem dX12_of_14 : decode cX12_of 14 = .ok (.iload_n 3, 1) := by decide +kernel
theorem dX12_of_15 : decode cX12_of 15 = .ok (.ifCond .ge 6, 3) := by decide +kernel
theorem dX12_of_18 : decode cX12_of 18 = .ok (.bipush (-3), 2) := by decide +kernel
theorem dX12_of_20 : decode cX12_of 20 = .ok (.ireturn, 1) := by decide +kernel
theorem dX12_of_21 : decode cX12_of 21 = .ok (.aload_n 0, 1) := by decide +kernel
theorem dX12_of_22 : decode cX12_of 22 = .ok (.iload_n 1, 1) := by decide +kernel
theorem dX12_of_23 : decode cX12_of 23 = .ok (.invokevirtual 257, 3) := by decide +kernel
theorem dX12_of_26 : decode cX12_of 26 = .ok (.iload_n 2, 1) := by decide +kernel
theorem dX12_of_27 : decode cX12_of 27 = .ok (.i2l, 1) := by decide +kernel
theorem dX12_of_28 : decode cX12_of 28 = .ok (.aload_n 0, 1) := by decide +kernel
theorem dX12_of_29 : decode cX12_of 29 = .ok (.getfield 65, 3) := by decide +kernel
theorem dX12_of_32 : decode cX12_of 32 = .ok (.bipush 64, 2) := by decide +kernel
theorem dX12_of_34 : decode cX12_of 34 = .ok (.iload_n 1, 1) := by decide +kernel
theorem dX12_of_35 : decode cX12_of 35 = .ok (.imul, 1) := by decide +kernel
theorem dX12_of_36 : decode cX12_of 36 = .ok (.laload, 1) := by decide +kernel
theorem dX12_of_37 : decode cX12_of 37 = .ok (.lcmp, 1) := by decide +kernel
theorem dX12_of_38 : decode cX12_of 38 = .ok (.ifCond .ge 8, 3) := by decide +kernel
theorem dX12_of_41 : decode cX12_of 41 = .ok (.iload_n 3, 1) := by decide +kernel
theorem dX12_of_42 : decode cX12_of 42 = .ok (.iload_n 1, 1) := by decide +kernel
theorem dX12_of_43 : decode cX12_of 43 = .ok (.if_icmp .lt 5, 3) := by decide +kernel
theorem dX12_of_46 : decode cX12_of 46 = .ok (.iconst (-1), 1) := by decide +kernel
theorem dX12_of_47 : decode cX12_of 47 = .ok (.ireturn, 1) := by decide +kernel
theorem dX12_of_48 : decode cX12_of 48 = .ok (.iload_n 2, 1) := by decide +kernel
theorem dX12_of_49 : decode cX12_of 49 = .ok (.i2l, 1) := by decide +kernel
theorem dX12_of_50 : decode cX12_of 50 = .ok (.lstore 4, 2) := by decide +kernel
theorem dX12_of_52 : decode cX12_of 52 = .ok (.iconst 0, 1) := by decide +kernel
theorem dX12_of_53 : decode cX12_of 53 = .ok (.istore 6, 2) := by decide +kernel
theorem dX12_of_55 : decode cX12_of 55 = .ok (.iconst 0, 1) := by decide +kernel
theorem dX12_of_56 : decode cX12_of 56 = .ok (.istore 7, 2) := by decide +kernel
theorem dX12_of_58 : decode cX12_of 58 = .ok (.iconst 0, 1) := by decide +kernel
theorem dX12_of_59 : decode cX12_of 59 = .ok (.istore 8, 2) := by decide +kernel
theorem dX12_of_61 : decode cX12_of 61 = .ok (.iload 8, 2) := by decide +kernel
theorem dX12_of_63 : decode cX12_of 63 = .ok (.iload_n 3, 1) := by decide +kernel
theorem dX12_of_64 : decode cX12_of 64 = .ok (.if_icmp .gt 123, 3) := by decide +kernel
theorem dX12_of_67 : decode cX12_of 67 = .ok (.iconst 0, 1) := by decide +kernel
theorem dX12_of_68 : decode cX12_of 68 = .ok (.istore 7, 2) := by decide +kernel
theorem dX12_of_70 : decode cX12_of 70 = .ok (.iload 6, 2) := by decide +kernel
theorem dX12_of_72 : decode cX12_of 72 = .ok (.iload 7, 2) := by decide +kernel
theorem dX12_of_74 : decode cX12_of 74 = .ok (.ishr, 1) := by decide +kernel
theorem dX12_of_75 : decode cX12_of 75 = .ok (.iconst 1, 1) := by decide +kernel
theorem dX12_of_76 : decode cX12_of 76 = .ok (.iand, 1) := by decide +kernel
theorem dX12_of_77 : decode cX12_of 77 = .ok (.iconst 1, 1) := by decide +kernel
theorem dX12_of_78 : decode cX12_of 78 = .ok (.if_icmp .ne 7, 3) := by decide +kernel
theorem dX12_of_81 : decode cX12_of 81 = .ok (.lconst 0, 1) := by decide +kernel
theorem dX12_of_82 : decode cX12_of 82 = .ok (.goto 26, 3) := by decide +kernel
theorem dX12_of_85 : decode cX12_of 85 = .ok (.aload_n 0, 1) := by decide +kernel
theorem dX12_of_86 : decode cX12_of 86 = .ok (.getfield 65, 3) := by decide +kernel
theorem dX12_of_89 : decode cX12_of 89 = .ok (.bipush 64, 2) := by decide +kernel
theorem dX12_of_91 : decode cX12_of 91 = .ok (.iload_n 1, 1) := by decide +kernel
theorem dX12_of_92 : decode cX12_of 92 = .ok (.iconst 1, 1) := by decide +kernel
theorem dX12_of_93 : decode cX12_of 93 = .ok (.isub, 1) := by decide +kernel
theorem dX12_of_94 : decode cX12_of 94 = .ok (.iload 8, 2) := by decide +kernel
theorem dX12_of_96 : decode cX12_of 96 = .ok (.isub, 1) := by decide +kernel
theorem dX12_of_97 : decode cX12_of 97 = .ok (.imul, 1) := by decide +kernel
theorem dX12_of_98 : decode cX12_of 98 = .ok (.aload_n 0, 1) := by decide +kernel
theorem dX12_of_99 : decode cX12_of 99 = .ok (.iload 6, 2) := by decide +kernel
theorem dX12_of_101 : decode cX12_of 101 = .ok (.iload 7, 2) := by decide +kernel
theorem dX12_of_103 : decode cX12_of 103 = .ok (.invokevirtual 254, 3) := by decide +kernel
theorem dX12_of_106 : decode cX12_of 106 = .ok (.iadd, 1) := by decide +kernel
theorem dX12_of_107 : decode cX12_of 107 = .ok (.laload, 1) := by decide +kernel
theorem dX12_of_108 : decode cX12_of 108 = .ok (.lstore 9, 2) := by decide +kernel
theorem dX12_of_110 : decode cX12_of 110 = .ok (.lload 4, 2) := by decide +kernel
theorem dX12_of_112 : decode cX12_of 112 = .ok (.lload 9, 2) := by decide +kernel
theorem dX12_of_114 : decode cX12_of 114 = .ok (.lcmp, 1) := by decide +kernel
theorem dX12_of_115 : decode cX12_of 115 = .ok (.ifCond .lt 56, 3) := by decide +kernel
theorem dX12_of_118 : decode cX12_of 118 = .ok (.lload 4, 2) := by decide +kernel
theorem dX12_of_120 : decode cX12_of 120 = .ok (.lload 9, 2) := by decide +kernel
theorem dX12_of_122 : decode cX12_of 122 = .ok (.lsub, 1) := by decide +kernel
theorem dX12_of_123 : decode cX12_of 123 = .ok (.lstore 4, 2) := by decide +kernel
theorem dX12_of_125 : decode cX12_of 125 = .ok (.iinc 7 1, 3) := by decide +kernel
theorem dX12_of_128 : decode cX12_of 128 = .ok (.iload 6, 2) := by decide +kernel
theorem dX12_of_130 : decode cX12_of 130 = .ok (.iload 7, 2) := by decide +kernel
theorem dX12_of_132 : decode cX12_of 132 = .ok (.ishr, 1) := by decide +kernel
theorem dX12_of_133 : decode cX12_of 133 = .ok (.iconst 1, 1) := by decide +kernel
theorem dX12_of_134 : decode cX12_of 134 = .ok (.iand, 1) := by decide +kernel
theorem dX12_of_135 : decode cX12_of 135 = .ok (.iconst 1, 1) := by decide +kernel
theorem dX12_of_136 : decode cX12_of 136 = .ok (.if_icmp .ne 7, 3) := by decide +kernel
theorem dX12_of_139 : decode cX12_of 139 = .ok (.lconst 0, 1) := by decide +kernel
theorem dX12_of_140 : decode cX12_of 140 = .ok (.goto 26, 3) := by decide +kernel
theorem dX12_of_143 : decode cX12_of 143 = .ok (.aload_n 0, 1) := by decide +kernel
theorem dX12_of_144 : decode cX12_of 144 = .ok (.getfield 65, 3) := by decide +kernel
theorem dX12_of_147 : decode cX12_of 147 = .ok (.bipush 64, 2) := by decide +kernel
theorem dX12_of_149 : decode cX12_of 149 = .ok (.iload_n 1, 1) := by decide +kernel
theorem dX12_of_150 : decode cX12_of 150 = .ok (.iconst 1, 1) := by decide +kernel
theorem dX12_of_151 : decode cX12_of 151 = .ok (.isub, 1) := by decide +kernel
theorem dX12_of_152 : decode cX12_of 152 = .ok (.iload 8, 2) := by decide +kernel
theorem dX12_of_154 : decode cX12_of 154 = .ok (.isub, 1) := by decide +kernel
theorem dX12_of_155 : decode cX12_of 155 = .ok (.imul, 1) := by decide +kernel
theorem dX12_of_156 : decode cX12_of 156 = .ok (.aload_n 0, 1) := by decide +kernel
theorem dX12_of_157 : decode cX12_of 157 = .ok (.iload 6, 2) := by decide +kernel
theorem dX12_of_159 : decode cX12_of 159 = .ok (.iload 7, 2) := by decide +kernel
theorem dX12_of_161 : decode cX12_of 161 = .ok (.invokevirtual 254, 3) := by decide +kernel
theorem dX12_of_164 : decode cX12_of 164 = .ok (.iadd, 1) := by decide +kernel
theorem dX12_of_165 : decode cX12_of 165 = .ok (.laload, 1) := by decide +kernel
theorem dX12_of_166 : decode cX12_of 166 = .ok (.lstore 9, 2) := by decide +kernel
theorem dX12_of_168 : decode cX12_of 168 = .ok (.goto (-58), 3) := by decide +kernel
theorem dX12_of_171 : decode cX12_of 171 = .ok (.aload_n 0, 1) := by decide +kernel
theorem dX12_of_172 : decode cX12_of 172 = .ok (.iload 6, 2) := by decide +kernel
theorem dX12_of_174 : decode cX12_of 174 = .ok (.iload 7, 2) := by decide +kernel
theorem dX12_of_176 : decode cX12_of 176 = .ok (.invokevirtual 254, 3) := by decide +kernel
theorem dX12_of_179 : decode cX12_of 179 = .ok (.istore 6, 2) := by decide +kernel
theorem dX12_of_181 : decode cX12_of 181 = .ok (.iinc 8 1, 3) := by decide +kernel
theorem dX12_of_184 : decode cX12_of 184 = .ok (.goto (-123), 3) := by decide +kernel
theorem dX12_of_187 : decode cX12_of 187 = .ok (.iload 7, 2) := by decide +kernel
theorem dX12_of_189 : decode cX12_of 189 = .ok (.ireturn, 1) := by decide +kernel
theorem dX12_place_0 : decode cX12_place 0 = .ok (.iload_n 1, 1) := by decide +kernel
theorem dX12_place_1 : decode cX12_place 1 = .ok (.invokestatic 172, 3) := by decide +kernel
theorem dX12_place_4 : decode cX12_place 4 = .ok (.ifCond .ne 6, 3) := by decide +kernel
theorem dX12_place_7 : decode cX12_place 7 = .ok (.bipush (-2), 2) := by decide +kernel
theorem dX12_place_9 : decode cX12_place 9 = .ok (.ireturn, 1) := by decide +kernel
theorem dX12_place_10 : decode cX12_place 10 = .ok (.aload_n 0, 1) := by decide +kernel
theorem dX12_place_11 : decode cX12_place 11 = .ok (.getfield 17, 3) := by decide +kernel
theorem dX12_place_14 : decode cX12_place 14 = .ok (.iload_n 1, 1) := by decide +kernel
theorem dX12_place_15 : decode cX12_place 15 = .ok (.iaload, 1) := by decide +kernel
theorem dX12_place_16 : decode cX12_place 16 = .ok (.bipush 20, 2) := by decide +kernel
theorem dX12_place_18 : decode cX12_place 18 = .ok (.if_icmp .le 6, 3) := by decide +kernel
theorem dX12_place_21 : decode cX12_place 21 = .ok (.bipush (-3), 2) := by decide +kernel
theorem dX12_place_23 : decode cX12_place 23 = .ok (.ireturn, 1) := by decide +kernel
theorem dX12_place_24 : decode cX12_place 24 = .ok (.aload_n 0, 1) := by decide +kernel
theorem dX12_place_25 : decode cX12_place 25 = .ok (.getfield 17, 3) := by decide +kernel
theorem dX12_place_28 : decode cX12_place 28 = .ok (.iload_n 1, 1) := by decide +kernel
theorem dX12_place_29 : decode cX12_place 29 = .ok (.iaload, 1) := by decide +kernel
theorem dX12_place_30 : decode cX12_place 30 = .ok (.istore_n 2, 1) := by decide +kernel
theorem dX12_place_31 : decode cX12_place 31 = .ok (.aload_n 0, 1) := by decide +kernel
theorem dX12_place_32 : decode cX12_place 32 = .ok (.iload_n 1, 1) := by decide +kernel
theorem dX12_place_33 : decode cX12_place 33 = .ok (.aload_n 0, 1) := by decide +kernel
theorem dX12_place_34 : decode cX12_place 34 = .ok (.getfield 29, 3) := by decide +kernel
theorem dX12_place_37 : decode cX12_place 37 = .ok (.invokevirtual 186, 3) := by decide +kernel
theorem dX12_place_40 : decode cX12_place 40 = .ok (.aload_n 0, 1) := by decide +kernel
theorem dX12_place_41 : decode cX12_place 41 = .ok (.aload_n 0, 1) := by decide +kernel
theorem dX12_place_42 : decode cX12_place 42 = .ok (.getfield 29, 3) := by decide +kernel
theorem dX12_place_45 : decode cX12_place 45 = .ok (.iload_n 2, 1) := by decide +kernel
theorem dX12_place_46 : decode cX12_place 46 = .ok (.invokevirtual 190, 3) := by decide +kernel
theorem dX12_place_49 : decode cX12_place 49 = .ok (.pop, 1) := by decide +kernel
theorem dX12_place_50 : decode cX12_place 50 = .ok (.aload_n 0, 1) := by decide +kernel
theorem dX12_place_51 : decode cX12_place 51 = .ok (.iload_n 2, 1) := by decide +kernel
theorem dX12_place_52 : decode cX12_place 52 = .ok (.invokevirtual 257, 3) := by decide +kernel
theorem dX12_place_55 : decode cX12_place 55 = .ok (.lconst 0, 1) := by decide +kernel
theorem dX12_place_56 : decode cX12_place 56 = .ok (.lstore_n 3, 1) := by decide +kernel
theorem dX12_place_57 : decode cX12_place 57 = .ok (.iconst 0, 1) := by decide +kernel
theorem dX12_place_58 : decode cX12_place 58 = .ok (.istore 5, 2) := by decide +kernel
theorem dX12_place_60 : decode cX12_place 60 = .ok (.iconst 0, 1) := by decide +kernel
theorem dX12_place_61 : decode cX12_place 61 = .ok (.istore 6, 2) := by decide +kernel
theorem dX12_place_63 : decode cX12_place 63 = .ok (.iload 6, 2) := by decide +kernel
theorem dX12_place_65 : decode cX12_place 65 = .ok (.iload_n 2, 1) := by decide +kernel
theorem dX12_place_66 : decode cX12_place 66 = .ok (.if_icmp .ge 86, 3) := by decide +kernel
theorem dX12_place_69 : decode cX12_place 69 = .ok (.iconst 0, 1) := by decide +kernel
theorem dX12_place_70 : decode cX12_place 70 = .ok (.istore 7, 2) := by decide +kernel
theorem dX12_place_72 : decode cX12_place 72 = .ok (.iload 7, 2) := by decide +kernel
theorem dX12_place_74 : decode cX12_place 74 = .ok (.aload_n 0, 1) := by decide +kernel
theorem dX12_place_75 : decode cX12_place 75 = .ok (.getfield 35, 3) := by decide +kernel
theorem dX12_place_78 : decode cX12_place 78 = .ok (.iload 6, 2) := by decide +kernel
theorem dX12_place_80 : decode cX12_place 80 = .ok (.iaload, 1) := by decide +kernel
theorem dX12_place_81 : decode cX12_place 81 = .ok (.if_icmp .ge 50, 3) := by decide +kernel
theorem dX12_place_84 : decode cX12_place 84 = .ok (.lload_n 3, 1) := by decide +kernel
theorem dX12_place_85 : decode cX12_place 85 = .ok (.iload 5, 2) := by decide +kernel
theorem dX12_place_87 : decode cX12_place 87 = .ok (.iload 7, 2) := by decide +kernel
theorem dX12_place_89 : decode cX12_place 89 = .ok (.ishr, 1) := by decide +kernel
theorem dX12_place_90 : decode cX12_place 90 = .ok (.iconst 1, 1) := by decide +kernel
theorem dX12_place_91 : decode cX12_place 91 = .ok (.iand, 1) := by decide +kernel
theorem dX12_place_92 : decode cX12_place 92 = .ok (.iconst 1, 1) := by decide +kernel
theorem dX12_place_93 : decode cX12_place 93 = .ok (.if_icmp .ne 7, 3) := by decide +kernel
theorem dX12_place_96 : decode cX12_place 96 = .ok (.lconst 0, 1) := by decide +kernel
theorem dX12_place_97 : decode cX12_place 97 = .ok (.goto 26, 3) := by decide +kernel
theorem dX12_place_100 : decode cX12_place 100 = .ok (.aload_n 0, 1) := by decide +kernel
theorem dX12_place_101 : decode cX12_place 101 = .ok (.getfield 65, 3) := by decide +kernel
theorem dX12_place_104 : decode cX12_place 104 = .ok (.bipush 64, 2) := by decide +kernel
theorem dX12_place_106 : decode cX12_place 106 = .ok (.iload_n 2, 1) := by decide +kernel
theorem dX12_place_107 : decode cX12_place 107 = .ok (.iconst 1, 1) := by decide +kernel
theorem dX12_place_108 : decode cX12_place 108 = .ok (.isub, 1) := by decide +kernel
theorem dX12_place_109 : decode cX12_place 109 = .ok (.iload 6, 2) := by decide +kernel
theorem dX12_place_111 : decode cX12_place 111 = .ok (.isub, 1) := by decide +kernel
theorem dX12_place_112 : decode cX12_place 112 = .ok (.imul, 1) := by decide +kernel
theorem dX12_place_113 : decode cX12_place 113 = .ok (.aload_n 0, 1) := by decide +kernel
theorem dX12_place_114 : decode cX12_place 114 = .ok (.iload 5, 2) := by decide +kernel
theorem dX12_place_116 : decode cX12_place 116 = .ok (.iload 7, 2) := by decide +kernel
theorem dX12_place_118 : decode cX12_place 118 = .ok (.invokevirtual 254, 3) := by decide +kernel
theorem dX12_place_121 : decode cX12_place 121 = .ok (.iadd, 1) := by decide +kernel
theorem dX12_place_122 : decode cX12_place 122 = .ok (.laload, 1) := by decide +kernel
theorem dX12_place_123 : decode cX12_place 123 = .ok (.ladd, 1) := by decide +kernel
theorem dX12_place_124 : decode cX12_place 124 = .ok (.lstore_n 3, 1) := by decide +kernel
theorem dX12_place_125 : decode cX12_place 125 = .ok (.iinc 7 1, 3) := by decide +kernel
theorem dX12_place_128 : decode cX12_place 128 = .ok (.goto (-56), 3) := by decide +kernel
theorem dX12_place_131 : decode cX12_place 131 = .ok (.aload_n 0, 1) := by decide +kernel
theorem dX12_place_132 : decode cX12_place 132 = .ok (.iload 5, 2) := by decide +kernel
theorem dX12_place_134 : decode cX12_place 134 = .ok (.aload_n 0, 1) := by decide +kernel
theorem dX12_place_135 : decode cX12_place 135 = .ok (.getfield 35, 3) := by decide +kernel
theorem dX12_place_138 : decode cX12_place 138 = .ok (.iload 6, 2) := by decide +kernel
theorem dX12_place_140 : decode cX12_place 140 = .ok (.iaload, 1) := by decide +kernel
theorem dX12_place_141 : decode cX12_place 141 = .ok (.invokevirtual 254, 3) := by decide +kernel
theorem dX12_place_144 : decode cX12_place 144 = .ok (.istore 5, 2) := by decide +kernel
theorem dX12_place_146 : decode cX12_place 146 = .ok (.iinc 6 1, 3) := by decide +kernel
theorem dX12_place_149 : decode cX12_place 149 = .ok (.goto (-86), 3) := by decide +kernel
theorem dX12_place_152 : decode cX12_place 152 = .ok (.lload_n 3, 1) := by decide +kernel
theorem dX12_place_153 : decode cX12_place 153 = .ok (.ldc2_w 218, 3) := by decide +kernel
theorem dX12_place_156 : decode cX12_place 156 = .ok (.lrem, 1) := by decide +kernel
theorem dX12_place_157 : decode cX12_place 157 = .ok (.l2i, 1) := by decide +kernel
theorem dX12_place_158 : decode cX12_place 158 = .ok (.ireturn, 1) := by decide +kernel
theorem dX12_reader_0 : decode cX12_reader 0 = .ok (.iload_n 1, 1) := by decide +kernel
theorem dX12_reader_1 : decode cX12_reader 1 = .ok (.iconst 1, 1) := by decide +kernel
theorem dX12_reader_2 : decode cX12_reader 2 = .ok (.iconst 5, 1) := by decide +kernel
theorem dX12_reader_3 : decode cX12_reader 3 = .ok (.invokestatic 83, 3) := by decide +kernel
theorem dX12_reader_6 : decode cX12_reader 6 = .ok (.ifCond .eq 16, 3) := by decide +kernel
theorem dX12_reader_9 : decode cX12_reader 9 = .ok (.iload_n 2, 1) := by decide +kernel
theorem dX12_reader_10 : decode cX12_reader 10 = .ok (.iconst 0, 1) := by decide +kernel
theorem dX12_reader_11 : decode cX12_reader 11 = .ok (.iconst 1, 1) := by decide +kernel
theorem dX12_reader_12 : decode cX12_reader 12 = .ok (.iload_n 1, 1) := by decide +kernel
theorem dX12_reader_13 : decode cX12_reader 13 = .ok (.ishl, 1) := by decide +kernel
theorem dX12_reader_14 : decode cX12_reader 14 = .ok (.iconst 1, 1) := by decide +kernel
theorem dX12_reader_15 : decode cX12_reader 15 = .ok (.isub, 1) := by decide +kernel
theorem dX12_reader_16 : decode cX12_reader 16 = .ok (.invokestatic 83, 3) := by decide +kernel
theorem dX12_reader_19 : decode cX12_reader 19 = .ok (.ifCond .ne 6, 3) := by decide +kernel
theorem dX12_reader_22 : decode cX12_reader 22 = .ok (.bipush (-3), 2) := by decide +kernel
theorem dX12_reader_24 : decode cX12_reader 24 = .ok (.ireturn, 1) := by decide +kernel
theorem dX12_reader_25 : decode cX12_reader 25 = .ok (.aload_n 0, 1) := by decide +kernel
theorem dX12_reader_26 : decode cX12_reader 26 = .ok (.iload_n 1, 1) := by decide +kernel
theorem dX12_reader_27 : decode cX12_reader 27 = .ok (.putfield 77, 3) := by decide +kernel
theorem dX12_reader_30 : decode cX12_reader 30 = .ok (.aload_n 0, 1) := by decide +kernel
theorem dX12_reader_31 : decode cX12_reader 31 = .ok (.iload_n 2, 1) := by decide +kernel
theorem dX12_reader_32 : decode cX12_reader 32 = .ok (.putfield 260, 3) := by decide +kernel
theorem dX12_reader_35 : decode cX12_reader 35 = .ok (.iconst 0, 1) := by decide +kernel
theorem dX12_reader_36 : decode cX12_reader 36 = .ok (.istore_n 3, 1) := by decide +kernel
theorem dX12_reader_37 : decode cX12_reader 37 = .ok (.iload_n 3, 1) := by decide +kernel
theorem dX12_reader_38 : decode cX12_reader 38 = .ok (.iconst 5, 1) := by decide +kernel
theorem dX12_reader_39 : decode cX12_reader 39 = .ok (.if_icmp .ge 38, 3) := by decide +kernel
theorem dX12_reader_42 : decode cX12_reader 42 = .ok (.iconst 0, 1) := by decide +kernel
theorem dX12_reader_43 : decode cX12_reader 43 = .ok (.istore 4, 2) := by decide +kernel
theorem dX12_reader_45 : decode cX12_reader 45 = .ok (.iload 4, 2) := by decide +kernel
theorem dX12_reader_47 : decode cX12_reader 47 = .ok (.bipush 6, 2) := by decide +kernel
theorem dX12_reader_49 : decode cX12_reader 49 = .ok (.if_icmp .ge 22, 3) := by decide +kernel
theorem dX12_reader_52 : decode cX12_reader 52 = .ok (.aload_n 0, 1) := by decide +kernel
theorem dX12_reader_53 : decode cX12_reader 53 = .ok (.getfield 80, 3) := by decide +kernel
theorem dX12_reader_56 : decode cX12_reader 56 = .ok (.bipush 6, 2) := by decide +kernel
theorem dX12_reader_58 : decode cX12_reader 58 = .ok (.iload_n 3, 1) := by decide +kernel
theorem dX12_reader_59 : decode cX12_reader 59 = .ok (.imul, 1) := by decide +kernel
theorem dX12_reader_60 : decode cX12_reader 60 = .ok (.iload 4, 2) := by decide +kernel
theorem dX12_reader_62 : decode cX12_reader 62 = .ok (.iadd, 1) := by decide +kernel
theorem dX12_reader_63 : decode cX12_reader 63 = .ok (.iload_n 3, 1) := by decide +kernel
theorem dX12_reader_64 : decode cX12_reader 64 = .ok (.iastore, 1) := by decide +kernel
theorem dX12_reader_65 : decode cX12_reader 65 = .ok (.iinc 4 1, 3) := by decide +kernel
theorem dX12_reader_68 : decode cX12_reader 68 = .ok (.goto (-23), 3) := by decide +kernel
theorem dX12_reader_71 : decode cX12_reader 71 = .ok (.iinc 3 1, 3) := by decide +kernel
theorem dX12_reader_74 : decode cX12_reader 74 = .ok (.goto (-37), 3) := by decide +kernel
theorem dX12_reader_77 : decode cX12_reader 77 = .ok (.iconst 1, 1) := by decide +kernel
theorem dX12_reader_78 : decode cX12_reader 78 = .ok (.ireturn, 1) := by decide +kernel
theorem dX12_move_0 : decode cX12_move 0 = .ok (.iload_n 1, 1) := by decide +kernel
theorem dX12_move_1 : decode cX12_move 1 = .ok (.iconst 0, 1) := by decide +kernel
theorem dX12_move_2 : decode cX12_move 2 = .ok (.aload_n 0, 1) := by decide +kernel
theorem dX12_move_3 : decode cX12_move 3 = .ok (.getfield 77, 3) := by decide +kernel
theorem dX12_move_6 : decode cX12_move 6 = .ok (.iconst 1, 1) := by decide +kernel
theorem dX12_move_7 : decode cX12_move 7 = .ok (.isub, 1) := by decide +kernel
theorem dX12_move_8 : decode cX12_move 8 = .ok (.invokestatic 83, 3) := by decide +kernel
theorem dX12_move_11 : decode cX12_move 11 = .ok (.ifCond .eq 17, 3) := by decide +kernel
theorem dX12_move_14 : decode cX12_move 14 = .ok (.iload_n 3, 1) := by decide +kernel
theorem dX12_move_15 : decode cX12_move 15 = .ok (.iconst 0, 1) := by decide +kernel
theorem dX12_move_16 : decode cX12_move 16 = .ok (.aload_n 0, 1) := by decide +kernel
theorem dX12_move_17 : decode cX12_move 17 = .ok (.getfield 77, 3) := by decide +kernel
theorem dX12_move_20 : decode cX12_move 20 = .ok (.iconst 1, 1) := by decide +kernel
theorem dX12_move_21 : decode cX12_move 21 = .ok (.isub, 1) := by decide +kernel
theorem dX12_move_22 : decode cX12_move 22 = .ok (.invokestatic 83, 3) := by decide +kernel
theorem dX12_move_25 : decode cX12_move 25 = .ok (.ifCond .ne 6, 3) := by decide +kernel
theorem dX12_move_28 : decode cX12_move 28 = .ok (.bipush (-2), 2) := by decide +kernel
theorem dX12_move_30 : decode cX12_move 30 = .ok (.ireturn, 1) := by decide +kernel
theorem dX12_move_31 : decode cX12_move 31 = .ok (.iload_n 2, 1) := by decide +kernel
theorem dX12_move_32 : decode cX12_move 32 = .ok (.iconst 0, 1) := by decide +kernel
theorem dX12_move_33 : decode cX12_move 33 = .ok (.iconst 5, 1) := by decide +kernel
theorem dX12_move_34 : decode cX12_move 34 = .ok (.invokestatic 83, 3) := by decide +kernel
theorem dX12_move_37 : decode cX12_move 37 = .ok (.ifCond .ne 6, 3) := by decide +kernel
theorem dX12_move_40 : decode cX12_move 40 = .ok (.bipush (-3), 2) := by decide +kernel
theorem dX12_move_42 : decode cX12_move 42 = .ok (.ireturn, 1) := by decide +kernel
theorem dX12_move_43 : decode cX12_move 43 = .ok (.aload_n 0, 1) := by decide +kernel
theorem dX12_move_44 : decode cX12_move 44 = .ok (.getfield 80, 3) := by decide +kernel
theorem dX12_move_47 : decode cX12_move 47 = .ok (.bipush 6, 2) := by decide +kernel
theorem dX12_move_49 : decode cX12_move 49 = .ok (.iload_n 1, 1) := by decide +kernel
theorem dX12_move_50 : decode cX12_move 50 = .ok (.imul, 1) := by decide +kernel
theorem dX12_move_51 : decode cX12_move 51 = .ok (.iload_n 2, 1) := by decide +kernel
theorem dX12_move_52 : decode cX12_move 52 = .ok (.iadd, 1) := by decide +kernel
theorem dX12_move_53 : decode cX12_move 53 = .ok (.iaload, 1) := by decide +kernel
theorem dX12_move_54 : decode cX12_move 54 = .ok (.istore 4, 2) := by decide +kernel
theorem dX12_move_56 : decode cX12_move 56 = .ok (.aload_n 0, 1) := by decide +kernel
theorem dX12_move_57 : decode cX12_move 57 = .ok (.getfield 80, 3) := by decide +kernel
theorem dX12_move_60 : decode cX12_move 60 = .ok (.bipush 6, 2) := by decide +kernel
theorem dX12_move_62 : decode cX12_move 62 = .ok (.iload_n 1, 1) := by decide +kernel
theorem dX12_move_63 : decode cX12_move 63 = .ok (.imul, 1) := by decide +kernel
theorem dX12_move_64 : decode cX12_move 64 = .ok (.iload_n 2, 1) := by decide +kernel
theorem dX12_move_65 : decode cX12_move 65 = .ok (.iadd, 1) := by decide +kernel
theorem dX12_move_66 : decode cX12_move 66 = .ok (.iload_n 3, 1) := by decide +kernel
theorem dX12_move_67 : decode cX12_move 67 = .ok (.iastore, 1) := by decide +kernel
theorem dX12_move_68 : decode cX12_move 68 = .ok (.iload 4, 2) := by decide +kernel
theorem dX12_move_70 : decode cX12_move 70 = .ok (.ireturn, 1) := by decide +kernel
theorem dX12_minds_0 : decode cX12_minds 0 = .ok (.iconst 0, 1) := by decide +kernel
theorem dX12_minds_1 : decode cX12_minds 1 = .ok (.istore_n 1, 1) := by decide +kernel
theorem dX12_minds_2 : decode cX12_minds 2 = .ok (.iload_n 1, 1) := by decide +kernel
theorem dX12_minds_3 : decode cX12_minds 3 = .ok (.aload_n 0, 1) := by decide +kernel
theorem dX12_minds_4 : decode cX12_minds 4 = .ok (.getfield 77, 3) := by decide +kernel
theorem dX12_minds_7 : decode cX12_minds 7 = .ok (.if_icmp .ge 109, 3) := by decide +kernel
theorem dX12_minds_10 : decode cX12_minds 10 = .ok (.iconst 0, 1) := by decide +kernel
theorem dX12_minds_11 : decode cX12_minds 11 = .ok (.istore_n 2, 1) := by decide +kernel
theorem dX12_minds_12 : decode cX12_minds 12 = .ok (.iload_n 2, 1) := by decide +kernel
theorem dX12_minds_13 : decode cX12_minds 13 = .ok (.aload_n 0, 1) := by decide +kernel
theorem dX12_minds_14 : decode cX12_minds 14 = .ok (.getfield 7, 3) := by decide +kernel
theorem dX12_minds_17 : decode cX12_minds 17 = .ok (.if_icmp .ge 93, 3) := by decide +kernel
theorem dX12_minds_20 : decode cX12_minds 20 = .ok (.iload_n 2, 1) := by decide +kernel
theorem dX12_minds_21 : decode cX12_minds 21 = .ok (.iconst 1, 1) := by decide +kernel
theorem dX12_minds_22 : decode cX12_minds 22 = .ok (.iadd, 1) := by decide +kernel
theorem dX12_minds_23 : decode cX12_minds 23 = .ok (.istore_n 3, 1) := by decide +kernel
theorem dX12_minds_24 : decode cX12_minds 24 = .ok (.iload_n 3, 1) := by decide +kernel
theorem dX12_minds_25 : decode cX12_minds 25 = .ok (.aload_n 0, 1) := by decide +kernel
theorem dX12_minds_26 : decode cX12_minds 26 = .ok (.getfield 7, 3) := by decide +kernel
theorem dX12_minds_29 : decode cX12_minds 29 = .ok (.if_icmp .ge 75, 3) := by decide +kernel
theorem dX12_minds_32 : decode cX12_minds 32 = .ok (.aload_n 0, 1) := by decide +kernel
theorem dX12_minds_33 : decode cX12_minds 33 = .ok (.iload_n 2, 1) := by decide +kernel
theorem dX12_minds_34 : decode cX12_minds 34 = .ok (.iload_n 3, 1) := by decide +kernel
theorem dX12_minds_35 : decode cX12_minds 35 = .ok (.invokevirtual 168, 3) := by decide +kernel
theorem dX12_minds_38 : decode cX12_minds 38 = .ok (.ifCond .eq 60, 3) := by decide +kernel
theorem dX12_minds_41 : decode cX12_minds 41 = .ok (.aload_n 0, 1) := by decide +kernel
theorem dX12_minds_42 : decode cX12_minds 42 = .ok (.getfield 80, 3) := by decide +kernel
theorem dX12_minds_45 : decode cX12_minds 45 = .ok (.bipush 6, 2) := by decide +kernel
theorem dX12_minds_47 : decode cX12_minds 47 = .ok (.aload_n 0, 1) := by decide +kernel
theorem dX12_minds_48 : decode cX12_minds 48 = .ok (.getfield 80, 3) := by decide +kernel
theorem dX12_minds_51 : decode cX12_minds 51 = .ok (.bipush 6, 2) := by decide +kernel
theorem dX12_minds_53 : decode cX12_minds 53 = .ok (.iload_n 1, 1) := by decide +kernel
theorem dX12_minds_54 : decode cX12_minds 54 = .ok (.imul, 1) := by decide +kernel
theorem dX12_minds_55 : decode cX12_minds 55 = .ok (.iload_n 2, 1) := by decide +kernel
theorem dX12_minds_56 : decode cX12_minds 56 = .ok (.iadd, 1) := by decide +kernel
theorem dX12_minds_57 : decode cX12_minds 57 = .ok (.iaload, 1) := by decide +kernel
theorem dX12_minds_58 : decode cX12_minds 58 = .ok (.imul, 1) := by decide +kernel
theorem dX12_minds_59 : decode cX12_minds 59 = .ok (.iload_n 3, 1) := by decide +kernel
theorem dX12_minds_60 : decode cX12_minds 60 = .ok (.iadd, 1) := by decide +kernel
theorem dX12_minds_61 : decode cX12_minds 61 = .ok (.iaload, 1) := by decide +kernel
theorem dX12_minds_62 : decode cX12_minds 62 = .ok (.aload_n 0, 1) := by decide +kernel
theorem dX12_minds_63 : decode cX12_minds 63 = .ok (.getfield 80, 3) := by decide +kernel
theorem dX12_minds_66 : decode cX12_minds 66 = .ok (.bipush 6, 2) := by decide +kernel
theorem dX12_minds_68 : decode cX12_minds 68 = .ok (.aload_n 0, 1) := by decide +kernel
theorem dX12_minds_69 : decode cX12_minds 69 = .ok (.getfield 80, 3) := by decide +kernel
theorem dX12_minds_72 : decode cX12_minds 72 = .ok (.bipush 6, 2) := by decide +kernel
theorem dX12_minds_74 : decode cX12_minds 74 = .ok (.iload_n 1, 1) := by decide +kernel
theorem dX12_minds_75 : decode cX12_minds 75 = .ok (.imul, 1) := by decide +kernel
theorem dX12_minds_76 : decode cX12_minds 76 = .ok (.iload_n 3, 1) := by decide +kernel
theorem dX12_minds_77 : decode cX12_minds 77 = .ok (.iadd, 1) := by decide +kernel
theorem dX12_minds_78 : decode cX12_minds 78 = .ok (.iaload, 1) := by decide +kernel
theorem dX12_minds_79 : decode cX12_minds 79 = .ok (.imul, 1) := by decide +kernel
theorem dX12_minds_80 : decode cX12_minds 80 = .ok (.iload_n 2, 1) := by decide +kernel
theorem dX12_minds_81 : decode cX12_minds 81 = .ok (.iadd, 1) := by decide +kernel
theorem dX12_minds_82 : decode cX12_minds 82 = .ok (.iaload, 1) := by decide +kernel
theorem dX12_minds_83 : decode cX12_minds 83 = .ok (.if_icmp .eq 15, 3) := by decide +kernel
theorem dX12_minds_86 : decode cX12_minds 86 = .ok (.bipush 64, 2) := by decide +kernel
theorem dX12_minds_88 : decode cX12_minds 88 = .ok (.iload_n 1, 1) := by decide +kernel
theorem dX12_minds_89 : decode cX12_minds 89 = .ok (.imul, 1) := by decide +kernel
theorem dX12_minds_90 : decode cX12_minds 90 = .ok (.bipush 8, 2) := by decide +kernel
theorem dX12_minds_92 : decode cX12_minds 92 = .ok (.iload_n 2, 1) := by decide +kernel
theorem dX12_minds_93 : decode cX12_minds 93 = .ok (.imul, 1) := by decide +kernel
theorem dX12_minds_94 : decode cX12_minds 94 = .ok (.iadd, 1) := by decide +kernel
theorem dX12_minds_95 : decode cX12_minds 95 = .ok (.iload_n 3, 1) := by decide +kernel
theorem dX12_minds_96 : decode cX12_minds 96 = .ok (.iadd, 1) := by decide +kernel
theorem dX12_minds_97 : decode cX12_minds 97 = .ok (.ireturn, 1) := by decide +kernel
theorem dX12_minds_98 : decode cX12_minds 98 = .ok (.iinc 3 1, 3) := by decide +kernel
theorem dX12_minds_101 : decode cX12_minds 101 = .ok (.goto (-77), 3) := by decide +kernel
theorem dX12_minds_104 : decode cX12_minds 104 = .ok (.iinc 2 1, 3) := by decide +kernel
theorem dX12_minds_107 : decode cX12_minds 107 = .ok (.goto (-95), 3) := by decide +kernel
theorem dX12_minds_110 : decode cX12_minds 110 = .ok (.iinc 1 1, 3) := by decide +kernel
theorem dX12_minds_113 : decode cX12_minds 113 = .ok (.goto (-111), 3) := by decide +kernel
theorem dX12_minds_116 : decode cX12_minds 116 = .ok (.iconst (-1), 1) := by decide +kernel
theorem dX12_minds_117 : decode cX12_minds 117 = .ok (.ireturn, 1) := by decide +kernel
theorem dX12_run_0 : decode cX12_run 0 = .ok (.iload_n 1, 1) := by decide +kernel
theorem dX12_run_1 : decode cX12_run 1 = .ok (.invokestatic 172, 3) := by decide +kernel
theorem dX12_run_4 : decode cX12_run 4 = .ok (.ifCond .ne 6, 3) := by decide +kernel
theorem dX12_run_7 : decode cX12_run 7 = .ok (.bipush (-2), 2) := by decide +kernel
theorem dX12_run_9 : decode cX12_run 9 = .ok (.ireturn, 1) := by decide +kernel
theorem dX12_run_10 : decode cX12_run 10 = .ok (.iload_n 2, 1) := by decide +kernel
theorem dX12_run_11 : decode cX12_run 11 = .ok (.iconst 0, 1) := by decide +kernel
theorem dX12_run_12 : decode cX12_run 12 = .ok (.iconst 1, 1) := by decide +kernel
theorem dX12_run_13 : decode cX12_run 13 = .ok (.invokestatic 83, 3) := by decide +kernel
theorem dX12_run_16 : decode cX12_run 16 = .ok (.ifCond .ne 6, 3) := by decide +kernel
theorem dX12_run_19 : decode cX12_run 19 = .ok (.bipush (-3), 2) := by decide +kernel
theorem dX12_run_21 : decode cX12_run 21 = .ok (.ireturn, 1) := by decide +kernel
theorem dX12_run_22 : decode cX12_run 22 = .ok (.aload_n 0, 1) := by decide +kernel
theorem dX12_run_23 : decode cX12_run 23 = .ok (.iload_n 1, 1) := by decide +kernel
theorem dX12_run_24 : decode cX12_run 24 = .ok (.aload_n 0, 1) := by decide +kernel
theorem dX12_run_25 : decode cX12_run 25 = .ok (.getfield 29, 3) := by decide +kernel
theorem dX12_run_28 : decode cX12_run 28 = .ok (.invokevirtual 186, 3) := by decide +kernel
theorem dX12_run_31 : decode cX12_run 31 = .ok (.aload_n 0, 1) := by decide +kernel
theorem dX12_run_32 : decode cX12_run 32 = .ok (.aload_n 0, 1) := by decide +kernel
theorem dX12_run_33 : decode cX12_run 33 = .ok (.getfield 29, 3) := by decide +kernel
theorem dX12_run_36 : decode cX12_run 36 = .ok (.aload_n 0, 1) := by decide +kernel
theorem dX12_run_37 : decode cX12_run 37 = .ok (.getfield 17, 3) := by decide +kernel
theorem dX12_run_40 : decode cX12_run 40 = .ok (.iload_n 1, 1) := by decide +kernel
theorem dX12_run_41 : decode cX12_run 41 = .ok (.iaload, 1) := by decide +kernel
theorem dX12_run_42 : decode cX12_run 42 = .ok (.invokevirtual 190, 3) := by decide +kernel
theorem dX12_run_45 : decode cX12_run 45 = .ok (.istore_n 3, 1) := by decide +kernel
theorem dX12_run_46 : decode cX12_run 46 = .ok (.iconst 0, 1) := by decide +kernel
theorem dX12_run_47 : decode cX12_run 47 = .ok (.istore 4, 2) := by decide +kernel
theorem dX12_run_49 : decode cX12_run 49 = .ok (.iconst 0, 1) := by decide +kernel
theorem dX12_run_50 : decode cX12_run 50 = .ok (.istore 5, 2) := by decide +kernel
theorem dX12_run_52 : decode cX12_run 52 = .ok (.iload 5, 2) := by decide +kernel
theorem dX12_run_54 : decode cX12_run 54 = .ok (.iload_n 3, 1) := by decide +kernel
theorem dX12_run_55 : decode cX12_run 55 = .ok (.if_icmp .ge 29, 3) := by decide +kernel
theorem dX12_run_58 : decode cX12_run 58 = .ok (.aload_n 0, 1) := by decide +kernel
theorem dX12_run_59 : decode cX12_run 59 = .ok (.getfield 80, 3) := by decide +kernel
theorem dX12_run_62 : decode cX12_run 62 = .ok (.bipush 6, 2) := by decide +kernel
theorem dX12_run_64 : decode cX12_run 64 = .ok (.iload 4, 2) := by decide +kernel
theorem dX12_run_66 : decode cX12_run 66 = .ok (.imul, 1) := by decide +kernel
theorem dX12_run_67 : decode cX12_run 67 = .ok (.aload_n 0, 1) := by decide +kernel
theorem dX12_run_68 : decode cX12_run 68 = .ok (.getfield 35, 3) := by decide +kernel
theorem dX12_run_71 : decode cX12_run 71 = .ok (.iload 5, 2) := by decide +kernel
theorem dX12_run_73 : decode cX12_run 73 = .ok (.iaload, 1) := by decide +kernel
theorem dX12_run_74 : decode cX12_run 74 = .ok (.iadd, 1) := by decide +kernel
theorem dX12_run_75 : decode cX12_run 75 = .ok (.iaload, 1) := by decide +kernel
theorem dX12_run_76 : decode cX12_run 76 = .ok (.istore 4, 2) := by decide +kernel
theorem dX12_run_78 : decode cX12_run 78 = .ok (.iinc 5 1, 3) := by decide +kernel
theorem dX12_run_81 : decode cX12_run 81 = .ok (.goto (-29), 3) := by decide +kernel
theorem dX12_run_84 : decode cX12_run 84 = .ok (.iload_n 2, 1) := by decide +kernel
theorem dX12_run_85 : decode cX12_run 85 = .ok (.ifCond .ne 8, 3) := by decide +kernel
theorem dX12_run_88 : decode cX12_run 88 = .ok (.iload 4, 2) := by decide +kernel
theorem dX12_run_90 : decode cX12_run 90 = .ok (.goto 12, 3) := by decide +kernel
theorem dX12_run_93 : decode cX12_run 93 = .ok (.aload_n 0, 1) := by decide +kernel
theorem dX12_run_94 : decode cX12_run 94 = .ok (.getfield 260, 3) := by decide +kernel
theorem dX12_run_97 : decode cX12_run 97 = .ok (.iload 4, 2) := by decide +kernel
theorem dX12_run_99 : decode cX12_run 99 = .ok (.ishr, 1) := by decide +kernel
theorem dX12_run_100 : decode cX12_run 100 = .ok (.iconst 1, 1) := by decide +kernel
theorem dX12_run_101 : decode cX12_run 101 = .ok (.iand, 1) := by decide +kernel
theorem dX12_run_102 : decode cX12_run 102 = .ok (.ireturn, 1) := by decide +kernel
theorem dX12_taken_0 : decode cX12_taken 0 = .ok (.iload_n 1, 1) := by decide +kernel
theorem dX12_taken_1 : decode cX12_taken 1 = .ok (.iconst 0, 1) := by decide +kernel
theorem dX12_taken_2 : decode cX12_taken 2 = .ok (.bipush 60, 2) := by decide +kernel
theorem dX12_taken_4 : decode cX12_taken 4 = .ok (.invokestatic 83, 3) := by decide +kernel
theorem dX12_taken_7 : decode cX12_taken 7 = .ok (.ifCond .ne 6, 3) := by decide +kernel
theorem dX12_taken_10 : decode cX12_taken 10 = .ok (.bipush (-3), 2) := by decide +kernel
theorem dX12_taken_12 : decode cX12_taken 12 = .ok (.ireturn, 1) := by decide +kernel
theorem dX12_taken_13 : decode cX12_taken 13 = .ok (.iconst 0, 1) := by decide +kernel
theorem dX12_taken_14 : decode cX12_taken 14 = .ok (.istore_n 2, 1) := by decide +kernel
theorem dX12_taken_15 : decode cX12_taken 15 = .ok (.iload_n 2, 1) := by decide +kernel
theorem dX12_taken_16 : decode cX12_taken 16 = .ok (.sipush 320, 3) := by decide +kernel
theorem dX12_taken_19 : decode cX12_taken 19 = .ok (.if_icmp .ge 24, 3) := by decide +kernel
theorem dX12_taken_22 : decode cX12_taken 22 = .ok (.aload_n 0, 1) := by decide +kernel
theorem dX12_taken_23 : decode cX12_taken 23 = .ok (.getfield 68, 3) := by decide +kernel
theorem dX12_taken_26 : decode cX12_taken 26 = .ok (.iload_n 2, 1) := by decide +kernel
theorem dX12_taken_27 : decode cX12_taken 27 = .ok (.iload_n 2, 1) := by decide +kernel
theorem dX12_taken_28 : decode cX12_taken 28 = .ok (.ifCond .ne 7, 3) := by decide +kernel
theorem dX12_taken_31 : decode cX12_taken 31 = .ok (.lconst 1, 1) := by decide +kernel
theorem dX12_taken_32 : decode cX12_taken 32 = .ok (.goto 4, 3) := by decide +kernel
theorem dX12_taken_35 : decode cX12_taken 35 = .ok (.lconst 0, 1) := by decide +kernel
theorem dX12_taken_36 : decode cX12_taken 36 = .ok (.lastore, 1) := by decide +kernel
theorem dX12_taken_37 : decode cX12_taken 37 = .ok (.iinc 2 1, 3) := by decide +kernel
theorem dX12_taken_40 : decode cX12_taken 40 = .ok (.goto (-25), 3) := by decide +kernel
theorem dX12_taken_43 : decode cX12_taken 43 = .ok (.iconst 0, 1) := by decide +kernel
theorem dX12_taken_44 : decode cX12_taken 44 = .ok (.istore_n 2, 1) := by decide +kernel
theorem dX12_taken_45 : decode cX12_taken 45 = .ok (.iload_n 2, 1) := by decide +kernel
theorem dX12_taken_46 : decode cX12_taken 46 = .ok (.iload_n 1, 1) := by decide +kernel
theorem dX12_taken_47 : decode cX12_taken 47 = .ok (.if_icmp .ge 170, 3) := by decide +kernel
theorem dX12_taken_50 : decode cX12_taken 50 = .ok (.iconst 0, 1) := by decide +kernel
theorem dX12_taken_51 : decode cX12_taken 51 = .ok (.istore_n 3, 1) := by decide +kernel
theorem dX12_taken_52 : decode cX12_taken 52 = .ok (.iload_n 3, 1) := by decide +kernel
theorem dX12_taken_53 : decode cX12_taken 53 = .ok (.sipush 320, 3) := by decide +kernel
theorem dX12_taken_56 : decode cX12_taken 56 = .ok (.if_icmp .ge 16, 3) := by decide +kernel
theorem dX12_taken_59 : decode cX12_taken 59 = .ok (.aload_n 0, 1) := by decide +kernel
theorem dX12_taken_60 : decode cX12_taken 60 = .ok (.getfield 71, 3) := by decide +kernel
theorem dX12_taken_63 : decode cX12_taken 63 = .ok (.iload_n 3, 1) := by decide +kernel
theorem dX12_taken_64 : decode cX12_taken 64 = .ok (.lconst 0, 1) := by decide +kernel
theorem dX12_taken_65 : decode cX12_taken 65 = .ok (.lastore, 1) := by decide +kernel
theorem dX12_taken_66 : decode cX12_taken 66 = .ok (.iinc 3 1, 3) := by decide +kernel
theorem dX12_taken_69 : decode cX12_taken 69 = .ok (.goto (-17), 3) := by decide +kernel
theorem dX12_taken_72 : decode cX12_taken 72 = .ok (.iconst 0, 1) := by decide +kernel
theorem dX12_taken_73 : decode cX12_taken 73 = .ok (.istore_n 3, 1) := by decide +kernel
theorem dX12_taken_74 : decode cX12_taken 74 = .ok (.iload_n 3, 1) := by decide +kernel
theorem dX12_taken_75 : decode cX12_taken 75 = .ok (.sipush 320, 3) := by decide +kernel
theorem dX12_taken_78 : decode cX12_taken 78 = .ok (.if_icmp .ge 106, 3) := by decide +kernel
theorem dX12_taken_81 : decode cX12_taken 81 = .ok (.iconst 0, 1) := by decide +kernel
theorem dX12_taken_82 : decode cX12_taken 82 = .ok (.istore 4, 2) := by decide +kernel
theorem dX12_taken_84 : decode cX12_taken 84 = .ok (.iload 4, 2) := by decide +kernel
theorem dX12_taken_86 : decode cX12_taken 86 = .ok (.aload_n 0, 1) := by decide +kernel
theorem dX12_taken_87 : decode cX12_taken 87 = .ok (.getfield 7, 3) := by decide +kernel
theorem dX12_taken_90 : decode cX12_taken 90 = .ok (.if_icmp .ge 88, 3) := by decide +kernel
theorem dX12_taken_93 : decode cX12_taken 93 = .ok (.aload_n 0, 1) := by decide +kernel
theorem dX12_taken_94 : decode cX12_taken 94 = .ok (.getfield 68, 3) := by decide +kernel
theorem dX12_taken_97 : decode cX12_taken 97 = .ok (.iload_n 3, 1) := by decide +kernel
theorem dX12_taken_98 : decode cX12_taken 98 = .ok (.laload, 1) := by decide +kernel
theorem dX12_taken_99 : decode cX12_taken 99 = .ok (.lconst 0, 1) := by decide +kernel
theorem dX12_taken_100 : decode cX12_taken 100 = .ok (.lcmp, 1) := by decide +kernel
theorem dX12_taken_101 : decode cX12_taken 101 = .ok (.ifCond .eq 77, 3) := by decide +kernel
theorem dX12_taken_104 : decode cX12_taken 104 = .ok (.iload_n 3, 1) := by decide +kernel
theorem dX12_taken_105 : decode cX12_taken 105 = .ok (.bipush 64, 2) := by decide +kernel
theorem dX12_taken_107 : decode cX12_taken 107 = .ok (.irem, 1) := by decide +kernel
theorem dX12_taken_108 : decode cX12_taken 108 = .ok (.iload 4, 2) := by decide +kernel
theorem dX12_taken_110 : decode cX12_taken 110 = .ok (.ishr, 1) := by decide +kernel
theorem dX12_taken_111 : decode cX12_taken 111 = .ok (.iconst 1, 1) := by decide +kernel
theorem dX12_taken_112 : decode cX12_taken 112 = .ok (.iand, 1) := by decide +kernel
theorem dX12_taken_113 : decode cX12_taken 113 = .ok (.ifCond .ne 59, 3) := by decide +kernel
theorem dX12_taken_116 : decode cX12_taken 116 = .ok (.bipush 64, 2) := by decide +kernel
theorem dX12_taken_118 : decode cX12_taken 118 = .ok (.aload_n 0, 1) := by decide +kernel
theorem dX12_taken_119 : decode cX12_taken 119 = .ok (.getfield 80, 3) := by decide +kernel
theorem dX12_taken_122 : decode cX12_taken 122 = .ok (.bipush 6, 2) := by decide +kernel
theorem dX12_taken_124 : decode cX12_taken 124 = .ok (.iload_n 3, 1) := by decide +kernel
theorem dX12_taken_125 : decode cX12_taken 125 = .ok (.bipush 64, 2) := by decide +kernel
theorem dX12_taken_127 : decode cX12_taken 127 = .ok (.idiv, 1) := by decide +kernel
theorem dX12_taken_128 : decode cX12_taken 128 = .ok (.imul, 1) := by decide +kernel
theorem dX12_taken_129 : decode cX12_taken 129 = .ok (.iload 4, 2) := by decide +kernel
theorem dX12_taken_131 : decode cX12_taken 131 = .ok (.iadd, 1) := by decide +kernel
theorem dX12_taken_132 : decode cX12_taken 132 = .ok (.iaload, 1) := by decide +kernel
theorem dX12_taken_133 : decode cX12_taken 133 = .ok (.imul, 1) := by decide +kernel
theorem dX12_taken_134 : decode cX12_taken 134 = .ok (.aload_n 0, 1) := by decide +kernel
theorem dX12_taken_135 : decode cX12_taken 135 = .ok (.iload_n 3, 1) := by decide +kernel
theorem dX12_taken_136 : decode cX12_taken 136 = .ok (.bipush 64, 2) := by decide +kernel
theorem dX12_taken_138 : decode cX12_taken 138 = .ok (.irem, 1) := by decide +kernel
theorem dX12_taken_139 : decode cX12_taken 139 = .ok (.iload 4, 2) := by decide +kernel
theorem dX12_taken_141 : decode cX12_taken 141 = .ok (.invokevirtual 254, 3) := by decide +kernel
theorem dX12_taken_144 : decode cX12_taken 144 = .ok (.iadd, 1) := by decide +kernel
theorem dX12_taken_145 : decode cX12_taken 145 = .ok (.istore 5, 2) := by decide +kernel
theorem dX12_taken_147 : decode cX12_taken 147 = .ok (.aload_n 0, 1) := by decide +kernel
theorem dX12_taken_148 : decode cX12_taken 148 = .ok (.getfield 71, 3) := by decide +kernel
theorem dX12_taken_151 : decode cX12_taken 151 = .ok (.iload 5, 2) := by decide +kernel
theorem dX12_taken_153 : decode cX12_taken 153 = .ok (.aload_n 0, 1) := by decide +kernel
theorem dX12_taken_154 : decode cX12_taken 154 = .ok (.getfield 71, 3) := by decide +kernel
theorem dX12_taken_157 : decode cX12_taken 157 = .ok (.iload 5, 2) := by decide +kernel
theorem dX12_taken_159 : decode cX12_taken 159 = .ok (.laload, 1) := by decide +kernel
theorem dX12_taken_160 : decode cX12_taken 160 = .ok (.aload_n 0, 1) := by decide +kernel
theorem dX12_taken_161 : decode cX12_taken 161 = .ok (.getfield 68, 3) := by decide +kernel
theorem dX12_taken_164 : decode cX12_taken 164 = .ok (.iload_n 3, 1) := by decide +kernel
theorem dX12_taken_165 : decode cX12_taken 165 = .ok (.laload, 1) := by decide +kernel
theorem dX12_taken_166 : decode cX12_taken 166 = .ok (.ladd, 1) := by decide +kernel
theorem dX12_taken_167 : decode cX12_taken 167 = .ok (.ldc2_w 218, 3) := by decide +kernel
theorem dX12_taken_170 : decode cX12_taken 170 = .ok (.lrem, 1) := by decide +kernel
theorem dX12_taken_171 : decode cX12_taken 171 = .ok (.lastore, 1) := by decide +kernel
theorem dX12_taken_172 : decode cX12_taken 172 = .ok (.iinc 4 1, 3) := by decide +kernel
theorem dX12_taken_175 : decode cX12_taken 175 = .ok (.goto (-91), 3) := by decide +kernel
theorem dX12_taken_178 : decode cX12_taken 178 = .ok (.iinc 3 1, 3) := by decide +kernel
theorem dX12_taken_181 : decode cX12_taken 181 = .ok (.goto (-107), 3) := by decide +kernel
theorem dX12_taken_184 : decode cX12_taken 184 = .ok (.iconst 0, 1) := by decide +kernel
theorem dX12_taken_185 : decode cX12_taken 185 = .ok (.istore_n 3, 1) := by decide +kernel
theorem dX12_taken_186 : decode cX12_taken 186 = .ok (.iload_n 3, 1) := by decide +kernel
theorem dX12_taken_187 : decode cX12_taken 187 = .ok (.sipush 320, 3) := by decide +kernel
theorem dX12_taken_190 : decode cX12_taken 190 = .ok (.if_icmp .ge 21, 3) := by decide +kernel
theorem dX12_taken_193 : decode cX12_taken 193 = .ok (.aload_n 0, 1) := by decide +kernel
theorem dX12_taken_194 : decode cX12_taken 194 = .ok (.getfield 68, 3) := by decide +kernel
theorem dX12_taken_197 : decode cX12_taken 197 = .ok (.iload_n 3, 1) := by decide +kernel
theorem dX12_taken_198 : decode cX12_taken 198 = .ok (.aload_n 0, 1) := by decide +kernel
theorem dX12_taken_199 : decode cX12_taken 199 = .ok (.getfield 71, 3) := by decide +kernel
theorem dX12_taken_202 : decode cX12_taken 202 = .ok (.iload_n 3, 1) := by decide +kernel
theorem dX12_taken_203 : decode cX12_taken 203 = .ok (.laload, 1) := by decide +kernel
theorem dX12_taken_204 : decode cX12_taken 204 = .ok (.lastore, 1) := by decide +kernel
theorem dX12_taken_205 : decode cX12_taken 205 = .ok (.iinc 3 1, 3) := by decide +kernel
theorem dX12_taken_208 : decode cX12_taken 208 = .ok (.goto (-22), 3) := by decide +kernel
theorem dX12_taken_211 : decode cX12_taken 211 = .ok (.iinc 2 1, 3) := by decide +kernel
theorem dX12_taken_214 : decode cX12_taken 214 = .ok (.goto (-169), 3) := by decide +kernel
theorem dX12_taken_217 : decode cX12_taken 217 = .ok (.lconst 0, 1) := by decide +kernel
theorem dX12_taken_218 : decode cX12_taken 218 = .ok (.lstore_n 2, 1) := by decide +kernel
theorem dX12_taken_219 : decode cX12_taken 219 = .ok (.iconst 0, 1) := by decide +kernel
theorem dX12_taken_220 : decode cX12_taken 220 = .ok (.istore 4, 2) := by decide +kernel
theorem dX12_taken_222 : decode cX12_taken 222 = .ok (.iload 4, 2) := by decide +kernel
theorem dX12_taken_224 : decode cX12_taken 224 = .ok (.sipush 320, 3) := by decide +kernel
theorem dX12_taken_227 : decode cX12_taken 227 = .ok (.if_icmp .ge 39, 3) := by decide +kernel
theorem dX12_taken_230 : decode cX12_taken 230 = .ok (.lload_n 2, 1) := by decide +kernel
theorem dX12_taken_231 : decode cX12_taken 231 = .ok (.aload_n 0, 1) := by decide +kernel
theorem dX12_taken_232 : decode cX12_taken 232 = .ok (.getfield 260, 3) := by decide +kernel
theorem dX12_taken_235 : decode cX12_taken 235 = .ok (.iload 4, 2) := by decide +kernel
theorem dX12_taken_237 : decode cX12_taken 237 = .ok (.bipush 64, 2) := by decide +kernel
theorem dX12_taken_239 : decode cX12_taken 239 = .ok (.idiv, 1) := by decide +kernel
theorem dX12_taken_240 : decode cX12_taken 240 = .ok (.ishr, 1) := by decide +kernel
theorem dX12_taken_241 : decode cX12_taken 241 = .ok (.iconst 1, 1) := by decide +kernel
theorem dX12_taken_242 : decode cX12_taken 242 = .ok (.iand, 1) := by decide +kernel
theorem dX12_taken_243 : decode cX12_taken 243 = .ok (.iconst 1, 1) := by decide +kernel
theorem dX12_taken_244 : decode cX12_taken 244 = .ok (.if_icmp .ne 13, 3) := by decide +kernel
theorem dX12_taken_247 : decode cX12_taken 247 = .ok (.aload_n 0, 1) := by decide +kernel
theorem dX12_taken_248 : decode cX12_taken 248 = .ok (.getfield 68, 3) := by decide +kernel
theorem dX12_taken_251 : decode cX12_taken 251 = .ok (.iload 4, 2) := by decide +kernel
theorem dX12_taken_253 : decode cX12_taken 253 = .ok (.laload, 1) := by decide +kernel
theorem dX12_taken_254 : decode cX12_taken 254 = .ok (.goto 4, 3) := by decide +kernel
theorem dX12_taken_257 : decode cX12_taken 257 = .ok (.lconst 0, 1) := by decide +kernel
theorem dX12_taken_258 : decode cX12_taken 258 = .ok (.ladd, 1) := by decide +kernel
theorem dX12_taken_259 : decode cX12_taken 259 = .ok (.lstore_n 2, 1) := by decide +kernel
theorem dX12_taken_260 : decode cX12_taken 260 = .ok (.iinc 4 1, 3) := by decide +kernel
theorem dX12_taken_263 : decode cX12_taken 263 = .ok (.goto (-41), 3) := by decide +kernel
theorem dX12_taken_266 : decode cX12_taken 266 = .ok (.lload_n 2, 1) := by decide +kernel
theorem dX12_taken_267 : decode cX12_taken 267 = .ok (.ldc2_w 218, 3) := by decide +kernel
theorem dX12_taken_270 : decode cX12_taken 270 = .ok (.lrem, 1) := by decide +kernel
theorem dX12_taken_271 : decode cX12_taken 271 = .ok (.l2i, 1) := by decide +kernel
theorem dX12_taken_272 : decode cX12_taken 272 = .ok (.ireturn, 1) := by decide +kernel
theorem dX12_count_0 : decode cX12_count 0 = .ok (.iconst 0, 1) := by decide +kernel
theorem dX12_count_1 : decode cX12_count 1 = .ok (.istore_n 2, 1) := by decide +kernel
theorem dX12_count_2 : decode cX12_count 2 = .ok (.iload_n 1, 1) := by decide +kernel
theorem dX12_count_3 : decode cX12_count 3 = .ok (.tableswitch 84 0 2 #[25, 30, 79], 25) := by decide +kernel
theorem dX12_count_28 : decode cX12_count 28 = .ok (.aload_n 0, 1) := by decide +kernel
theorem dX12_count_29 : decode cX12_count 29 = .ok (.getfield 7, 3) := by decide +kernel
theorem dX12_count_32 : decode cX12_count 32 = .ok (.ireturn, 1) := by decide +kernel
theorem dX12_count_33 : decode cX12_count 33 = .ok (.iconst 0, 1) := by decide +kernel
theorem dX12_count_34 : decode cX12_count 34 = .ok (.istore_n 3, 1) := by decide +kernel
theorem dX12_count_35 : decode cX12_count 35 = .ok (.iload_n 3, 1) := by decide +kernel
theorem dX12_count_36 : decode cX12_count 36 = .ok (.bipush 6, 2) := by decide +kernel
theorem dX12_count_38 : decode cX12_count 38 = .ok (.if_icmp .ge 42, 3) := by decide +kernel
theorem dX12_count_41 : decode cX12_count 41 = .ok (.iconst 0, 1) := by decide +kernel
theorem dX12_count_42 : decode cX12_count 42 = .ok (.istore 4, 2) := by decide +kernel
theorem dX12_count_44 : decode cX12_count 44 = .ok (.iload 4, 2) := by decide +kernel
theorem dX12_count_46 : decode cX12_count 46 = .ok (.iload_n 3, 1) := by decide +kernel
theorem dX12_count_47 : decode cX12_count 47 = .ok (.if_icmp .ge 27, 3) := by decide +kernel
theorem dX12_count_50 : decode cX12_count 50 = .ok (.iload_n 2, 1) := by decide +kernel
theorem dX12_count_51 : decode cX12_count 51 = .ok (.aload_n 0, 1) := by decide +kernel
theorem dX12_count_52 : decode cX12_count 52 = .ok (.iload_n 3, 1) := by decide +kernel
theorem dX12_count_53 : decode cX12_count 53 = .ok (.iload 4, 2) := by decide +kernel
theorem dX12_count_55 : decode cX12_count 55 = .ok (.invokevirtual 168, 3) := by decide +kernel
theorem dX12_count_58 : decode cX12_count 58 = .ok (.ifCond .eq 7, 3) := by decide +kernel
theorem dX12_count_61 : decode cX12_count 61 = .ok (.iconst 1, 1) := by decide +kernel
theorem dX12_count_62 : decode cX12_count 62 = .ok (.goto 4, 3) := by decide +kernel
theorem dX12_count_65 : decode cX12_count 65 = .ok (.iconst 0, 1) := by decide +kernel
theorem dX12_count_66 : decode cX12_count 66 = .ok (.iadd, 1) := by decide +kernel
theorem dX12_count_67 : decode cX12_count 67 = .ok (.istore_n 2, 1) := by decide +kernel
theorem dX12_count_68 : decode cX12_count 68 = .ok (.iinc 4 1, 3) := by decide +kernel
theorem dX12_count_71 : decode cX12_count 71 = .ok (.goto (-27), 3) := by decide +kernel
theorem dX12_count_74 : decode cX12_count 74 = .ok (.iinc 3 1, 3) := by decide +kernel
theorem dX12_count_77 : decode cX12_count 77 = .ok (.goto (-42), 3) := by decide +kernel
theorem dX12_count_80 : decode cX12_count 80 = .ok (.iload_n 2, 1) := by decide +kernel
theorem dX12_count_81 : decode cX12_count 81 = .ok (.ireturn, 1) := by decide +kernel
theorem dX12_count_82 : decode cX12_count 82 = .ok (.aload_n 0, 1) := by decide +kernel
theorem dX12_count_83 : decode cX12_count 83 = .ok (.getfield 87, 3) := by decide +kernel
theorem dX12_count_86 : decode cX12_count 86 = .ok (.ireturn, 1) := by decide +kernel
theorem dX12_count_87 : decode cX12_count 87 = .ok (.iload_n 1, 1) := by decide +kernel
theorem dX12_count_88 : decode cX12_count 88 = .ok (.iconst 3, 1) := by decide +kernel
theorem dX12_count_89 : decode cX12_count 89 = .ok (.bipush 6, 2) := by decide +kernel
theorem dX12_count_91 : decode cX12_count 91 = .ok (.invokestatic 83, 3) := by decide +kernel
theorem dX12_count_94 : decode cX12_count 94 = .ok (.ifCond .eq 14, 3) := by decide +kernel
theorem dX12_count_97 : decode cX12_count 97 = .ok (.aload_n 0, 1) := by decide +kernel
theorem dX12_count_98 : decode cX12_count 98 = .ok (.getfield 17, 3) := by decide +kernel
theorem dX12_count_101 : decode cX12_count 101 = .ok (.iload_n 1, 1) := by decide +kernel
theorem dX12_count_102 : decode cX12_count 102 = .ok (.iconst 3, 1) := by decide +kernel
theorem dX12_count_103 : decode cX12_count 103 = .ok (.isub, 1) := by decide +kernel
theorem dX12_count_104 : decode cX12_count 104 = .ok (.iaload, 1) := by decide +kernel
theorem dX12_count_105 : decode cX12_count 105 = .ok (.goto 5, 3) := by decide +kernel
theorem dX12_count_108 : decode cX12_count 108 = .ok (.bipush (-3), 2) := by decide +kernel
theorem dX12_count_110 : decode cX12_count 110 = .ok (.ireturn, 1) := by decide +kernel
theorem dJ6_bitCount_0f7a4_0 : decode cJ6_bitCount_0f7a4 0 = .ok (.iload_n 0, 1) := by decide +kernel
theorem dJ6_bitCount_0f7a4_1 : decode cJ6_bitCount_0f7a4 1 = .ok (.iload_n 0, 1) := by decide +kernel
theorem dJ6_bitCount_0f7a4_2 : decode cJ6_bitCount_0f7a4 2 = .ok (.iconst 1, 1) := by decide +kernel
theorem dJ6_bitCount_0f7a4_3 : decode cJ6_bitCount_0f7a4 3 = .ok (.iushr, 1) := by decide +kernel
theorem dJ6_bitCount_0f7a4_4 : decode cJ6_bitCount_0f7a4 4 = .ok (.ldc_w 265, 3) := by decide +kernel
theorem dJ6_bitCount_0f7a4_7 : decode cJ6_bitCount_0f7a4 7 = .ok (.iand, 1) := by decide +kernel
theorem dJ6_bitCount_0f7a4_8 : decode cJ6_bitCount_0f7a4 8 = .ok (.isub, 1) := by decide +kernel
theorem dJ6_bitCount_0f7a4_9 : decode cJ6_bitCount_0f7a4 9 = .ok (.istore_n 0, 1) := by decide +kernel
theorem dJ6_bitCount_0f7a4_10 : decode cJ6_bitCount_0f7a4 10 = .ok (.iload_n 0, 1) := by decide +kernel
theorem dJ6_bitCount_0f7a4_11 : decode cJ6_bitCount_0f7a4 11 = .ok (.ldc_w 266, 3) := by decide +kernel
theorem dJ6_bitCount_0f7a4_14 : decode cJ6_bitCount_0f7a4 14 = .ok (.iand, 1) := by decide +kernel
theorem dJ6_bitCount_0f7a4_15 : decode cJ6_bitCount_0f7a4 15 = .ok (.iload_n 0, 1) := by decide +kernel
theorem dJ6_bitCount_0f7a4_16 : decode cJ6_bitCount_0f7a4 16 = .ok (.iconst 2, 1) := by decide +kernel
theorem dJ6_bitCount_0f7a4_17 : decode cJ6_bitCount_0f7a4 17 = .ok (.iushr, 1) := by decide +kernel
theorem dJ6_bitCount_0f7a4_18 : decode cJ6_bitCount_0f7a4 18 = .ok (.ldc_w 266, 3) := by decide +kernel
theorem dJ6_bitCount_0f7a4_21 : decode cJ6_bitCount_0f7a4 21 = .ok (.iand, 1) := by decide +kernel
theorem dJ6_bitCount_0f7a4_22 : decode cJ6_bitCount_0f7a4 22 = .ok (.iadd, 1) := by decide +kernel
theorem dJ6_bitCount_0f7a4_23 : decode cJ6_bitCount_0f7a4 23 = .ok (.istore_n 0, 1) := by decide +kernel
theorem dJ6_bitCount_0f7a4_24 : decode cJ6_bitCount_0f7a4 24 = .ok (.iload_n 0, 1) := by decide +kernel
theorem dJ6_bitCount_0f7a4_25 : decode cJ6_bitCount_0f7a4 25 = .ok (.iload_n 0, 1) := by decide +kernel
theorem dJ6_bitCount_0f7a4_26 : decode cJ6_bitCount_0f7a4 26 = .ok (.iconst 4, 1) := by decide +kernel
theorem dJ6_bitCount_0f7a4_27 : decode cJ6_bitCount_0f7a4 27 = .ok (.iushr, 1) := by decide +kernel
theorem dJ6_bitCount_0f7a4_28 : decode cJ6_bitCount_0f7a4 28 = .ok (.iadd, 1) := by decide +kernel
theorem dJ6_bitCount_0f7a4_29 : decode cJ6_bitCount_0f7a4 29 = .ok (.ldc_w 267, 3) := by decide +kernel
theorem dJ6_bitCount_0f7a4_32 : decode cJ6_bitCount_0f7a4 32 = .ok (.iand, 1) := by decide +kernel
theorem dJ6_bitCount_0f7a4_33 : decode cJ6_bitCount_0f7a4 33 = .ok (.istore_n 0, 1) := by decide +kernel
theorem dJ6_bitCount_0f7a4_34 : decode cJ6_bitCount_0f7a4 34 = .ok (.iload_n 0, 1) := by decide +kernel
theorem dJ6_bitCount_0f7a4_35 : decode cJ6_bitCount_0f7a4 35 = .ok (.iload_n 0, 1) := by decide +kernel
theorem dJ6_bitCount_0f7a4_36 : decode cJ6_bitCount_0f7a4 36 = .ok (.bipush 8, 2) := by decide +kernel
theorem dJ6_bitCount_0f7a4_38 : decode cJ6_bitCount_0f7a4 38 = .ok (.iushr, 1) := by decide +kernel
theorem dJ6_bitCount_0f7a4_39 : decode cJ6_bitCount_0f7a4 39 = .ok (.iadd, 1) := by decide +kernel
theorem dJ6_bitCount_0f7a4_40 : decode cJ6_bitCount_0f7a4 40 = .ok (.istore_n 0, 1) := by decide +kernel
theorem dJ6_bitCount_0f7a4_41 : decode cJ6_bitCount_0f7a4 41 = .ok (.iload_n 0, 1) := by decide +kernel
theorem dJ6_bitCount_0f7a4_42 : decode cJ6_bitCount_0f7a4 42 = .ok (.iload_n 0, 1) := by decide +kernel
theorem dJ6_bitCount_0f7a4_43 : decode cJ6_bitCount_0f7a4 43 = .ok (.bipush 16, 2) := by decide +kernel
theorem dJ6_bitCount_0f7a4_45 : decode cJ6_bitCount_0f7a4 45 = .ok (.iushr, 1) := by decide +kernel
theorem dJ6_bitCount_0f7a4_46 : decode cJ6_bitCount_0f7a4 46 = .ok (.iadd, 1) := by decide +kernel
theorem dJ6_bitCount_0f7a4_47 : decode cJ6_bitCount_0f7a4 47 = .ok (.istore_n 0, 1) := by decide +kernel
theorem dJ6_bitCount_0f7a4_48 : decode cJ6_bitCount_0f7a4 48 = .ok (.iload_n 0, 1) := by decide +kernel
theorem dJ6_bitCount_0f7a4_49 : decode cJ6_bitCount_0f7a4 49 = .ok (.bipush 63, 2) := by decide +kernel
theorem dJ6_bitCount_0f7a4_51 : decode cJ6_bitCount_0f7a4 51 = .ok (.iand, 1) := by decide +kernel
theorem dJ6_bitCount_0f7a4_52 : decode cJ6_bitCount_0f7a4 52 = .ok (.ireturn, 1) := by decide +kernel
theorem dJ9_floorMod_f86c9_0 : decode cJ9_floorMod_f86c9 0 = .ok (.lload_n 0, 1) := by decide +kernel
theorem dJ9_floorMod_f86c9_1 : decode cJ9_floorMod_f86c9 1 = .ok (.lload_n 2, 1) := by decide +kernel
theorem dJ9_floorMod_f86c9_2 : decode cJ9_floorMod_f86c9 2 = .ok (.lrem, 1) := by decide +kernel
theorem dJ9_floorMod_f86c9_3 : decode cJ9_floorMod_f86c9 3 = .ok (.lstore 4, 2) := by decide +kernel
theorem dJ9_floorMod_f86c9_5 : decode cJ9_floorMod_f86c9 5 = .ok (.lload_n 0, 1) := by decide +kernel
theorem dJ9_floorMod_f86c9_6 : decode cJ9_floorMod_f86c9 6 = .ok (.lload_n 2, 1) := by decide +kernel
theorem dJ9_floorMod_f86c9_7 : decode cJ9_floorMod_f86c9 7 = .ok (.lxor, 1) := by decide +kernel
theorem dJ9_floorMod_f86c9_8 : decode cJ9_floorMod_f86c9 8 = .ok (.lconst 0, 1) := by decide +kernel
theorem dJ9_floorMod_f86c9_9 : decode cJ9_floorMod_f86c9 9 = .ok (.lcmp, 1) := by decide +kernel
theorem dJ9_floorMod_f86c9_10 : decode cJ9_floorMod_f86c9 10 = .ok (.ifCond .ge 15, 3) := by decide +kernel
theorem dJ9_floorMod_f86c9_13 : decode cJ9_floorMod_f86c9 13 = .ok (.lload 4, 2) := by decide +kernel
theorem dJ9_floorMod_f86c9_15 : decode cJ9_floorMod_f86c9 15 = .ok (.lconst 0, 1) := by decide +kernel
theorem dJ9_floorMod_f86c9_16 : decode cJ9_floorMod_f86c9 16 = .ok (.lcmp, 1) := by decide +kernel
theorem dJ9_floorMod_f86c9_17 : decode cJ9_floorMod_f86c9 17 = .ok (.ifCond .eq 8, 3) := by decide +kernel
theorem dJ9_floorMod_f86c9_20 : decode cJ9_floorMod_f86c9 20 = .ok (.lload 4, 2) := by decide +kernel
theorem dJ9_floorMod_f86c9_22 : decode cJ9_floorMod_f86c9 22 = .ok (.lload_n 2, 1) := by decide +kernel
theorem dJ9_floorMod_f86c9_23 : decode cJ9_floorMod_f86c9 23 = .ok (.ladd, 1) := by decide +kernel
theorem dJ9_floorMod_f86c9_24 : decode cJ9_floorMod_f86c9 24 = .ok (.lreturn, 1) := by decide +kernel
theorem dJ9_floorMod_f86c9_25 : decode cJ9_floorMod_f86c9 25 = .ok (.lload 4, 2) := by decide +kernel
theorem dJ9_floorMod_f86c9_27 : decode cJ9_floorMod_f86c9 27 = .ok (.lreturn, 1) := by decide +kernel
theorem dJ9_max_7cf53_0 : decode cJ9_max_7cf53 0 = .ok (.iload_n 0, 1) := by decide +kernel
theorem dJ9_max_7cf53_1 : decode cJ9_max_7cf53 1 = .ok (.iload_n 1, 1) := by decide +kernel
theorem dJ9_max_7cf53_2 : decode cJ9_max_7cf53 2 = .ok (.if_icmp .lt 7, 3) := by decide +kernel
theorem dJ9_max_7cf53_5 : decode cJ9_max_7cf53 5 = .ok (.iload_n 0, 1) := by decide +kernel
theorem dJ9_max_7cf53_6 : decode cJ9_max_7cf53 6 = .ok (.goto 4, 3) := by decide +kernel
theorem dJ9_max_7cf53_9 : decode cJ9_max_7cf53 9 = .ok (.iload_n 1, 1) := by decide +kernel
theorem dJ9_max_7cf53_10 : decode cJ9_max_7cf53 10 = .ok (.ireturn, 1) := by decide +kernel
theorem dJ0_length_8abf5_0 : decode cJ0_length_8abf5 0 = .ok (.aload_n 0, 1) := by decide +kernel
theorem dJ0_length_8abf5_1 : decode cJ0_length_8abf5 1 = .ok (.getfield 9, 3) := by decide +kernel
theorem dJ0_length_8abf5_4 : decode cJ0_length_8abf5 4 = .ok (.arraylength, 1) := by decide +kernel
theorem dJ0_length_8abf5_5 : decode cJ0_length_8abf5 5 = .ok (.aload_n 0, 1) := by decide +kernel
theorem dJ0_length_8abf5_6 : decode cJ0_length_8abf5 6 = .ok (.invokevirtual 335, 3) := by decide +kernel
theorem dJ0_length_8abf5_9 : decode cJ0_length_8abf5 9 = .ok (.ishr, 1) := by decide +kernel
theorem dJ0_length_8abf5_10 : decode cJ0_length_8abf5 10 = .ok (.ireturn, 1) := by decide +kernel
theorem dJ0_charAt_5068e_0 : decode cJ0_charAt_5068e 0 = .ok (.aload_n 0, 1) := by decide +kernel
theorem dJ0_charAt_5068e_1 : decode cJ0_charAt_5068e 1 = .ok (.invokevirtual 492, 3) := by decide +kernel
theorem dJ0_charAt_5068e_4 : decode cJ0_charAt_5068e 4 = .ok (.ifCond .eq 12, 3) := by decide +kernel
theorem dJ0_charAt_5068e_7 : decode cJ0_charAt_5068e 7 = .ok (.aload_n 0, 1) := by decide +kernel
theorem dJ0_charAt_5068e_8 : decode cJ0_charAt_5068e 8 = .ok (.getfield 9, 3) := by decide +kernel
theorem dJ0_charAt_5068e_11 : decode cJ0_charAt_5068e 11 = .ok (.iload_n 1, 1) := by decide +kernel
theorem dJ0_charAt_5068e_12 : decode cJ0_charAt_5068e 12 = .ok (.invokestatic 495, 3) := by decide +kernel
theorem dJ0_charAt_5068e_15 : decode cJ0_charAt_5068e 15 = .ok (.ireturn, 1) := by decide +kernel
theorem dJ0_charAt_5068e_16 : decode cJ0_charAt_5068e 16 = .ok (.aload_n 0, 1) := by decide +kernel
theorem dJ0_charAt_5068e_17 : decode cJ0_charAt_5068e 17 = .ok (.getfield 9, 3) := by decide +kernel
theorem dJ0_charAt_5068e_20 : decode cJ0_charAt_5068e 20 = .ok (.iload_n 1, 1) := by decide +kernel
theorem dJ0_charAt_5068e_21 : decode cJ0_charAt_5068e 21 = .ok (.invokestatic 498, 3) := by decide +kernel
theorem dJ0_charAt_5068e_24 : decode cJ0_charAt_5068e 24 = .ok (.ireturn, 1) := by decide +kernel
theorem dJ0_coder_7d493_0 : decode cJ0_coder_7d493 0 = .ok (.getstatic 38, 3) := by decide +kernel
theorem dJ0_coder_7d493_3 : decode cJ0_coder_7d493 3 = .ok (.ifCond .eq 10, 3) := by decide +kernel
theorem dJ0_coder_7d493_6 : decode cJ0_coder_7d493 6 = .ok (.aload_n 0, 1) := by decide +kernel
theorem dJ0_coder_7d493_7 : decode cJ0_coder_7d493 7 = .ok (.getfield 15, 3) := by decide +kernel
theorem dJ0_coder_7d493_10 : decode cJ0_coder_7d493 10 = .ok (.goto 4, 3) := by decide +kernel
theorem dJ0_coder_7d493_13 : decode cJ0_coder_7d493 13 = .ok (.iconst 1, 1) := by decide +kernel
theorem dJ0_coder_7d493_14 : decode cJ0_coder_7d493 14 = .ok (.ireturn, 1) := by decide +kernel
theorem dJ0_isLatin1_aae02_0 : decode cJ0_isLatin1_aae02 0 = .ok (.getstatic 38, 3) := by decide +kernel
theorem dJ0_isLatin1_aae02_3 : decode cJ0_isLatin1_aae02 3 = .ok (.ifCond .eq 14, 3) := by decide +kernel
theorem dJ0_isLatin1_aae02_6 : decode cJ0_isLatin1_aae02 6 = .ok (.aload_n 0, 1) := by decide +kernel
theorem dJ0_isLatin1_aae02_7 : decode cJ0_isLatin1_aae02 7 = .ok (.getfield 15, 3) := by decide +kernel
theorem dJ0_isLatin1_aae02_10 : decode cJ0_isLatin1_aae02 10 = .ok (.ifCond .ne 7, 3) := by decide +kernel
theorem dJ0_isLatin1_aae02_13 : decode cJ0_isLatin1_aae02 13 = .ok (.iconst 1, 1) := by decide +kernel
theorem dJ0_isLatin1_aae02_14 : decode cJ0_isLatin1_aae02 14 = .ok (.goto 4, 3) := by decide +kernel
theorem dJ0_isLatin1_aae02_17 : decode cJ0_isLatin1_aae02 17 = .ok (.iconst 0, 1) := by decide +kernel
theorem dJ0_isLatin1_aae02_18 : decode cJ0_isLatin1_aae02 18 = .ok (.ireturn, 1) := by decide +kernel
theorem dJ0_checkIndex_df160_0 : decode cJ0_checkIndex_df160 0 = .ok (.iload_n 0, 1) := by decide +kernel
theorem dJ0_checkIndex_df160_1 : decode cJ0_checkIndex_df160 1 = .ok (.iload_n 1, 1) := by decide +kernel
theorem dJ0_checkIndex_df160_2 : decode cJ0_checkIndex_df160 2 = .ok (.getstatic 1053, 3) := by decide +kernel
theorem dJ0_checkIndex_df160_5 : decode cJ0_checkIndex_df160 5 = .ok (.invokestatic 1059, 3) := by decide +kernel
theorem dJ0_checkIndex_df160_8 : decode cJ0_checkIndex_df160 8 = .ok (.pop, 1) := by decide +kernel
theorem dJ0_checkIndex_df160_9 : decode cJ0_checkIndex_df160 9 = .ok (.return_, 1) := by decide +kernel
theorem dJ1_charAt_3b067_0 : decode cJ1_charAt_3b067 0 = .ok (.iload_n 1, 1) := by decide +kernel
theorem dJ1_charAt_3b067_1 : decode cJ1_charAt_3b067 1 = .ok (.aload_n 0, 1) := by decide +kernel
theorem dJ1_charAt_3b067_2 : decode cJ1_charAt_3b067 2 = .ok (.arraylength, 1) := by decide +kernel
theorem dJ1_charAt_3b067_3 : decode cJ1_charAt_3b067 3 = .ok (.invokestatic 9, 3) := by decide +kernel
theorem dJ1_charAt_3b067_6 : decode cJ1_charAt_3b067 6 = .ok (.aload_n 0, 1) := by decide +kernel
theorem dJ1_charAt_3b067_7 : decode cJ1_charAt_3b067 7 = .ok (.iload_n 1, 1) := by decide +kernel
theorem dJ1_charAt_3b067_8 : decode cJ1_charAt_3b067 8 = .ok (.baload, 1) := by decide +kernel
theorem dJ1_charAt_3b067_9 : decode cJ1_charAt_3b067 9 = .ok (.sipush 255, 3) := by decide +kernel
theorem dJ1_charAt_3b067_12 : decode cJ1_charAt_3b067 12 = .ok (.iand, 1) := by decide +kernel
theorem dJ1_charAt_3b067_13 : decode cJ1_charAt_3b067 13 = .ok (.i2c, 1) := by decide +kernel
theorem dJ1_charAt_3b067_14 : decode cJ1_charAt_3b067 14 = .ok (.ireturn, 1) := by decide +kernel
theorem dJ2_getChar_3b067_0 : decode cJ2_getChar_3b067 0 = .ok (.getstatic 44, 3) := by decide +kernel
theorem dJ2_getChar_3b067_3 : decode cJ2_getChar_3b067 3 = .ok (.ifCond .ne 25, 3) := by decide +kernel
theorem dJ2_getChar_3b067_6 : decode cJ2_getChar_3b067 6 = .ok (.iload_n 1, 1) := by decide +kernel
theorem dJ2_getChar_3b067_7 : decode cJ2_getChar_3b067 7 = .ok (.ifCond .lt 11, 3) := by decide +kernel
theorem dJ2_getChar_3b067_10 : decode cJ2_getChar_3b067 10 = .ok (.iload_n 1, 1) := by decide +kernel
theorem dJ2_getChar_3b067_11 : decode cJ2_getChar_3b067 11 = .ok (.aload_n 0, 1) := by decide +kernel
theorem dJ2_getChar_3b067_12 : decode cJ2_getChar_3b067 12 = .ok (.invokestatic 48, 3) := by decide +kernel
theorem dJ2_getChar_3b067_15 : decode cJ2_getChar_3b067 15 = .ok (.if_icmp .lt 13, 3) := by decide +kernel
theorem dJ2_getChar_3b067_18 : decode cJ2_getChar_3b067 18 = .ok (.new 52, 3) := by decide +kernel
theorem dJ2_getChar_3b067_21 : decode cJ2_getChar_3b067 21 = .ok (.dup, 1) := by decide +kernel
theorem dJ2_getChar_3b067_22 : decode cJ2_getChar_3b067 22 = .ok (.ldc 54, 2) := by decide +kernel
theorem dJ2_getChar_3b067_24 : decode cJ2_getChar_3b067 24 = .ok (.invokespecial 56, 3) := by decide +kernel
theorem dJ2_getChar_3b067_27 : decode cJ2_getChar_3b067 27 = .ok (.athrow, 1) := by decide +kernel
theorem dJ2_getChar_3b067_28 : decode cJ2_getChar_3b067 28 = .ok (.iload_n 1, 1) := by decide +kernel
theorem dJ2_getChar_3b067_29 : decode cJ2_getChar_3b067 29 = .ok (.iconst 1, 1) := by decide +kernel
theorem dJ2_getChar_3b067_30 : decode cJ2_getChar_3b067 30 = .ok (.ishl, 1) := by decide +kernel
theorem dJ2_getChar_3b067_31 : decode cJ2_getChar_3b067 31 = .ok (.istore_n 1, 1) := by decide +kernel
theorem dJ2_getChar_3b067_32 : decode cJ2_getChar_3b067 32 = .ok (.aload_n 0, 1) := by decide +kernel
theorem dJ2_getChar_3b067_33 : decode cJ2_getChar_3b067 33 = .ok (.iload_n 1, 1) := by decide +kernel
theorem dJ2_getChar_3b067_34 : decode cJ2_getChar_3b067 34 = .ok (.iinc 1 1, 3) := by decide +kernel
theorem dJ2_getChar_3b067_37 : decode cJ2_getChar_3b067 37 = .ok (.baload, 1) := by decide +kernel
theorem dJ2_getChar_3b067_38 : decode cJ2_getChar_3b067 38 = .ok (.sipush 255, 3) := by decide +kernel
theorem dJ2_getChar_3b067_41 : decode cJ2_getChar_3b067 41 = .ok (.iand, 1) := by decide +kernel
theorem dJ2_getChar_3b067_42 : decode cJ2_getChar_3b067 42 = .ok (.getstatic 59, 3) := by decide +kernel
theorem dJ2_getChar_3b067_45 : decode cJ2_getChar_3b067 45 = .ok (.ishl, 1) := by decide +kernel
theorem dJ2_getChar_3b067_46 : decode cJ2_getChar_3b067 46 = .ok (.aload_n 0, 1) := by decide +kernel
theorem dJ2_getChar_3b067_47 : decode cJ2_getChar_3b067 47 = .ok (.iload_n 1, 1) := by decide +kernel
theorem dJ2_getChar_3b067_48 : decode cJ2_getChar_3b067 48 = .ok (.baload, 1) := by decide +kernel
theorem dJ2_getChar_3b067_49 : decode cJ2_getChar_3b067 49 = .ok (.sipush 255, 3) := by decide +kernel
theorem dJ2_getChar_3b067_52 : decode cJ2_getChar_3b067 52 = .ok (.iand, 1) := by decide +kernel
theorem dJ2_getChar_3b067_53 : decode cJ2_getChar_3b067 53 = .ok (.getstatic 63, 3) := by decide +kernel
theorem dJ2_getChar_3b067_56 : decode cJ2_getChar_3b067 56 = .ok (.ishl, 1) := by decide +kernel
theorem dJ2_getChar_3b067_57 : decode cJ2_getChar_3b067 57 = .ok (.ior, 1) := by decide +kernel
theorem dJ2_getChar_3b067_58 : decode cJ2_getChar_3b067 58 = .ok (.i2c, 1) := by decide +kernel
theorem dJ2_getChar_3b067_59 : decode cJ2_getChar_3b067 59 = .ok (.ireturn, 1) := by decide +kernel
theorem dJ2_length_9d52b_0 : decode cJ2_length_9d52b 0 = .ok (.aload_n 0, 1) := by decide +kernel
theorem dJ2_length_9d52b_1 : decode cJ2_length_9d52b 1 = .ok (.arraylength, 1) := by decide +kernel
theorem dJ2_length_9d52b_2 : decode cJ2_length_9d52b 2 = .ok (.iconst 1, 1) := by decide +kernel
theorem dJ2_length_9d52b_3 : decode cJ2_length_9d52b 3 = .ok (.ishr, 1) := by decide +kernel
theorem dJ2_length_9d52b_4 : decode cJ2_length_9d52b 4 = .ok (.ireturn, 1) := by decide +kernel
theorem dJ2_charAt_3b067_0 : decode cJ2_charAt_3b067 0 = .ok (.iload_n 1, 1) := by decide +kernel
theorem dJ2_charAt_3b067_1 : decode cJ2_charAt_3b067 1 = .ok (.aload_n 0, 1) := by decide +kernel
theorem dJ2_charAt_3b067_2 : decode cJ2_charAt_3b067 2 = .ok (.invokestatic 67, 3) := by decide +kernel
theorem dJ2_charAt_3b067_5 : decode cJ2_charAt_3b067 5 = .ok (.aload_n 0, 1) := by decide +kernel
theorem dJ2_charAt_3b067_6 : decode cJ2_charAt_3b067 6 = .ok (.iload_n 1, 1) := by decide +kernel
theorem dJ2_charAt_3b067_7 : decode cJ2_charAt_3b067 7 = .ok (.invokestatic 71, 3) := by decide +kernel
theorem dJ2_charAt_3b067_10 : decode cJ2_charAt_3b067 10 = .ok (.ireturn, 1) := by decide +kernel
theorem dJ2_checkIndex_2214a_0 : decode cJ2_checkIndex_2214a 0 = .ok (.iload_n 0, 1) := by decide +kernel
theorem dJ2_checkIndex_2214a_1 : decode cJ2_checkIndex_2214a 1 = .ok (.aload_n 1, 1) := by decide +kernel
theorem dJ2_checkIndex_2214a_2 : decode cJ2_checkIndex_2214a 2 = .ok (.invokestatic 48, 3) := by decide +kernel
theorem dJ2_checkIndex_2214a_5 : decode cJ2_checkIndex_2214a 5 = .ok (.invokestatic 414, 3) := by decide +kernel
theorem dJ2_checkIndex_2214a_8 : decode cJ2_checkIndex_2214a 8 = .ok (.return_, 1) := by decide +kernel
theorem dJ7_fill_d0a16_0 : decode cJ7_fill_d0a16 0 = .ok (.iconst 0, 1) := by decide +kernel
theorem dJ7_fill_d0a16_1 : decode cJ7_fill_d0a16 1 = .ok (.istore_n 3, 1) := by decide +kernel
theorem dJ7_fill_d0a16_2 : decode cJ7_fill_d0a16 2 = .ok (.aload_n 0, 1) := by decide +kernel
theorem dJ7_fill_d0a16_3 : decode cJ7_fill_d0a16 3 = .ok (.arraylength, 1) := by decide +kernel
theorem dJ7_fill_d0a16_4 : decode cJ7_fill_d0a16 4 = .ok (.istore 4, 2) := by decide +kernel
theorem dJ7_fill_d0a16_6 : decode cJ7_fill_d0a16 6 = .ok (.iload_n 3, 1) := by decide +kernel
theorem dJ7_fill_d0a16_7 : decode cJ7_fill_d0a16 7 = .ok (.iload 4, 2) := by decide +kernel
theorem dJ7_fill_d0a16_9 : decode cJ7_fill_d0a16 9 = .ok (.if_icmp .ge 13, 3) := by decide +kernel
theorem dJ7_fill_d0a16_12 : decode cJ7_fill_d0a16 12 = .ok (.aload_n 0, 1) := by decide +kernel
theorem dJ7_fill_d0a16_13 : decode cJ7_fill_d0a16 13 = .ok (.iload_n 3, 1) := by decide +kernel
theorem dJ7_fill_d0a16_14 : decode cJ7_fill_d0a16 14 = .ok (.lload_n 1, 1) := by decide +kernel
theorem dJ7_fill_d0a16_15 : decode cJ7_fill_d0a16 15 = .ok (.lastore, 1) := by decide +kernel
theorem dJ7_fill_d0a16_16 : decode cJ7_fill_d0a16 16 = .ok (.iinc 3 1, 3) := by decide +kernel
theorem dJ7_fill_d0a16_19 : decode cJ7_fill_d0a16 19 = .ok (.goto (-13), 3) := by decide +kernel
theorem dJ7_fill_d0a16_22 : decode cJ7_fill_d0a16 22 = .ok (.return_, 1) := by decide +kernel
theorem dJ7_fill_53178_0 : decode cJ7_fill_53178 0 = .ok (.iconst 0, 1) := by decide +kernel
theorem dJ7_fill_53178_1 : decode cJ7_fill_53178 1 = .ok (.istore_n 2, 1) := by decide +kernel
theorem dJ7_fill_53178_2 : decode cJ7_fill_53178 2 = .ok (.aload_n 0, 1) := by decide +kernel
theorem dJ7_fill_53178_3 : decode cJ7_fill_53178 3 = .ok (.arraylength, 1) := by decide +kernel
theorem dJ7_fill_53178_4 : decode cJ7_fill_53178 4 = .ok (.istore_n 3, 1) := by decide +kernel
theorem dJ7_fill_53178_5 : decode cJ7_fill_53178 5 = .ok (.iload_n 2, 1) := by decide +kernel
theorem dJ7_fill_53178_6 : decode cJ7_fill_53178 6 = .ok (.iload_n 3, 1) := by decide +kernel
theorem dJ7_fill_53178_7 : decode cJ7_fill_53178 7 = .ok (.if_icmp .ge 13, 3) := by decide +kernel
theorem dJ7_fill_53178_10 : decode cJ7_fill_53178 10 = .ok (.aload_n 0, 1) := by decide +kernel
theorem dJ7_fill_53178_11 : decode cJ7_fill_53178 11 = .ok (.iload_n 2, 1) := by decide +kernel
theorem dJ7_fill_53178_12 : decode cJ7_fill_53178 12 = .ok (.iload_n 1, 1) := by decide +kernel
theorem dJ7_fill_53178_13 : decode cJ7_fill_53178 13 = .ok (.iastore, 1) := by decide +kernel
theorem dJ7_fill_53178_14 : decode cJ7_fill_53178 14 = .ok (.iinc 2 1, 3) := by decide +kernel
theorem dJ7_fill_53178_17 : decode cJ7_fill_53178 17 = .ok (.goto (-12), 3) := by decide +kernel
theorem dJ7_fill_53178_20 : decode cJ7_fill_53178 20 = .ok (.return_, 1) := by decide +kernel
theorem dJ3_checkIndex_8e157_0 : decode cJ3_checkIndex_8e157 0 = .ok (.iload_n 0, 1) := by decide +kernel
theorem dJ3_checkIndex_8e157_1 : decode cJ3_checkIndex_8e157 1 = .ok (.ifCond .lt 8, 3) := by decide +kernel
theorem dJ3_checkIndex_8e157_4 : decode cJ3_checkIndex_8e157 4 = .ok (.iload_n 0, 1) := by decide +kernel
theorem dJ3_checkIndex_8e157_5 : decode cJ3_checkIndex_8e157 5 = .ok (.iload_n 1, 1) := by decide +kernel
theorem dJ3_checkIndex_8e157_6 : decode cJ3_checkIndex_8e157 6 = .ok (.if_icmp .lt 10, 3) := by decide +kernel
theorem dJ3_checkIndex_8e157_9 : decode cJ3_checkIndex_8e157 9 = .ok (.aload_n 2, 1) := by decide +kernel
theorem dJ3_checkIndex_8e157_10 : decode cJ3_checkIndex_8e157 10 = .ok (.iload_n 0, 1) := by decide +kernel
theorem dJ3_checkIndex_8e157_11 : decode cJ3_checkIndex_8e157 11 = .ok (.iload_n 1, 1) := by decide +kernel
theorem dJ3_checkIndex_8e157_12 : decode cJ3_checkIndex_8e157 12 = .ok (.invokestatic 95, 3) := by decide +kernel
theorem dJ3_checkIndex_8e157_15 : decode cJ3_checkIndex_8e157 15 = .ok (.athrow, 1) := by decide +kernel
theorem dJ3_checkIndex_8e157_16 : decode cJ3_checkIndex_8e157 16 = .ok (.iload_n 0, 1) := by decide +kernel
theorem dJ3_checkIndex_8e157_17 : decode cJ3_checkIndex_8e157 17 = .ok (.ireturn, 1) := by decide +kernel
theorem dL_law_0 : decode cL_law 0 = .ok (.new 7, 3) := by decide +kernel
theorem dL_law_3 : decode cL_law 3 = .ok (.dup, 1) := by decide +kernel
theorem dL_law_4 : decode cL_law 4 = .ok (.invokespecial 9, 3) := by decide +kernel
theorem dL_law_7 : decode cL_law 7 = .ok (.astore_n 1, 1) := by decide +kernel
theorem dL_law_8 : decode cL_law 8 = .ok (.new 10, 3) := by decide +kernel
theorem dL_law_11 : decode cL_law 11 = .ok (.dup, 1) := by decide +kernel
theorem dL_law_12 : decode cL_law 12 = .ok (.invokespecial 12, 3) := by decide +kernel
theorem dL_law_15 : decode cL_law 15 = .ok (.astore_n 2, 1) := by decide +kernel
theorem dL_law_16 : decode cL_law 16 = .ok (.iconst 0, 1) := by decide +kernel
theorem dL_law_17 : decode cL_law 17 = .ok (.istore_n 3, 1) := by decide +kernel
theorem dL_law_18 : decode cL_law 18 = .ok (.iload_n 3, 1) := by decide +kernel
theorem dL_law_19 : decode cL_law 19 = .ok (.aload_n 0, 1) := by decide +kernel
theorem dL_law_20 : decode cL_law 20 = .ok (.arraylength, 1) := by decide +kernel
theorem dL_law_21 : decode cL_law 21 = .ok (.iconst 4, 1) := by decide +kernel
theorem dL_law_22 : decode cL_law 22 = .ok (.isub, 1) := by decide +kernel
theorem dL_law_23 : decode cL_law 23 = .ok (.if_icmp .gt 1181, 3) := by decide +kernel
theorem dL_law_26 : decode cL_law 26 = .ok (.aload_n 0, 1) := by decide +kernel
theorem dL_law_27 : decode cL_law 27 = .ok (.iload_n 3, 1) := by decide +kernel
theorem dL_law_28 : decode cL_law 28 = .ok (.iaload, 1) := by decide +kernel
theorem dL_law_29 : decode cL_law 29 = .ok (.bipush 31, 2) := by decide +kernel
theorem dL_law_31 : decode cL_law 31 = .ok (.iand, 1) := by decide +kernel
theorem dL_law_32 : decode cL_law 32 = .ok (.tableswitch 1166 0 31 #[144, 207, 220, 233, 246, 305, 338, 361, 404, 437, 470, 503, 546, 579, 622, 665, 708, 751, 774, 807, 830, 853, 886, 909, 932, 975, 998, 1031, 1074, 1087, 1120, 1143], 144) := by decide +kernel
theorem dL_law_176 : decode cL_law 176 = .ok (.aload_n 1, 1) := by decide +kernel
theorem dL_law_177 : decode cL_law 177 = .ok (.aload_n 0, 1) := by decide +kernel
theorem dL_law_178 : decode cL_law 178 = .ok (.iload_n 3, 1) := by decide +kernel
theorem dL_law_179 : decode cL_law 179 = .ok (.iconst 1, 1) := by decide +kernel
theorem dL_law_180 : decode cL_law 180 = .ok (.iadd, 1) := by decide +kernel
theorem dL_law_181 : decode cL_law 181 = .ok (.iaload, 1) := by decide +kernel
theorem dL_law_182 : decode cL_law 182 = .ok (.i2l, 1) := by decide +kernel
theorem dL_law_183 : decode cL_law 183 = .ok (.bipush 32, 2) := by decide +kernel
theorem dL_law_185 : decode cL_law 185 = .ok (.lshl, 1) := by decide +kernel
theorem dL_law_186 : decode cL_law 186 = .ok (.aload_n 0, 1) := by decide +kernel
theorem dL_law_187 : decode cL_law 187 = .ok (.iload_n 3, 1) := by decide +kernel
theorem dL_law_188 : decode cL_law 188 = .ok (.iconst 2, 1) := by decide +kernel
theorem dL_law_189 : decode cL_law 189 = .ok (.iadd, 1) := by decide +kernel
theorem dL_law_190 : decode cL_law 190 = .ok (.iaload, 1) := by decide +kernel
theorem dL_law_191 : decode cL_law 191 = .ok (.i2l, 1) := by decide +kernel
theorem dL_law_192 : decode cL_law 192 = .ok (.ldc2_w 13, 3) := by decide +kernel
theorem dL_law_195 : decode cL_law 195 = .ok (.land, 1) := by decide +kernel
theorem dL_law_196 : decode cL_law 196 = .ok (.lor, 1) := by decide +kernel
theorem dL_law_197 : decode cL_law 197 = .ok (.aload_n 0, 1) := by decide +kernel
theorem dL_law_198 : decode cL_law 198 = .ok (.iload_n 3, 1) := by decide +kernel
theorem dL_law_199 : decode cL_law 199 = .ok (.iconst 3, 1) := by decide +kernel
theorem dL_law_200 : decode cL_law 200 = .ok (.iadd, 1) := by decide +kernel
theorem dL_law_201 : decode cL_law 201 = .ok (.iaload, 1) := by decide +kernel
theorem dL_law_202 : decode cL_law 202 = .ok (.invokevirtual 15, 3) := by decide +kernel
theorem dL_law_205 : decode cL_law 205 = .ok (.aload_n 2, 1) := by decide +kernel
theorem dL_law_206 : decode cL_law 206 = .ok (.aload_n 0, 1) := by decide +kernel
theorem dL_law_207 : decode cL_law 207 = .ok (.iload_n 3, 1) := by decide +kernel
theorem dL_law_208 : decode cL_law 208 = .ok (.iconst 1, 1) := by decide +kernel
theorem dL_law_209 : decode cL_law 209 = .ok (.iadd, 1) := by decide +kernel
theorem dL_law_210 : decode cL_law 210 = .ok (.iaload, 1) := by decide +kernel
theorem dL_law_211 : decode cL_law 211 = .ok (.i2l, 1) := by decide +kernel
theorem dL_law_212 : decode cL_law 212 = .ok (.bipush 32, 2) := by decide +kernel
theorem dL_law_214 : decode cL_law 214 = .ok (.lshl, 1) := by decide +kernel
theorem dL_law_215 : decode cL_law 215 = .ok (.aload_n 0, 1) := by decide +kernel
theorem dL_law_216 : decode cL_law 216 = .ok (.iload_n 3, 1) := by decide +kernel
theorem dL_law_217 : decode cL_law 217 = .ok (.iconst 2, 1) := by decide +kernel
theorem dL_law_218 : decode cL_law 218 = .ok (.iadd, 1) := by decide +kernel
theorem dL_law_219 : decode cL_law 219 = .ok (.iaload, 1) := by decide +kernel
theorem dL_law_220 : decode cL_law 220 = .ok (.i2l, 1) := by decide +kernel
theorem dL_law_221 : decode cL_law 221 = .ok (.ldc2_w 13, 3) := by decide +kernel
theorem dL_law_224 : decode cL_law 224 = .ok (.land, 1) := by decide +kernel
theorem dL_law_225 : decode cL_law 225 = .ok (.lor, 1) := by decide +kernel
theorem dL_law_226 : decode cL_law 226 = .ok (.aload_n 0, 1) := by decide +kernel
theorem dL_law_227 : decode cL_law 227 = .ok (.iload_n 3, 1) := by decide +kernel
theorem dL_law_228 : decode cL_law 228 = .ok (.iconst 3, 1) := by decide +kernel
theorem dL_law_229 : decode cL_law 229 = .ok (.iadd, 1) := by decide +kernel
theorem dL_law_230 : decode cL_law 230 = .ok (.iaload, 1) := by decide +kernel
theorem dL_law_231 : decode cL_law 231 = .ok (.invokevirtual 19, 3) := by decide +kernel
theorem dL_law_234 : decode cL_law 234 = .ok (.if_icmp .eq 964, 3) := by decide +kernel
theorem dL_law_237 : decode cL_law 237 = .ok (.iconst 0, 1) := by decide +kernel
theorem dL_law_238 : decode cL_law 238 = .ok (.ireturn, 1) := by decide +kernel
theorem dL_law_239 : decode cL_law 239 = .ok (.aload_n 1, 1) := by decide +kernel
theorem dL_law_240 : decode cL_law 240 = .ok (.invokevirtual 20, 3) := by decide +kernel
theorem dL_law_243 : decode cL_law 243 = .ok (.aload_n 2, 1) := by decide +kernel
theorem dL_law_244 : decode cL_law 244 = .ok (.invokevirtual 24, 3) := by decide +kernel
theorem dL_law_247 : decode cL_law 247 = .ok (.if_icmp .eq 951, 3) := by decide +kernel
theorem dL_law_250 : decode cL_law 250 = .ok (.iconst 0, 1) := by decide +kernel
theorem dL_law_251 : decode cL_law 251 = .ok (.ireturn, 1) := by decide +kernel
theorem dL_law_252 : decode cL_law 252 = .ok (.aload_n 1, 1) := by decide +kernel
theorem dL_law_253 : decode cL_law 253 = .ok (.invokevirtual 25, 3) := by decide +kernel
theorem dL_law_256 : decode cL_law 256 = .ok (.aload_n 2, 1) := by decide +kernel
theorem dL_law_257 : decode cL_law 257 = .ok (.invokevirtual 28, 3) := by decide +kernel
theorem dL_law_260 : decode cL_law 260 = .ok (.if_icmp .eq 938, 3) := by decide +kernel
theorem dL_law_263 : decode cL_law 263 = .ok (.iconst 0, 1) := by decide +kernel
theorem dL_law_264 : decode cL_law 264 = .ok (.ireturn, 1) := by decide +kernel
theorem dL_law_265 : decode cL_law 265 = .ok (.aload_n 1, 1) := by decide +kernel
theorem dL_law_266 : decode cL_law 266 = .ok (.invokevirtual 29, 3) := by decide +kernel
theorem dL_law_269 : decode cL_law 269 = .ok (.aload_n 2, 1) := by decide +kernel
theorem dL_law_270 : decode cL_law 270 = .ok (.invokevirtual 32, 3) := by decide +kernel
theorem dL_law_273 : decode cL_law 273 = .ok (.if_icmp .eq 925, 3) := by decide +kernel
theorem dL_law_276 : decode cL_law 276 = .ok (.iconst 0, 1) := by decide +kernel
theorem dL_law_277 : decode cL_law 277 = .ok (.ireturn, 1) := by decide +kernel
theorem dL_law_278 : decode cL_law 278 = .ok (.aload_n 1, 1) := by decide +kernel
theorem dL_law_279 : decode cL_law 279 = .ok (.aload_n 0, 1) := by decide +kernel
theorem dL_law_280 : decode cL_law 280 = .ok (.iload_n 3, 1) := by decide +kernel
theorem dL_law_281 : decode cL_law 281 = .ok (.iconst 1, 1) := by decide +kernel
theorem dL_law_282 : decode cL_law 282 = .ok (.iadd, 1) := by decide +kernel
theorem dL_law_283 : decode cL_law 283 = .ok (.iaload, 1) := by decide +kernel
theorem dL_law_284 : decode cL_law 284 = .ok (.aload_n 0, 1) := by decide +kernel
theorem dL_law_285 : decode cL_law 285 = .ok (.iload_n 3, 1) := by decide +kernel
theorem dL_law_286 : decode cL_law 286 = .ok (.iconst 2, 1) := by decide +kernel
theorem dL_law_287 : decode cL_law 287 = .ok (.iadd, 1) := by decide +kernel
theorem dL_law_288 : decode cL_law 288 = .ok (.iaload, 1) := by decide +kernel
theorem dL_law_289 : decode cL_law 289 = .ok (.aload_n 0, 1) := by decide +kernel
theorem dL_law_290 : decode cL_law 290 = .ok (.iload_n 3, 1) := by decide +kernel
theorem dL_law_291 : decode cL_law 291 = .ok (.iconst 3, 1) := by decide +kernel
theorem dL_law_292 : decode cL_law 292 = .ok (.iadd, 1) := by decide +kernel
theorem dL_law_293 : decode cL_law 293 = .ok (.iaload, 1) := by decide +kernel
theorem dL_law_294 : decode cL_law 294 = .ok (.ifCond .eq 7, 3) := by decide +kernel
theorem dL_law_297 : decode cL_law 297 = .ok (.iconst 1, 1) := by decide +kernel
theorem dL_law_298 : decode cL_law 298 = .ok (.goto 4, 3) := by decide +kernel
theorem dL_law_301 : decode cL_law 301 = .ok (.iconst 0, 1) := by decide +kernel
theorem dL_law_302 : decode cL_law 302 = .ok (.invokevirtual 33, 3) := by decide +kernel
theorem dL_law_305 : decode cL_law 305 = .ok (.aload_n 2, 1) := by decide +kernel
theorem dL_law_306 : decode cL_law 306 = .ok (.aload_n 0, 1) := by decide +kernel
theorem dL_law_307 : decode cL_law 307 = .ok (.iload_n 3, 1) := by decide +kernel
theorem dL_law_308 : decode cL_law 308 = .ok (.iconst 1, 1) := by decide +kernel
theorem dL_law_309 : decode cL_law 309 = .ok (.iadd, 1) := by decide +kernel
theorem dL_law_310 : decode cL_law 310 = .ok (.iaload, 1) := by decide +kernel
theorem dL_law_311 : decode cL_law 311 = .ok (.aload_n 0, 1) := by decide +kernel
theorem dL_law_312 : decode cL_law 312 = .ok (.iload_n 3, 1) := by decide +kernel
theorem dL_law_313 : decode cL_law 313 = .ok (.iconst 2, 1) := by decide +kernel
theorem dL_law_314 : decode cL_law 314 = .ok (.iadd, 1) := by decide +kernel
theorem dL_law_315 : decode cL_law 315 = .ok (.iaload, 1) := by decide +kernel
theorem dL_law_316 : decode cL_law 316 = .ok (.aload_n 0, 1) := by decide +kernel
theorem dL_law_317 : decode cL_law 317 = .ok (.iload_n 3, 1) := by decide +kernel
theorem dL_law_318 : decode cL_law 318 = .ok (.iconst 3, 1) := by decide +kernel
theorem dL_law_319 : decode cL_law 319 = .ok (.iadd, 1) := by decide +kernel
theorem dL_law_320 : decode cL_law 320 = .ok (.iaload, 1) := by decide +kernel
theorem dL_law_321 : decode cL_law 321 = .ok (.ifCond .eq 7, 3) := by decide +kernel
theorem dL_law_324 : decode cL_law 324 = .ok (.iconst 1, 1) := by decide +kernel
theorem dL_law_325 : decode cL_law 325 = .ok (.goto 4, 3) := by decide +kernel
theorem dL_law_328 : decode cL_law 328 = .ok (.iconst 0, 1) := by decide +kernel
theorem dL_law_329 : decode cL_law 329 = .ok (.invokevirtual 37, 3) := by decide +kernel
theorem dL_law_332 : decode cL_law 332 = .ok (.if_icmp .eq 866, 3) := by decide +kernel
theorem dL_law_335 : decode cL_law 335 = .ok (.iconst 0, 1) := by decide +kernel
theorem dL_law_336 : decode cL_law 336 = .ok (.ireturn, 1) := by decide +kernel
theorem dL_law_337 : decode cL_law 337 = .ok (.aload_n 1, 1) := by decide +kernel
theorem dL_law_338 : decode cL_law 338 = .ok (.aload_n 0, 1) := by decide +kernel
theorem dL_law_339 : decode cL_law 339 = .ok (.iload_n 3, 1) := by decide +kernel
theorem dL_law_340 : decode cL_law 340 = .ok (.iconst 1, 1) := by decide +kernel
theorem dL_law_341 : decode cL_law 341 = .ok (.iadd, 1) := by decide +kernel
theorem dL_law_342 : decode cL_law 342 = .ok (.iaload, 1) := by decide +kernel
theorem dL_law_343 : decode cL_law 343 = .ok (.aload_n 0, 1) := by decide +kernel
theorem dL_law_344 : decode cL_law 344 = .ok (.iload_n 3, 1) := by decide +kernel
theorem dL_law_345 : decode cL_law 345 = .ok (.iconst 2, 1) := by decide +kernel
theorem dL_law_346 : decode cL_law 346 = .ok (.iadd, 1) := by decide +kernel
theorem dL_law_347 : decode cL_law 347 = .ok (.iaload, 1) := by decide +kernel
theorem dL_law_348 : decode cL_law 348 = .ok (.invokevirtual 38, 3) := by decide +kernel
theorem dL_law_351 : decode cL_law 351 = .ok (.aload_n 2, 1) := by decide +kernel
theorem dL_law_352 : decode cL_law 352 = .ok (.aload_n 0, 1) := by decide +kernel
theorem dL_law_353 : decode cL_law 353 = .ok (.iload_n 3, 1) := by decide +kernel
theorem dL_law_354 : decode cL_law 354 = .ok (.iconst 1, 1) := by decide +kernel
theorem dL_law_355 : decode cL_law 355 = .ok (.iadd, 1) := by decide +kernel
theorem dL_law_356 : decode cL_law 356 = .ok (.iaload, 1) := by decide +kernel
theorem dL_law_357 : decode cL_law 357 = .ok (.aload_n 0, 1) := by decide +kernel
theorem dL_law_358 : decode cL_law 358 = .ok (.iload_n 3, 1) := by decide +kernel
theorem dL_law_359 : decode cL_law 359 = .ok (.iconst 2, 1) := by decide +kernel
theorem dL_law_360 : decode cL_law 360 = .ok (.iadd, 1) := by decide +kernel
theorem dL_law_361 : decode cL_law 361 = .ok (.iaload, 1) := by decide +kernel
theorem dL_law_362 : decode cL_law 362 = .ok (.invokevirtual 42, 3) := by decide +kernel
theorem dL_law_365 : decode cL_law 365 = .ok (.if_icmp .eq 833, 3) := by decide +kernel
theorem dL_law_368 : decode cL_law 368 = .ok (.iconst 0, 1) := by decide +kernel
theorem dL_law_369 : decode cL_law 369 = .ok (.ireturn, 1) := by decide +kernel
theorem dL_law_370 : decode cL_law 370 = .ok (.aload_n 1, 1) := by decide +kernel
theorem dL_law_371 : decode cL_law 371 = .ok (.aload_n 0, 1) := by decide +kernel
theorem dL_law_372 : decode cL_law 372 = .ok (.iload_n 3, 1) := by decide +kernel
theorem dL_law_373 : decode cL_law 373 = .ok (.iconst 1, 1) := by decide +kernel
theorem dL_law_374 : decode cL_law 374 = .ok (.iadd, 1) := by decide +kernel
theorem dL_law_375 : decode cL_law 375 = .ok (.iaload, 1) := by decide +kernel
theorem dL_law_376 : decode cL_law 376 = .ok (.invokevirtual 43, 3) := by decide +kernel
theorem dL_law_379 : decode cL_law 379 = .ok (.aload_n 2, 1) := by decide +kernel
theorem dL_law_380 : decode cL_law 380 = .ok (.aload_n 0, 1) := by decide +kernel
theorem dL_law_381 : decode cL_law 381 = .ok (.iload_n 3, 1) := by decide +kernel
theorem dL_law_382 : decode cL_law 382 = .ok (.iconst 1, 1) := by decide +kernel
theorem dL_law_383 : decode cL_law 383 = .ok (.iadd, 1) := by decide +kernel
theorem dL_law_384 : decode cL_law 384 = .ok (.iaload, 1) := by decide +kernel
theorem dL_law_385 : decode cL_law 385 = .ok (.invokevirtual 47, 3) := by decide +kernel
theorem dL_law_388 : decode cL_law 388 = .ok (.if_icmp .eq 810, 3) := by decide +kernel
theorem dL_law_391 : decode cL_law 391 = .ok (.iconst 0, 1) := by decide +kernel
theorem dL_law_392 : decode cL_law 392 = .ok (.ireturn, 1) := by decide +kernel
theorem dL_law_393 : decode cL_law 393 = .ok (.aload_n 1, 1) := by decide +kernel
theorem dL_law_394 : decode cL_law 394 = .ok (.aload_n 0, 1) := by decide +kernel
theorem dL_law_395 : decode cL_law 395 = .ok (.iload_n 3, 1) := by decide +kernel
theorem dL_law_396 : decode cL_law 396 = .ok (.iconst 1, 1) := by decide +kernel
theorem dL_law_397 : decode cL_law 397 = .ok (.iadd, 1) := by decide +kernel
theorem dL_law_398 : decode cL_law 398 = .ok (.iaload, 1) := by decide +kernel
theorem dL_law_399 : decode cL_law 399 = .ok (.aload_n 0, 1) := by decide +kernel
theorem dL_law_400 : decode cL_law 400 = .ok (.iload_n 3, 1) := by decide +kernel
theorem dL_law_401 : decode cL_law 401 = .ok (.iconst 2, 1) := by decide +kernel
theorem dL_law_402 : decode cL_law 402 = .ok (.iadd, 1) := by decide +kernel
theorem dL_law_403 : decode cL_law 403 = .ok (.iaload, 1) := by decide +kernel
theorem dL_law_404 : decode cL_law 404 = .ok (.aload_n 0, 1) := by decide +kernel
theorem dL_law_405 : decode cL_law 405 = .ok (.iload_n 3, 1) := by decide +kernel
theorem dL_law_406 : decode cL_law 406 = .ok (.iconst 3, 1) := by decide +kernel
theorem dL_law_407 : decode cL_law 407 = .ok (.iadd, 1) := by decide +kernel
theorem dL_law_408 : decode cL_law 408 = .ok (.iaload, 1) := by decide +kernel
theorem dL_law_409 : decode cL_law 409 = .ok (.invokevirtual 48, 3) := by decide +kernel
theorem dL_law_412 : decode cL_law 412 = .ok (.aload_n 2, 1) := by decide +kernel
theorem dL_law_413 : decode cL_law 413 = .ok (.aload_n 0, 1) := by decide +kernel
theorem dL_law_414 : decode cL_law 414 = .ok (.iload_n 3, 1) := by decide +kernel
theorem dL_law_415 : decode cL_law 415 = .ok (.iconst 1, 1) := by decide +kernel
theorem dL_law_416 : decode cL_law 416 = .ok (.iadd, 1) := by decide +kernel
theorem dL_law_417 : decode cL_law 417 = .ok (.iaload, 1) := by decide +kernel
theorem dL_law_418 : decode cL_law 418 = .ok (.aload_n 0, 1) := by decide +kernel
theorem dL_law_419 : decode cL_law 419 = .ok (.iload_n 3, 1) := by decide +kernel
theorem dL_law_420 : decode cL_law 420 = .ok (.iconst 2, 1) := by decide +kernel
theorem dL_law_421 : decode cL_law 421 = .ok (.iadd, 1) := by decide +kernel
theorem dL_law_422 : decode cL_law 422 = .ok (.iaload, 1) := by decide +kernel
theorem dL_law_423 : decode cL_law 423 = .ok (.aload_n 0, 1) := by decide +kernel
theorem dL_law_424 : decode cL_law 424 = .ok (.iload_n 3, 1) := by decide +kernel
theorem dL_law_425 : decode cL_law 425 = .ok (.iconst 3, 1) := by decide +kernel
theorem dL_law_426 : decode cL_law 426 = .ok (.iadd, 1) := by decide +kernel
theorem dL_law_427 : decode cL_law 427 = .ok (.iaload, 1) := by decide +kernel
theorem dL_law_428 : decode cL_law 428 = .ok (.invokevirtual 52, 3) := by decide +kernel
theorem dL_law_431 : decode cL_law 431 = .ok (.if_icmp .eq 767, 3) := by decide +kernel
theorem dL_law_434 : decode cL_law 434 = .ok (.iconst 0, 1) := by decide +kernel
theorem dL_law_435 : decode cL_law 435 = .ok (.ireturn, 1) := by decide +kernel
theorem dL_law_436 : decode cL_law 436 = .ok (.aload_n 1, 1) := by decide +kernel
theorem dL_law_437 : decode cL_law 437 = .ok (.aload_n 0, 1) := by decide +kernel
theorem dL_law_438 : decode cL_law 438 = .ok (.iload_n 3, 1) := by decide +kernel
theorem dL_law_439 : decode cL_law 439 = .ok (.iconst 1, 1) := by decide +kernel
theorem dL_law_440 : decode cL_law 440 = .ok (.iadd, 1) := by decide +kernel
theorem dL_law_441 : decode cL_law 441 = .ok (.iaload, 1) := by decide +kernel
theorem dL_law_442 : decode cL_law 442 = .ok (.aload_n 0, 1) := by decide +kernel
theorem dL_law_443 : decode cL_law 443 = .ok (.iload_n 3, 1) := by decide +kernel
theorem dL_law_444 : decode cL_law 444 = .ok (.iconst 2, 1) := by decide +kernel
theorem dL_law_445 : decode cL_law 445 = .ok (.iadd, 1) := by decide +kernel
theorem dL_law_446 : decode cL_law 446 = .ok (.iaload, 1) := by decide +kernel
theorem dL_law_447 : decode cL_law 447 = .ok (.invokevirtual 53, 3) := by decide +kernel
theorem dL_law_450 : decode cL_law 450 = .ok (.aload_n 2, 1) := by decide +kernel
theorem dL_law_451 : decode cL_law 451 = .ok (.aload_n 0, 1) := by decide +kernel
theorem dL_law_452 : decode cL_law 452 = .ok (.iload_n 3, 1) := by decide +kernel
theorem dL_law_453 : decode cL_law 453 = .ok (.iconst 1, 1) := by decide +kernel
theorem dL_law_454 : decode cL_law 454 = .ok (.iadd, 1) := by decide +kernel
theorem dL_law_455 : decode cL_law 455 = .ok (.iaload, 1) := by decide +kernel
theorem dL_law_456 : decode cL_law 456 = .ok (.aload_n 0, 1) := by decide +kernel
theorem dL_law_457 : decode cL_law 457 = .ok (.iload_n 3, 1) := by decide +kernel
theorem dL_law_458 : decode cL_law 458 = .ok (.iconst 2, 1) := by decide +kernel
theorem dL_law_459 : decode cL_law 459 = .ok (.iadd, 1) := by decide +kernel
theorem dL_law_460 : decode cL_law 460 = .ok (.iaload, 1) := by decide +kernel
theorem dL_law_461 : decode cL_law 461 = .ok (.invokevirtual 56, 3) := by decide +kernel
theorem dL_law_464 : decode cL_law 464 = .ok (.if_icmp .eq 734, 3) := by decide +kernel
theorem dL_law_467 : decode cL_law 467 = .ok (.iconst 0, 1) := by decide +kernel
theorem dL_law_468 : decode cL_law 468 = .ok (.ireturn, 1) := by decide +kernel
theorem dL_law_469 : decode cL_law 469 = .ok (.aload_n 1, 1) := by decide +kernel
theorem dL_law_470 : decode cL_law 470 = .ok (.aload_n 0, 1) := by decide +kernel
theorem dL_law_471 : decode cL_law 471 = .ok (.iload_n 3, 1) := by decide +kernel
theorem dL_law_472 : decode cL_law 472 = .ok (.iconst 1, 1) := by decide +kernel
theorem dL_law_473 : decode cL_law 473 = .ok (.iadd, 1) := by decide +kernel
theorem dL_law_474 : decode cL_law 474 = .ok (.iaload, 1) := by decide +kernel
theorem dL_law_475 : decode cL_law 475 = .ok (.aload_n 0, 1) := by decide +kernel
theorem dL_law_476 : decode cL_law 476 = .ok (.iload_n 3, 1) := by decide +kernel
theorem dL_law_477 : decode cL_law 477 = .ok (.iconst 2, 1) := by decide +kernel
theorem dL_law_478 : decode cL_law 478 = .ok (.iadd, 1) := by decide +kernel
theorem dL_law_479 : decode cL_law 479 = .ok (.iaload, 1) := by decide +kernel
theorem dL_law_480 : decode cL_law 480 = .ok (.invokevirtual 57, 3) := by decide +kernel
theorem dL_law_483 : decode cL_law 483 = .ok (.aload_n 2, 1) := by decide +kernel
theorem dL_law_484 : decode cL_law 484 = .ok (.aload_n 0, 1) := by decide +kernel
theorem dL_law_485 : decode cL_law 485 = .ok (.iload_n 3, 1) := by decide +kernel
theorem dL_law_486 : decode cL_law 486 = .ok (.iconst 1, 1) := by decide +kernel
theorem dL_law_487 : decode cL_law 487 = .ok (.iadd, 1) := by decide +kernel
theorem dL_law_488 : decode cL_law 488 = .ok (.iaload, 1) := by decide +kernel
theorem dL_law_489 : decode cL_law 489 = .ok (.aload_n 0, 1) := by decide +kernel
theorem dL_law_490 : decode cL_law 490 = .ok (.iload_n 3, 1) := by decide +kernel
theorem dL_law_491 : decode cL_law 491 = .ok (.iconst 2, 1) := by decide +kernel
theorem dL_law_492 : decode cL_law 492 = .ok (.iadd, 1) := by decide +kernel
theorem dL_law_493 : decode cL_law 493 = .ok (.iaload, 1) := by decide +kernel
theorem dL_law_494 : decode cL_law 494 = .ok (.invokevirtual 60, 3) := by decide +kernel
theorem dL_law_497 : decode cL_law 497 = .ok (.if_icmp .eq 701, 3) := by decide +kernel
theorem dL_law_500 : decode cL_law 500 = .ok (.iconst 0, 1) := by decide +kernel
theorem dL_law_501 : decode cL_law 501 = .ok (.ireturn, 1) := by decide +kernel
theorem dL_law_502 : decode cL_law 502 = .ok (.aload_n 1, 1) := by decide +kernel
theorem dL_law_503 : decode cL_law 503 = .ok (.aload_n 0, 1) := by decide +kernel
theorem dL_law_504 : decode cL_law 504 = .ok (.iload_n 3, 1) := by decide +kernel
theorem dL_law_505 : decode cL_law 505 = .ok (.iconst 1, 1) := by decide +kernel
theorem dL_law_506 : decode cL_law 506 = .ok (.iadd, 1) := by decide +kernel
theorem dL_law_507 : decode cL_law 507 = .ok (.iaload, 1) := by decide +kernel
theorem dL_law_508 : decode cL_law 508 = .ok (.aload_n 0, 1) := by decide +kernel
theorem dL_law_509 : decode cL_law 509 = .ok (.iload_n 3, 1) := by decide +kernel
theorem dL_law_510 : decode cL_law 510 = .ok (.iconst 2, 1) := by decide +kernel
theorem dL_law_511 : decode cL_law 511 = .ok (.iadd, 1) := by decide +kernel
theorem dL_law_512 : decode cL_law 512 = .ok (.iaload, 1) := by decide +kernel
theorem dL_law_513 : decode cL_law 513 = .ok (.invokevirtual 61, 3) := by decide +kernel
theorem dL_law_516 : decode cL_law 516 = .ok (.aload_n 2, 1) := by decide +kernel
theorem dL_law_517 : decode cL_law 517 = .ok (.aload_n 0, 1) := by decide +kernel
theorem dL_law_518 : decode cL_law 518 = .ok (.iload_n 3, 1) := by decide +kernel
theorem dL_law_519 : decode cL_law 519 = .ok (.iconst 1, 1) := by decide +kernel
theorem dL_law_520 : decode cL_law 520 = .ok (.iadd, 1) := by decide +kernel
theorem dL_law_521 : decode cL_law 521 = .ok (.iaload, 1) := by decide +kernel
theorem dL_law_522 : decode cL_law 522 = .ok (.aload_n 0, 1) := by decide +kernel
theorem dL_law_523 : decode cL_law 523 = .ok (.iload_n 3, 1) := by decide +kernel
theorem dL_law_524 : decode cL_law 524 = .ok (.iconst 2, 1) := by decide +kernel
theorem dL_law_525 : decode cL_law 525 = .ok (.iadd, 1) := by decide +kernel
theorem dL_law_526 : decode cL_law 526 = .ok (.iaload, 1) := by decide +kernel
theorem dL_law_527 : decode cL_law 527 = .ok (.invokevirtual 64, 3) := by decide +kernel
theorem dL_law_530 : decode cL_law 530 = .ok (.if_icmp .eq 668, 3) := by decide +kernel
theorem dL_law_533 : decode cL_law 533 = .ok (.iconst 0, 1) := by decide +kernel
theorem dL_law_534 : decode cL_law 534 = .ok (.ireturn, 1) := by decide +kernel
theorem dL_law_535 : decode cL_law 535 = .ok (.aload_n 1, 1) := by decide +kernel
theorem dL_law_536 : decode cL_law 536 = .ok (.aload_n 0, 1) := by decide +kernel
theorem dL_law_537 : decode cL_law 537 = .ok (.iload_n 3, 1) := by decide +kernel
theorem dL_law_538 : decode cL_law 538 = .ok (.iconst 1, 1) := by decide +kernel
theorem dL_law_539 : decode cL_law 539 = .ok (.iadd, 1) := by decide +kernel
theorem dL_law_540 : decode cL_law 540 = .ok (.iaload, 1) := by decide +kernel
theorem dL_law_541 : decode cL_law 541 = .ok (.aload_n 0, 1) := by decide +kernel
theorem dL_law_542 : decode cL_law 542 = .ok (.iload_n 3, 1) := by decide +kernel
theorem dL_law_543 : decode cL_law 543 = .ok (.iconst 2, 1) := by decide +kernel
theorem dL_law_544 : decode cL_law 544 = .ok (.iadd, 1) := by decide +kernel
theorem dL_law_545 : decode cL_law 545 = .ok (.iaload, 1) := by decide +kernel
theorem dL_law_546 : decode cL_law 546 = .ok (.aload_n 0, 1) := by decide +kernel
theorem dL_law_547 : decode cL_law 547 = .ok (.iload_n 3, 1) := by decide +kernel
theorem dL_law_548 : decode cL_law 548 = .ok (.iconst 3, 1) := by decide +kernel
theorem dL_law_549 : decode cL_law 549 = .ok (.iadd, 1) := by decide +kernel
theorem dL_law_550 : decode cL_law 550 = .ok (.iaload, 1) := by decide +kernel
theorem dL_law_551 : decode cL_law 551 = .ok (.invokevirtual 65, 3) := by decide +kernel
theorem dL_law_554 : decode cL_law 554 = .ok (.aload_n 2, 1) := by decide +kernel
theorem dL_law_555 : decode cL_law 555 = .ok (.aload_n 0, 1) := by decide +kernel
theorem dL_law_556 : decode cL_law 556 = .ok (.iload_n 3, 1) := by decide +kernel
theorem dL_law_557 : decode cL_law 557 = .ok (.iconst 1, 1) := by decide +kernel
theorem dL_law_558 : decode cL_law 558 = .ok (.iadd, 1) := by decide +kernel
theorem dL_law_559 : decode cL_law 559 = .ok (.iaload, 1) := by decide +kernel
theorem dL_law_560 : decode cL_law 560 = .ok (.aload_n 0, 1) := by decide +kernel
theorem dL_law_561 : decode cL_law 561 = .ok (.iload_n 3, 1) := by decide +kernel
theorem dL_law_562 : decode cL_law 562 = .ok (.iconst 2, 1) := by decide +kernel
theorem dL_law_563 : decode cL_law 563 = .ok (.iadd, 1) := by decide +kernel
theorem dL_law_564 : decode cL_law 564 = .ok (.iaload, 1) := by decide +kernel
theorem dL_law_565 : decode cL_law 565 = .ok (.aload_n 0, 1) := by decide +kernel
theorem dL_law_566 : decode cL_law 566 = .ok (.iload_n 3, 1) := by decide +kernel
theorem dL_law_567 : decode cL_law 567 = .ok (.iconst 3, 1) := by decide +kernel
theorem dL_law_568 : decode cL_law 568 = .ok (.iadd, 1) := by decide +kernel
theorem dL_law_569 : decode cL_law 569 = .ok (.iaload, 1) := by decide +kernel
theorem dL_law_570 : decode cL_law 570 = .ok (.invokevirtual 68, 3) := by decide +kernel
theorem dL_law_573 : decode cL_law 573 = .ok (.if_icmp .eq 625, 3) := by decide +kernel
theorem dL_law_576 : decode cL_law 576 = .ok (.iconst 0, 1) := by decide +kernel
theorem dL_law_577 : decode cL_law 577 = .ok (.ireturn, 1) := by decide +kernel
theorem dL_law_578 : decode cL_law 578 = .ok (.aload_n 1, 1) := by decide +kernel
theorem dL_law_579 : decode cL_law 579 = .ok (.aload_n 0, 1) := by decide +kernel
theorem dL_law_580 : decode cL_law 580 = .ok (.iload_n 3, 1) := by decide +kernel
theorem dL_law_581 : decode cL_law 581 = .ok (.iconst 1, 1) := by decide +kernel
theorem dL_law_582 : decode cL_law 582 = .ok (.iadd, 1) := by decide +kernel
theorem dL_law_583 : decode cL_law 583 = .ok (.iaload, 1) := by decide +kernel
theorem dL_law_584 : decode cL_law 584 = .ok (.aload_n 0, 1) := by decide +kernel
theorem dL_law_585 : decode cL_law 585 = .ok (.iload_n 3, 1) := by decide +kernel
theorem dL_law_586 : decode cL_law 586 = .ok (.iconst 2, 1) := by decide +kernel
theorem dL_law_587 : decode cL_law 587 = .ok (.iadd, 1) := by decide +kernel
theorem dL_law_588 : decode cL_law 588 = .ok (.iaload, 1) := by decide +kernel
theorem dL_law_589 : decode cL_law 589 = .ok (.invokevirtual 69, 3) := by decide +kernel
theorem dL_law_592 : decode cL_law 592 = .ok (.aload_n 2, 1) := by decide +kernel
theorem dL_law_593 : decode cL_law 593 = .ok (.aload_n 0, 1) := by decide +kernel
theorem dL_law_594 : decode cL_law 594 = .ok (.iload_n 3, 1) := by decide +kernel
theorem dL_law_595 : decode cL_law 595 = .ok (.iconst 1, 1) := by decide +kernel
theorem dL_law_596 : decode cL_law 596 = .ok (.iadd, 1) := by decide +kernel
theorem dL_law_597 : decode cL_law 597 = .ok (.iaload, 1) := by decide +kernel
theorem dL_law_598 : decode cL_law 598 = .ok (.aload_n 0, 1) := by decide +kernel
theorem dL_law_599 : decode cL_law 599 = .ok (.iload_n 3, 1) := by decide +kernel
theorem dL_law_600 : decode cL_law 600 = .ok (.iconst 2, 1) := by decide +kernel
theorem dL_law_601 : decode cL_law 601 = .ok (.iadd, 1) := by decide +kernel
theorem dL_law_602 : decode cL_law 602 = .ok (.iaload, 1) := by decide +kernel
theorem dL_law_603 : decode cL_law 603 = .ok (.invokevirtual 72, 3) := by decide +kernel
theorem dL_law_606 : decode cL_law 606 = .ok (.if_icmp .eq 592, 3) := by decide +kernel
theorem dL_law_609 : decode cL_law 609 = .ok (.iconst 0, 1) := by decide +kernel
theorem dL_law_610 : decode cL_law 610 = .ok (.ireturn, 1) := by decide +kernel
theorem dL_law_611 : decode cL_law 611 = .ok (.aload_n 1, 1) := by decide +kernel
theorem dL_law_612 : decode cL_law 612 = .ok (.aload_n 0, 1) := by decide +kernel
theorem dL_law_613 : decode cL_law 613 = .ok (.iload_n 3, 1) := by decide +kernel
theorem dL_law_614 : decode cL_law 614 = .ok (.iconst 1, 1) := by decide +kernel
theorem dL_law_615 : decode cL_law 615 = .ok (.iadd, 1) := by decide +kernel
theorem dL_law_616 : decode cL_law 616 = .ok (.iaload, 1) := by decide +kernel
theorem dL_law_617 : decode cL_law 617 = .ok (.aload_n 0, 1) := by decide +kernel
theorem dL_law_618 : decode cL_law 618 = .ok (.iload_n 3, 1) := by decide +kernel
theorem dL_law_619 : decode cL_law 619 = .ok (.iconst 2, 1) := by decide +kernel
theorem dL_law_620 : decode cL_law 620 = .ok (.iadd, 1) := by decide +kernel
theorem dL_law_621 : decode cL_law 621 = .ok (.iaload, 1) := by decide +kernel
theorem dL_law_622 : decode cL_law 622 = .ok (.aload_n 0, 1) := by decide +kernel
theorem dL_law_623 : decode cL_law 623 = .ok (.iload_n 3, 1) := by decide +kernel
theorem dL_law_624 : decode cL_law 624 = .ok (.iconst 3, 1) := by decide +kernel
theorem dL_law_625 : decode cL_law 625 = .ok (.iadd, 1) := by decide +kernel
theorem dL_law_626 : decode cL_law 626 = .ok (.iaload, 1) := by decide +kernel
theorem dL_law_627 : decode cL_law 627 = .ok (.invokevirtual 73, 3) := by decide +kernel
theorem dL_law_630 : decode cL_law 630 = .ok (.aload_n 2, 1) := by decide +kernel
theorem dL_law_631 : decode cL_law 631 = .ok (.aload_n 0, 1) := by decide +kernel
theorem dL_law_632 : decode cL_law 632 = .ok (.iload_n 3, 1) := by decide +kernel
theorem dL_law_633 : decode cL_law 633 = .ok (.iconst 1, 1) := by decide +kernel
theorem dL_law_634 : decode cL_law 634 = .ok (.iadd, 1) := by decide +kernel
theorem dL_law_635 : decode cL_law 635 = .ok (.iaload, 1) := by decide +kernel
theorem dL_law_636 : decode cL_law 636 = .ok (.aload_n 0, 1) := by decide +kernel
theorem dL_law_637 : decode cL_law 637 = .ok (.iload_n 3, 1) := by decide +kernel
theorem dL_law_638 : decode cL_law 638 = .ok (.iconst 2, 1) := by decide +kernel
theorem dL_law_639 : decode cL_law 639 = .ok (.iadd, 1) := by decide +kernel
theorem dL_law_640 : decode cL_law 640 = .ok (.iaload, 1) := by decide +kernel
theorem dL_law_641 : decode cL_law 641 = .ok (.aload_n 0, 1) := by decide +kernel
theorem dL_law_642 : decode cL_law 642 = .ok (.iload_n 3, 1) := by decide +kernel
theorem dL_law_643 : decode cL_law 643 = .ok (.iconst 3, 1) := by decide +kernel
theorem dL_law_644 : decode cL_law 644 = .ok (.iadd, 1) := by decide +kernel
theorem dL_law_645 : decode cL_law 645 = .ok (.iaload, 1) := by decide +kernel
theorem dL_law_646 : decode cL_law 646 = .ok (.invokevirtual 76, 3) := by decide +kernel
theorem dL_law_649 : decode cL_law 649 = .ok (.if_icmp .eq 549, 3) := by decide +kernel
theorem dL_law_652 : decode cL_law 652 = .ok (.iconst 0, 1) := by decide +kernel
theorem dL_law_653 : decode cL_law 653 = .ok (.ireturn, 1) := by decide +kernel
theorem dL_law_654 : decode cL_law 654 = .ok (.aload_n 1, 1) := by decide +kernel
theorem dL_law_655 : decode cL_law 655 = .ok (.aload_n 0, 1) := by decide +kernel
theorem dL_law_656 : decode cL_law 656 = .ok (.iload_n 3, 1) := by decide +kernel
theorem dL_law_657 : decode cL_law 657 = .ok (.iconst 1, 1) := by decide +kernel
theorem dL_law_658 : decode cL_law 658 = .ok (.iadd, 1) := by decide +kernel
theorem dL_law_659 : decode cL_law 659 = .ok (.iaload, 1) := by decide +kernel
theorem dL_law_660 : decode cL_law 660 = .ok (.aload_n 0, 1) := by decide +kernel
theorem dL_law_661 : decode cL_law 661 = .ok (.iload_n 3, 1) := by decide +kernel
theorem dL_law_662 : decode cL_law 662 = .ok (.iconst 2, 1) := by decide +kernel
theorem dL_law_663 : decode cL_law 663 = .ok (.iadd, 1) := by decide +kernel
theorem dL_law_664 : decode cL_law 664 = .ok (.iaload, 1) := by decide +kernel
theorem dL_law_665 : decode cL_law 665 = .ok (.aload_n 0, 1) := by decide +kernel
theorem dL_law_666 : decode cL_law 666 = .ok (.iload_n 3, 1) := by decide +kernel
theorem dL_law_667 : decode cL_law 667 = .ok (.iconst 3, 1) := by decide +kernel
theorem dL_law_668 : decode cL_law 668 = .ok (.iadd, 1) := by decide +kernel
theorem dL_law_669 : decode cL_law 669 = .ok (.iaload, 1) := by decide +kernel
theorem dL_law_670 : decode cL_law 670 = .ok (.invokevirtual 77, 3) := by decide +kernel
theorem dL_law_673 : decode cL_law 673 = .ok (.aload_n 2, 1) := by decide +kernel
theorem dL_law_674 : decode cL_law 674 = .ok (.aload_n 0, 1) := by decide +kernel
theorem dL_law_675 : decode cL_law 675 = .ok (.iload_n 3, 1) := by decide +kernel
theorem dL_law_676 : decode cL_law 676 = .ok (.iconst 1, 1) := by decide +kernel
theorem dL_law_677 : decode cL_law 677 = .ok (.iadd, 1) := by decide +kernel
theorem dL_law_678 : decode cL_law 678 = .ok (.iaload, 1) := by decide +kernel
theorem dL_law_679 : decode cL_law 679 = .ok (.aload_n 0, 1) := by decide +kernel
theorem dL_law_680 : decode cL_law 680 = .ok (.iload_n 3, 1) := by decide +kernel
theorem dL_law_681 : decode cL_law 681 = .ok (.iconst 2, 1) := by decide +kernel
theorem dL_law_682 : decode cL_law 682 = .ok (.iadd, 1) := by decide +kernel
theorem dL_law_683 : decode cL_law 683 = .ok (.iaload, 1) := by decide +kernel
theorem dL_law_684 : decode cL_law 684 = .ok (.aload_n 0, 1) := by decide +kernel
theorem dL_law_685 : decode cL_law 685 = .ok (.iload_n 3, 1) := by decide +kernel
theorem dL_law_686 : decode cL_law 686 = .ok (.iconst 3, 1) := by decide +kernel
theorem dL_law_687 : decode cL_law 687 = .ok (.iadd, 1) := by decide +kernel
theorem dL_law_688 : decode cL_law 688 = .ok (.iaload, 1) := by decide +kernel
theorem dL_law_689 : decode cL_law 689 = .ok (.invokevirtual 80, 3) := by decide +kernel
theorem dL_law_692 : decode cL_law 692 = .ok (.if_icmp .eq 506, 3) := by decide +kernel
theorem dL_law_695 : decode cL_law 695 = .ok (.iconst 0, 1) := by decide +kernel
theorem dL_law_696 : decode cL_law 696 = .ok (.ireturn, 1) := by decide +kernel
theorem dL_law_697 : decode cL_law 697 = .ok (.aload_n 1, 1) := by decide +kernel
theorem dL_law_698 : decode cL_law 698 = .ok (.aload_n 0, 1) := by decide +kernel
theorem dL_law_699 : decode cL_law 699 = .ok (.iload_n 3, 1) := by decide +kernel
theorem dL_law_700 : decode cL_law 700 = .ok (.iconst 1, 1) := by decide +kernel
theorem dL_law_701 : decode cL_law 701 = .ok (.iadd, 1) := by decide +kernel
theorem dL_law_702 : decode cL_law 702 = .ok (.iaload, 1) := by decide +kernel
theorem dL_law_703 : decode cL_law 703 = .ok (.aload_n 0, 1) := by decide +kernel
theorem dL_law_704 : decode cL_law 704 = .ok (.iload_n 3, 1) := by decide +kernel
theorem dL_law_705 : decode cL_law 705 = .ok (.iconst 2, 1) := by decide +kernel
theorem dL_law_706 : decode cL_law 706 = .ok (.iadd, 1) := by decide +kernel
theorem dL_law_707 : decode cL_law 707 = .ok (.iaload, 1) := by decide +kernel
theorem dL_law_708 : decode cL_law 708 = .ok (.aload_n 0, 1) := by decide +kernel
theorem dL_law_709 : decode cL_law 709 = .ok (.iload_n 3, 1) := by decide +kernel
theorem dL_law_710 : decode cL_law 710 = .ok (.iconst 3, 1) := by decide +kernel
theorem dL_law_711 : decode cL_law 711 = .ok (.iadd, 1) := by decide +kernel
theorem dL_law_712 : decode cL_law 712 = .ok (.iaload, 1) := by decide +kernel
theorem dL_law_713 : decode cL_law 713 = .ok (.invokevirtual 81, 3) := by decide +kernel
theorem dL_law_716 : decode cL_law 716 = .ok (.aload_n 2, 1) := by decide +kernel
theorem dL_law_717 : decode cL_law 717 = .ok (.aload_n 0, 1) := by decide +kernel
theorem dL_law_718 : decode cL_law 718 = .ok (.iload_n 3, 1) := by decide +kernel
theorem dL_law_719 : decode cL_law 719 = .ok (.iconst 1, 1) := by decide +kernel
theorem dL_law_720 : decode cL_law 720 = .ok (.iadd, 1) := by decide +kernel
theorem dL_law_721 : decode cL_law 721 = .ok (.iaload, 1) := by decide +kernel
theorem dL_law_722 : decode cL_law 722 = .ok (.aload_n 0, 1) := by decide +kernel
theorem dL_law_723 : decode cL_law 723 = .ok (.iload_n 3, 1) := by decide +kernel
theorem dL_law_724 : decode cL_law 724 = .ok (.iconst 2, 1) := by decide +kernel
theorem dL_law_725 : decode cL_law 725 = .ok (.iadd, 1) := by decide +kernel
theorem dL_law_726 : decode cL_law 726 = .ok (.iaload, 1) := by decide +kernel
theorem dL_law_727 : decode cL_law 727 = .ok (.aload_n 0, 1) := by decide +kernel
theorem dL_law_728 : decode cL_law 728 = .ok (.iload_n 3, 1) := by decide +kernel
theorem dL_law_729 : decode cL_law 729 = .ok (.iconst 3, 1) := by decide +kernel
theorem dL_law_730 : decode cL_law 730 = .ok (.iadd, 1) := by decide +kernel
theorem dL_law_731 : decode cL_law 731 = .ok (.iaload, 1) := by decide +kernel
theorem dL_law_732 : decode cL_law 732 = .ok (.invokevirtual 84, 3) := by decide +kernel
theorem dL_law_735 : decode cL_law 735 = .ok (.if_icmp .eq 463, 3) := by decide +kernel
theorem dL_law_738 : decode cL_law 738 = .ok (.iconst 0, 1) := by decide +kernel
theorem dL_law_739 : decode cL_law 739 = .ok (.ireturn, 1) := by decide +kernel
theorem dL_law_740 : decode cL_law 740 = .ok (.aload_n 1, 1) := by decide +kernel
theorem dL_law_741 : decode cL_law 741 = .ok (.aload_n 0, 1) := by decide +kernel
theorem dL_law_742 : decode cL_law 742 = .ok (.iload_n 3, 1) := by decide +kernel
theorem dL_law_743 : decode cL_law 743 = .ok (.iconst 1, 1) := by decide +kernel
theorem dL_law_744 : decode cL_law 744 = .ok (.iadd, 1) := by decide +kernel
theorem dL_law_745 : decode cL_law 745 = .ok (.iaload, 1) := by decide +kernel
theorem dL_law_746 : decode cL_law 746 = .ok (.aload_n 0, 1) := by decide +kernel
theorem dL_law_747 : decode cL_law 747 = .ok (.iload_n 3, 1) := by decide +kernel
theorem dL_law_748 : decode cL_law 748 = .ok (.iconst 2, 1) := by decide +kernel
theorem dL_law_749 : decode cL_law 749 = .ok (.iadd, 1) := by decide +kernel
theorem dL_law_750 : decode cL_law 750 = .ok (.iaload, 1) := by decide +kernel
theorem dL_law_751 : decode cL_law 751 = .ok (.aload_n 0, 1) := by decide +kernel
theorem dL_law_752 : decode cL_law 752 = .ok (.iload_n 3, 1) := by decide +kernel
theorem dL_law_753 : decode cL_law 753 = .ok (.iconst 3, 1) := by decide +kernel
theorem dL_law_754 : decode cL_law 754 = .ok (.iadd, 1) := by decide +kernel
theorem dL_law_755 : decode cL_law 755 = .ok (.iaload, 1) := by decide +kernel
theorem dL_law_756 : decode cL_law 756 = .ok (.invokevirtual 85, 3) := by decide +kernel
theorem dL_law_759 : decode cL_law 759 = .ok (.aload_n 2, 1) := by decide +kernel
theorem dL_law_760 : decode cL_law 760 = .ok (.aload_n 0, 1) := by decide +kernel
theorem dL_law_761 : decode cL_law 761 = .ok (.iload_n 3, 1) := by decide +kernel
theorem dL_law_762 : decode cL_law 762 = .ok (.iconst 1, 1) := by decide +kernel
theorem dL_law_763 : decode cL_law 763 = .ok (.iadd, 1) := by decide +kernel
theorem dL_law_764 : decode cL_law 764 = .ok (.iaload, 1) := by decide +kernel
theorem dL_law_765 : decode cL_law 765 = .ok (.aload_n 0, 1) := by decide +kernel
theorem dL_law_766 : decode cL_law 766 = .ok (.iload_n 3, 1) := by decide +kernel
theorem dL_law_767 : decode cL_law 767 = .ok (.iconst 2, 1) := by decide +kernel
theorem dL_law_768 : decode cL_law 768 = .ok (.iadd, 1) := by decide +kernel
theorem dL_law_769 : decode cL_law 769 = .ok (.iaload, 1) := by decide +kernel
theorem dL_law_770 : decode cL_law 770 = .ok (.aload_n 0, 1) := by decide +kernel
theorem dL_law_771 : decode cL_law 771 = .ok (.iload_n 3, 1) := by decide +kernel
theorem dL_law_772 : decode cL_law 772 = .ok (.iconst 3, 1) := by decide +kernel
theorem dL_law_773 : decode cL_law 773 = .ok (.iadd, 1) := by decide +kernel
theorem dL_law_774 : decode cL_law 774 = .ok (.iaload, 1) := by decide +kernel
theorem dL_law_775 : decode cL_law 775 = .ok (.invokevirtual 88, 3) := by decide +kernel
theorem dL_law_778 : decode cL_law 778 = .ok (.if_icmp .eq 420, 3) := by decide +kernel
theorem dL_law_781 : decode cL_law 781 = .ok (.iconst 0, 1) := by decide +kernel
theorem dL_law_782 : decode cL_law 782 = .ok (.ireturn, 1) := by decide +kernel
theorem dL_law_783 : decode cL_law 783 = .ok (.aload_n 1, 1) := by decide +kernel
theorem dL_law_784 : decode cL_law 784 = .ok (.aload_n 0, 1) := by decide +kernel
theorem dL_law_785 : decode cL_law 785 = .ok (.iload_n 3, 1) := by decide +kernel
theorem dL_law_786 : decode cL_law 786 = .ok (.iconst 1, 1) := by decide +kernel
theorem dL_law_787 : decode cL_law 787 = .ok (.iadd, 1) := by decide +kernel
theorem dL_law_788 : decode cL_law 788 = .ok (.iaload, 1) := by decide +kernel
theorem dL_law_789 : decode cL_law 789 = .ok (.invokevirtual 89, 3) := by decide +kernel
theorem dL_law_792 : decode cL_law 792 = .ok (.aload_n 2, 1) := by decide +kernel
theorem dL_law_793 : decode cL_law 793 = .ok (.aload_n 0, 1) := by decide +kernel
theorem dL_law_794 : decode cL_law 794 = .ok (.iload_n 3, 1) := by decide +kernel
theorem dL_law_795 : decode cL_law 795 = .ok (.iconst 1, 1) := by decide +kernel
theorem dL_law_796 : decode cL_law 796 = .ok (.iadd, 1) := by decide +kernel
theorem dL_law_797 : decode cL_law 797 = .ok (.iaload, 1) := by decide +kernel
theorem dL_law_798 : decode cL_law 798 = .ok (.invokevirtual 92, 3) := by decide +kernel
theorem dL_law_801 : decode cL_law 801 = .ok (.if_icmp .eq 397, 3) := by decide +kernel
theorem dL_law_804 : decode cL_law 804 = .ok (.iconst 0, 1) := by decide +kernel
theorem dL_law_805 : decode cL_law 805 = .ok (.ireturn, 1) := by decide +kernel
theorem dL_law_806 : decode cL_law 806 = .ok (.aload_n 1, 1) := by decide +kernel
theorem dL_law_807 : decode cL_law 807 = .ok (.aload_n 0, 1) := by decide +kernel
theorem dL_law_808 : decode cL_law 808 = .ok (.iload_n 3, 1) := by decide +kernel
theorem dL_law_809 : decode cL_law 809 = .ok (.iconst 1, 1) := by decide +kernel
theorem dL_law_810 : decode cL_law 810 = .ok (.iadd, 1) := by decide +kernel
theorem dL_law_811 : decode cL_law 811 = .ok (.iaload, 1) := by decide +kernel
theorem dL_law_812 : decode cL_law 812 = .ok (.aload_n 0, 1) := by decide +kernel
theorem dL_law_813 : decode cL_law 813 = .ok (.iload_n 3, 1) := by decide +kernel
theorem dL_law_814 : decode cL_law 814 = .ok (.iconst 2, 1) := by decide +kernel
theorem dL_law_815 : decode cL_law 815 = .ok (.iadd, 1) := by decide +kernel
theorem dL_law_816 : decode cL_law 816 = .ok (.iaload, 1) := by decide +kernel
theorem dL_law_817 : decode cL_law 817 = .ok (.invokevirtual 93, 3) := by decide +kernel
theorem dL_law_820 : decode cL_law 820 = .ok (.aload_n 2, 1) := by decide +kernel
theorem dL_law_821 : decode cL_law 821 = .ok (.aload_n 0, 1) := by decide +kernel
theorem dL_law_822 : decode cL_law 822 = .ok (.iload_n 3, 1) := by decide +kernel
theorem dL_law_823 : decode cL_law 823 = .ok (.iconst 1, 1) := by decide +kernel
theorem dL_law_824 : decode cL_law 824 = .ok (.iadd, 1) := by decide +kernel
theorem dL_law_825 : decode cL_law 825 = .ok (.iaload, 1) := by decide +kernel
theorem dL_law_826 : decode cL_law 826 = .ok (.aload_n 0, 1) := by decide +kernel
theorem dL_law_827 : decode cL_law 827 = .ok (.iload_n 3, 1) := by decide +kernel
theorem dL_law_828 : decode cL_law 828 = .ok (.iconst 2, 1) := by decide +kernel
theorem dL_law_829 : decode cL_law 829 = .ok (.iadd, 1) := by decide +kernel
theorem dL_law_830 : decode cL_law 830 = .ok (.iaload, 1) := by decide +kernel
theorem dL_law_831 : decode cL_law 831 = .ok (.invokevirtual 96, 3) := by decide +kernel
theorem dL_law_834 : decode cL_law 834 = .ok (.if_icmp .eq 364, 3) := by decide +kernel
theorem dL_law_837 : decode cL_law 837 = .ok (.iconst 0, 1) := by decide +kernel
theorem dL_law_838 : decode cL_law 838 = .ok (.ireturn, 1) := by decide +kernel
theorem dL_law_839 : decode cL_law 839 = .ok (.aload_n 1, 1) := by decide +kernel
theorem dL_law_840 : decode cL_law 840 = .ok (.aload_n 0, 1) := by decide +kernel
theorem dL_law_841 : decode cL_law 841 = .ok (.iload_n 3, 1) := by decide +kernel
theorem dL_law_842 : decode cL_law 842 = .ok (.iconst 1, 1) := by decide +kernel
theorem dL_law_843 : decode cL_law 843 = .ok (.iadd, 1) := by decide +kernel
theorem dL_law_844 : decode cL_law 844 = .ok (.iaload, 1) := by decide +kernel
theorem dL_law_845 : decode cL_law 845 = .ok (.invokevirtual 97, 3) := by decide +kernel
theorem dL_law_848 : decode cL_law 848 = .ok (.aload_n 2, 1) := by decide +kernel
theorem dL_law_849 : decode cL_law 849 = .ok (.aload_n 0, 1) := by decide +kernel
theorem dL_law_850 : decode cL_law 850 = .ok (.iload_n 3, 1) := by decide +kernel
theorem dL_law_851 : decode cL_law 851 = .ok (.iconst 1, 1) := by decide +kernel
theorem dL_law_852 : decode cL_law 852 = .ok (.iadd, 1) := by decide +kernel
theorem dL_law_853 : decode cL_law 853 = .ok (.iaload, 1) := by decide +kernel
theorem dL_law_854 : decode cL_law 854 = .ok (.invokevirtual 100, 3) := by decide +kernel
theorem dL_law_857 : decode cL_law 857 = .ok (.if_icmp .eq 341, 3) := by decide +kernel
theorem dL_law_860 : decode cL_law 860 = .ok (.iconst 0, 1) := by decide +kernel
theorem dL_law_861 : decode cL_law 861 = .ok (.ireturn, 1) := by decide +kernel
theorem dL_law_862 : decode cL_law 862 = .ok (.aload_n 1, 1) := by decide +kernel
theorem dL_law_863 : decode cL_law 863 = .ok (.aload_n 0, 1) := by decide +kernel
theorem dL_law_864 : decode cL_law 864 = .ok (.iload_n 3, 1) := by decide +kernel
theorem dL_law_865 : decode cL_law 865 = .ok (.iconst 1, 1) := by decide +kernel
theorem dL_law_866 : decode cL_law 866 = .ok (.iadd, 1) := by decide +kernel
theorem dL_law_867 : decode cL_law 867 = .ok (.iaload, 1) := by decide +kernel
theorem dL_law_868 : decode cL_law 868 = .ok (.invokevirtual 101, 3) := by decide +kernel
theorem dL_law_871 : decode cL_law 871 = .ok (.aload_n 2, 1) := by decide +kernel
theorem dL_law_872 : decode cL_law 872 = .ok (.aload_n 0, 1) := by decide +kernel
theorem dL_law_873 : decode cL_law 873 = .ok (.iload_n 3, 1) := by decide +kernel
theorem dL_law_874 : decode cL_law 874 = .ok (.iconst 1, 1) := by decide +kernel
theorem dL_law_875 : decode cL_law 875 = .ok (.iadd, 1) := by decide +kernel
theorem dL_law_876 : decode cL_law 876 = .ok (.iaload, 1) := by decide +kernel
theorem dL_law_877 : decode cL_law 877 = .ok (.invokevirtual 104, 3) := by decide +kernel
theorem dL_law_880 : decode cL_law 880 = .ok (.if_icmp .eq 318, 3) := by decide +kernel
theorem dL_law_883 : decode cL_law 883 = .ok (.iconst 0, 1) := by decide +kernel
theorem dL_law_884 : decode cL_law 884 = .ok (.ireturn, 1) := by decide +kernel
theorem dL_law_885 : decode cL_law 885 = .ok (.aload_n 1, 1) := by decide +kernel
theorem dL_law_886 : decode cL_law 886 = .ok (.aload_n 0, 1) := by decide +kernel
theorem dL_law_887 : decode cL_law 887 = .ok (.iload_n 3, 1) := by decide +kernel
theorem dL_law_888 : decode cL_law 888 = .ok (.iconst 1, 1) := by decide +kernel
theorem dL_law_889 : decode cL_law 889 = .ok (.iadd, 1) := by decide +kernel
theorem dL_law_890 : decode cL_law 890 = .ok (.iaload, 1) := by decide +kernel
theorem dL_law_891 : decode cL_law 891 = .ok (.aload_n 0, 1) := by decide +kernel
theorem dL_law_892 : decode cL_law 892 = .ok (.iload_n 3, 1) := by decide +kernel
theorem dL_law_893 : decode cL_law 893 = .ok (.iconst 2, 1) := by decide +kernel
theorem dL_law_894 : decode cL_law 894 = .ok (.iadd, 1) := by decide +kernel
theorem dL_law_895 : decode cL_law 895 = .ok (.iaload, 1) := by decide +kernel
theorem dL_law_896 : decode cL_law 896 = .ok (.invokevirtual 105, 3) := by decide +kernel
theorem dL_law_899 : decode cL_law 899 = .ok (.aload_n 2, 1) := by decide +kernel
theorem dL_law_900 : decode cL_law 900 = .ok (.aload_n 0, 1) := by decide +kernel
theorem dL_law_901 : decode cL_law 901 = .ok (.iload_n 3, 1) := by decide +kernel
theorem dL_law_902 : decode cL_law 902 = .ok (.iconst 1, 1) := by decide +kernel
theorem dL_law_903 : decode cL_law 903 = .ok (.iadd, 1) := by decide +kernel
theorem dL_law_904 : decode cL_law 904 = .ok (.iaload, 1) := by decide +kernel
theorem dL_law_905 : decode cL_law 905 = .ok (.aload_n 0, 1) := by decide +kernel
theorem dL_law_906 : decode cL_law 906 = .ok (.iload_n 3, 1) := by decide +kernel
theorem dL_law_907 : decode cL_law 907 = .ok (.iconst 2, 1) := by decide +kernel
theorem dL_law_908 : decode cL_law 908 = .ok (.iadd, 1) := by decide +kernel
theorem dL_law_909 : decode cL_law 909 = .ok (.iaload, 1) := by decide +kernel
theorem dL_law_910 : decode cL_law 910 = .ok (.invokevirtual 108, 3) := by decide +kernel
theorem dL_law_913 : decode cL_law 913 = .ok (.if_icmp .eq 285, 3) := by decide +kernel
theorem dL_law_916 : decode cL_law 916 = .ok (.iconst 0, 1) := by decide +kernel
theorem dL_law_917 : decode cL_law 917 = .ok (.ireturn, 1) := by decide +kernel
theorem dL_law_918 : decode cL_law 918 = .ok (.aload_n 1, 1) := by decide +kernel
theorem dL_law_919 : decode cL_law 919 = .ok (.aload_n 0, 1) := by decide +kernel
theorem dL_law_920 : decode cL_law 920 = .ok (.iload_n 3, 1) := by decide +kernel
theorem dL_law_921 : decode cL_law 921 = .ok (.iconst 1, 1) := by decide +kernel
theorem dL_law_922 : decode cL_law 922 = .ok (.iadd, 1) := by decide +kernel
theorem dL_law_923 : decode cL_law 923 = .ok (.iaload, 1) := by decide +kernel
theorem dL_law_924 : decode cL_law 924 = .ok (.invokevirtual 109, 3) := by decide +kernel
theorem dL_law_927 : decode cL_law 927 = .ok (.aload_n 2, 1) := by decide +kernel
theorem dL_law_928 : decode cL_law 928 = .ok (.aload_n 0, 1) := by decide +kernel
theorem dL_law_929 : decode cL_law 929 = .ok (.iload_n 3, 1) := by decide +kernel
theorem dL_law_930 : decode cL_law 930 = .ok (.iconst 1, 1) := by decide +kernel
theorem dL_law_931 : decode cL_law 931 = .ok (.iadd, 1) := by decide +kernel
theorem dL_law_932 : decode cL_law 932 = .ok (.iaload, 1) := by decide +kernel
theorem dL_law_933 : decode cL_law 933 = .ok (.invokevirtual 112, 3) := by decide +kernel
theorem dL_law_936 : decode cL_law 936 = .ok (.if_icmp .eq 262, 3) := by decide +kernel
theorem dL_law_939 : decode cL_law 939 = .ok (.iconst 0, 1) := by decide +kernel
theorem dL_law_940 : decode cL_law 940 = .ok (.ireturn, 1) := by decide +kernel
theorem dL_law_941 : decode cL_law 941 = .ok (.aload_n 1, 1) := by decide +kernel
theorem dL_law_942 : decode cL_law 942 = .ok (.aload_n 0, 1) := by decide +kernel
theorem dL_law_943 : decode cL_law 943 = .ok (.iload_n 3, 1) := by decide +kernel
theorem dL_law_944 : decode cL_law 944 = .ok (.iconst 1, 1) := by decide +kernel
theorem dL_law_945 : decode cL_law 945 = .ok (.iadd, 1) := by decide +kernel
theorem dL_law_946 : decode cL_law 946 = .ok (.iaload, 1) := by decide +kernel
theorem dL_law_947 : decode cL_law 947 = .ok (.invokevirtual 113, 3) := by decide +kernel
theorem dL_law_950 : decode cL_law 950 = .ok (.aload_n 2, 1) := by decide +kernel
theorem dL_law_951 : decode cL_law 951 = .ok (.aload_n 0, 1) := by decide +kernel
theorem dL_law_952 : decode cL_law 952 = .ok (.iload_n 3, 1) := by decide +kernel
theorem dL_law_953 : decode cL_law 953 = .ok (.iconst 1, 1) := by decide +kernel
theorem dL_law_954 : decode cL_law 954 = .ok (.iadd, 1) := by decide +kernel
theorem dL_law_955 : decode cL_law 955 = .ok (.iaload, 1) := by decide +kernel
theorem dL_law_956 : decode cL_law 956 = .ok (.invokevirtual 116, 3) := by decide +kernel
theorem dL_law_959 : decode cL_law 959 = .ok (.if_icmp .eq 239, 3) := by decide +kernel
theorem dL_law_962 : decode cL_law 962 = .ok (.iconst 0, 1) := by decide +kernel
theorem dL_law_963 : decode cL_law 963 = .ok (.ireturn, 1) := by decide +kernel
theorem dL_law_964 : decode cL_law 964 = .ok (.aload_n 1, 1) := by decide +kernel
theorem dL_law_965 : decode cL_law 965 = .ok (.aload_n 0, 1) := by decide +kernel
theorem dL_law_966 : decode cL_law 966 = .ok (.iload_n 3, 1) := by decide +kernel
theorem dL_law_967 : decode cL_law 967 = .ok (.iconst 1, 1) := by decide +kernel
theorem dL_law_968 : decode cL_law 968 = .ok (.iadd, 1) := by decide +kernel
theorem dL_law_969 : decode cL_law 969 = .ok (.iaload, 1) := by decide +kernel
theorem dL_law_970 : decode cL_law 970 = .ok (.aload_n 0, 1) := by decide +kernel
theorem dL_law_971 : decode cL_law 971 = .ok (.iload_n 3, 1) := by decide +kernel
theorem dL_law_972 : decode cL_law 972 = .ok (.iconst 2, 1) := by decide +kernel
theorem dL_law_973 : decode cL_law 973 = .ok (.iadd, 1) := by decide +kernel
theorem dL_law_974 : decode cL_law 974 = .ok (.iaload, 1) := by decide +kernel
theorem dL_law_975 : decode cL_law 975 = .ok (.aload_n 0, 1) := by decide +kernel
theorem dL_law_976 : decode cL_law 976 = .ok (.iload_n 3, 1) := by decide +kernel
theorem dL_law_977 : decode cL_law 977 = .ok (.iconst 3, 1) := by decide +kernel
theorem dL_law_978 : decode cL_law 978 = .ok (.iadd, 1) := by decide +kernel
theorem dL_law_979 : decode cL_law 979 = .ok (.iaload, 1) := by decide +kernel
theorem dL_law_980 : decode cL_law 980 = .ok (.invokevirtual 117, 3) := by decide +kernel
theorem dL_law_983 : decode cL_law 983 = .ok (.aload_n 2, 1) := by decide +kernel
theorem dL_law_984 : decode cL_law 984 = .ok (.aload_n 0, 1) := by decide +kernel
theorem dL_law_985 : decode cL_law 985 = .ok (.iload_n 3, 1) := by decide +kernel
theorem dL_law_986 : decode cL_law 986 = .ok (.iconst 1, 1) := by decide +kernel
theorem dL_law_987 : decode cL_law 987 = .ok (.iadd, 1) := by decide +kernel
theorem dL_law_988 : decode cL_law 988 = .ok (.iaload, 1) := by decide +kernel
theorem dL_law_989 : decode cL_law 989 = .ok (.aload_n 0, 1) := by decide +kernel
theorem dL_law_990 : decode cL_law 990 = .ok (.iload_n 3, 1) := by decide +kernel
theorem dL_law_991 : decode cL_law 991 = .ok (.iconst 2, 1) := by decide +kernel
theorem dL_law_992 : decode cL_law 992 = .ok (.iadd, 1) := by decide +kernel
theorem dL_law_993 : decode cL_law 993 = .ok (.iaload, 1) := by decide +kernel
theorem dL_law_994 : decode cL_law 994 = .ok (.aload_n 0, 1) := by decide +kernel
theorem dL_law_995 : decode cL_law 995 = .ok (.iload_n 3, 1) := by decide +kernel
theorem dL_law_996 : decode cL_law 996 = .ok (.iconst 3, 1) := by decide +kernel
theorem dL_law_997 : decode cL_law 997 = .ok (.iadd, 1) := by decide +kernel
theorem dL_law_998 : decode cL_law 998 = .ok (.iaload, 1) := by decide +kernel
theorem dL_law_999 : decode cL_law 999 = .ok (.invokevirtual 120, 3) := by decide +kernel
theorem dL_law_1002 : decode cL_law 1002 = .ok (.if_icmp .eq 196, 3) := by decide +kernel
theorem dL_law_1005 : decode cL_law 1005 = .ok (.iconst 0, 1) := by decide +kernel
theorem dL_law_1006 : decode cL_law 1006 = .ok (.ireturn, 1) := by decide +kernel
theorem dL_law_1007 : decode cL_law 1007 = .ok (.aload_n 1, 1) := by decide +kernel
theorem dL_law_1008 : decode cL_law 1008 = .ok (.aload_n 0, 1) := by decide +kernel
theorem dL_law_1009 : decode cL_law 1009 = .ok (.iload_n 3, 1) := by decide +kernel
theorem dL_law_1010 : decode cL_law 1010 = .ok (.iconst 1, 1) := by decide +kernel
theorem dL_law_1011 : decode cL_law 1011 = .ok (.iadd, 1) := by decide +kernel
theorem dL_law_1012 : decode cL_law 1012 = .ok (.iaload, 1) := by decide +kernel
theorem dL_law_1013 : decode cL_law 1013 = .ok (.invokevirtual 121, 3) := by decide +kernel
theorem dL_law_1016 : decode cL_law 1016 = .ok (.aload_n 2, 1) := by decide +kernel
theorem dL_law_1017 : decode cL_law 1017 = .ok (.aload_n 0, 1) := by decide +kernel
theorem dL_law_1018 : decode cL_law 1018 = .ok (.iload_n 3, 1) := by decide +kernel
theorem dL_law_1019 : decode cL_law 1019 = .ok (.iconst 1, 1) := by decide +kernel
theorem dL_law_1020 : decode cL_law 1020 = .ok (.iadd, 1) := by decide +kernel
theorem dL_law_1021 : decode cL_law 1021 = .ok (.iaload, 1) := by decide +kernel
theorem dL_law_1022 : decode cL_law 1022 = .ok (.invokevirtual 124, 3) := by decide +kernel
theorem dL_law_1025 : decode cL_law 1025 = .ok (.if_icmp .eq 173, 3) := by decide +kernel
theorem dL_law_1028 : decode cL_law 1028 = .ok (.iconst 0, 1) := by decide +kernel
theorem dL_law_1029 : decode cL_law 1029 = .ok (.ireturn, 1) := by decide +kernel
theorem dL_law_1030 : decode cL_law 1030 = .ok (.aload_n 1, 1) := by decide +kernel
theorem dL_law_1031 : decode cL_law 1031 = .ok (.aload_n 0, 1) := by decide +kernel
theorem dL_law_1032 : decode cL_law 1032 = .ok (.iload_n 3, 1) := by decide +kernel
theorem dL_law_1033 : decode cL_law 1033 = .ok (.iconst 1, 1) := by decide +kernel
theorem dL_law_1034 : decode cL_law 1034 = .ok (.iadd, 1) := by decide +kernel
theorem dL_law_1035 : decode cL_law 1035 = .ok (.iaload, 1) := by decide +kernel
theorem dL_law_1036 : decode cL_law 1036 = .ok (.aload_n 0, 1) := by decide +kernel
theorem dL_law_1037 : decode cL_law 1037 = .ok (.iload_n 3, 1) := by decide +kernel
theorem dL_law_1038 : decode cL_law 1038 = .ok (.iconst 2, 1) := by decide +kernel
theorem dL_law_1039 : decode cL_law 1039 = .ok (.iadd, 1) := by decide +kernel
theorem dL_law_1040 : decode cL_law 1040 = .ok (.iaload, 1) := by decide +kernel
theorem dL_law_1041 : decode cL_law 1041 = .ok (.invokevirtual 125, 3) := by decide +kernel
theorem dL_law_1044 : decode cL_law 1044 = .ok (.aload_n 2, 1) := by decide +kernel
theorem dL_law_1045 : decode cL_law 1045 = .ok (.aload_n 0, 1) := by decide +kernel
theorem dL_law_1046 : decode cL_law 1046 = .ok (.iload_n 3, 1) := by decide +kernel
theorem dL_law_1047 : decode cL_law 1047 = .ok (.iconst 1, 1) := by decide +kernel
theorem dL_law_1048 : decode cL_law 1048 = .ok (.iadd, 1) := by decide +kernel
theorem dL_law_1049 : decode cL_law 1049 = .ok (.iaload, 1) := by decide +kernel
theorem dL_law_1050 : decode cL_law 1050 = .ok (.aload_n 0, 1) := by decide +kernel
theorem dL_law_1051 : decode cL_law 1051 = .ok (.iload_n 3, 1) := by decide +kernel
theorem dL_law_1052 : decode cL_law 1052 = .ok (.iconst 2, 1) := by decide +kernel
theorem dL_law_1053 : decode cL_law 1053 = .ok (.iadd, 1) := by decide +kernel
theorem dL_law_1054 : decode cL_law 1054 = .ok (.iaload, 1) := by decide +kernel
theorem dL_law_1055 : decode cL_law 1055 = .ok (.invokevirtual 128, 3) := by decide +kernel
theorem dL_law_1058 : decode cL_law 1058 = .ok (.if_icmp .eq 140, 3) := by decide +kernel
theorem dL_law_1061 : decode cL_law 1061 = .ok (.iconst 0, 1) := by decide +kernel
theorem dL_law_1062 : decode cL_law 1062 = .ok (.ireturn, 1) := by decide +kernel
theorem dL_law_1063 : decode cL_law 1063 = .ok (.aload_n 1, 1) := by decide +kernel
theorem dL_law_1064 : decode cL_law 1064 = .ok (.aload_n 0, 1) := by decide +kernel
theorem dL_law_1065 : decode cL_law 1065 = .ok (.iload_n 3, 1) := by decide +kernel
theorem dL_law_1066 : decode cL_law 1066 = .ok (.iconst 1, 1) := by decide +kernel
theorem dL_law_1067 : decode cL_law 1067 = .ok (.iadd, 1) := by decide +kernel
theorem dL_law_1068 : decode cL_law 1068 = .ok (.iaload, 1) := by decide +kernel
theorem dL_law_1069 : decode cL_law 1069 = .ok (.aload_n 0, 1) := by decide +kernel
theorem dL_law_1070 : decode cL_law 1070 = .ok (.iload_n 3, 1) := by decide +kernel
theorem dL_law_1071 : decode cL_law 1071 = .ok (.iconst 2, 1) := by decide +kernel
theorem dL_law_1072 : decode cL_law 1072 = .ok (.iadd, 1) := by decide +kernel
theorem dL_law_1073 : decode cL_law 1073 = .ok (.iaload, 1) := by decide +kernel
theorem dL_law_1074 : decode cL_law 1074 = .ok (.aload_n 0, 1) := by decide +kernel
theorem dL_law_1075 : decode cL_law 1075 = .ok (.iload_n 3, 1) := by decide +kernel
theorem dL_law_1076 : decode cL_law 1076 = .ok (.iconst 3, 1) := by decide +kernel
theorem dL_law_1077 : decode cL_law 1077 = .ok (.iadd, 1) := by decide +kernel
theorem dL_law_1078 : decode cL_law 1078 = .ok (.iaload, 1) := by decide +kernel
theorem dL_law_1079 : decode cL_law 1079 = .ok (.invokevirtual 129, 3) := by decide +kernel
theorem dL_law_1082 : decode cL_law 1082 = .ok (.aload_n 2, 1) := by decide +kernel
theorem dL_law_1083 : decode cL_law 1083 = .ok (.aload_n 0, 1) := by decide +kernel
theorem dL_law_1084 : decode cL_law 1084 = .ok (.iload_n 3, 1) := by decide +kernel
theorem dL_law_1085 : decode cL_law 1085 = .ok (.iconst 1, 1) := by decide +kernel
theorem dL_law_1086 : decode cL_law 1086 = .ok (.iadd, 1) := by decide +kernel
theorem dL_law_1087 : decode cL_law 1087 = .ok (.iaload, 1) := by decide +kernel
theorem dL_law_1088 : decode cL_law 1088 = .ok (.aload_n 0, 1) := by decide +kernel
theorem dL_law_1089 : decode cL_law 1089 = .ok (.iload_n 3, 1) := by decide +kernel
theorem dL_law_1090 : decode cL_law 1090 = .ok (.iconst 2, 1) := by decide +kernel
theorem dL_law_1091 : decode cL_law 1091 = .ok (.iadd, 1) := by decide +kernel
theorem dL_law_1092 : decode cL_law 1092 = .ok (.iaload, 1) := by decide +kernel
theorem dL_law_1093 : decode cL_law 1093 = .ok (.aload_n 0, 1) := by decide +kernel
theorem dL_law_1094 : decode cL_law 1094 = .ok (.iload_n 3, 1) := by decide +kernel
theorem dL_law_1095 : decode cL_law 1095 = .ok (.iconst 3, 1) := by decide +kernel
theorem dL_law_1096 : decode cL_law 1096 = .ok (.iadd, 1) := by decide +kernel
theorem dL_law_1097 : decode cL_law 1097 = .ok (.iaload, 1) := by decide +kernel
theorem dL_law_1098 : decode cL_law 1098 = .ok (.invokevirtual 132, 3) := by decide +kernel
theorem dL_law_1101 : decode cL_law 1101 = .ok (.if_icmp .eq 97, 3) := by decide +kernel
theorem dL_law_1104 : decode cL_law 1104 = .ok (.iconst 0, 1) := by decide +kernel
theorem dL_law_1105 : decode cL_law 1105 = .ok (.ireturn, 1) := by decide +kernel
theorem dL_law_1106 : decode cL_law 1106 = .ok (.aload_n 1, 1) := by decide +kernel
theorem dL_law_1107 : decode cL_law 1107 = .ok (.invokevirtual 133, 3) := by decide +kernel
theorem dL_law_1110 : decode cL_law 1110 = .ok (.aload_n 2, 1) := by decide +kernel
theorem dL_law_1111 : decode cL_law 1111 = .ok (.invokevirtual 136, 3) := by decide +kernel
theorem dL_law_1114 : decode cL_law 1114 = .ok (.if_icmp .eq 84, 3) := by decide +kernel
theorem dL_law_1117 : decode cL_law 1117 = .ok (.iconst 0, 1) := by decide +kernel
theorem dL_law_1118 : decode cL_law 1118 = .ok (.ireturn, 1) := by decide +kernel
theorem dL_law_1119 : decode cL_law 1119 = .ok (.aload_n 1, 1) := by decide +kernel
theorem dL_law_1120 : decode cL_law 1120 = .ok (.aload_n 0, 1) := by decide +kernel
theorem dL_law_1121 : decode cL_law 1121 = .ok (.iload_n 3, 1) := by decide +kernel
theorem dL_law_1122 : decode cL_law 1122 = .ok (.iconst 1, 1) := by decide +kernel
theorem dL_law_1123 : decode cL_law 1123 = .ok (.iadd, 1) := by decide +kernel
theorem dL_law_1124 : decode cL_law 1124 = .ok (.iaload, 1) := by decide +kernel
theorem dL_law_1125 : decode cL_law 1125 = .ok (.aload_n 0, 1) := by decide +kernel
theorem dL_law_1126 : decode cL_law 1126 = .ok (.iload_n 3, 1) := by decide +kernel
theorem dL_law_1127 : decode cL_law 1127 = .ok (.iconst 2, 1) := by decide +kernel
theorem dL_law_1128 : decode cL_law 1128 = .ok (.iadd, 1) := by decide +kernel
theorem dL_law_1129 : decode cL_law 1129 = .ok (.iaload, 1) := by decide +kernel
theorem dL_law_1130 : decode cL_law 1130 = .ok (.invokevirtual 137, 3) := by decide +kernel
theorem dL_law_1133 : decode cL_law 1133 = .ok (.aload_n 2, 1) := by decide +kernel
theorem dL_law_1134 : decode cL_law 1134 = .ok (.aload_n 0, 1) := by decide +kernel
theorem dL_law_1135 : decode cL_law 1135 = .ok (.iload_n 3, 1) := by decide +kernel
theorem dL_law_1136 : decode cL_law 1136 = .ok (.iconst 1, 1) := by decide +kernel
theorem dL_law_1137 : decode cL_law 1137 = .ok (.iadd, 1) := by decide +kernel
theorem dL_law_1138 : decode cL_law 1138 = .ok (.iaload, 1) := by decide +kernel
theorem dL_law_1139 : decode cL_law 1139 = .ok (.aload_n 0, 1) := by decide +kernel
theorem dL_law_1140 : decode cL_law 1140 = .ok (.iload_n 3, 1) := by decide +kernel
theorem dL_law_1141 : decode cL_law 1141 = .ok (.iconst 2, 1) := by decide +kernel
theorem dL_law_1142 : decode cL_law 1142 = .ok (.iadd, 1) := by decide +kernel
theorem dL_law_1143 : decode cL_law 1143 = .ok (.iaload, 1) := by decide +kernel
theorem dL_law_1144 : decode cL_law 1144 = .ok (.invokevirtual 140, 3) := by decide +kernel
theorem dL_law_1147 : decode cL_law 1147 = .ok (.if_icmp .eq 51, 3) := by decide +kernel
theorem dL_law_1150 : decode cL_law 1150 = .ok (.iconst 0, 1) := by decide +kernel
theorem dL_law_1151 : decode cL_law 1151 = .ok (.ireturn, 1) := by decide +kernel
theorem dL_law_1152 : decode cL_law 1152 = .ok (.aload_n 1, 1) := by decide +kernel
theorem dL_law_1153 : decode cL_law 1153 = .ok (.aload_n 0, 1) := by decide +kernel
theorem dL_law_1154 : decode cL_law 1154 = .ok (.iload_n 3, 1) := by decide +kernel
theorem dL_law_1155 : decode cL_law 1155 = .ok (.iconst 1, 1) := by decide +kernel
theorem dL_law_1156 : decode cL_law 1156 = .ok (.iadd, 1) := by decide +kernel
theorem dL_law_1157 : decode cL_law 1157 = .ok (.iaload, 1) := by decide +kernel
theorem dL_law_1158 : decode cL_law 1158 = .ok (.invokevirtual 141, 3) := by decide +kernel
theorem dL_law_1161 : decode cL_law 1161 = .ok (.aload_n 2, 1) := by decide +kernel
theorem dL_law_1162 : decode cL_law 1162 = .ok (.aload_n 0, 1) := by decide +kernel
theorem dL_law_1163 : decode cL_law 1163 = .ok (.iload_n 3, 1) := by decide +kernel
theorem dL_law_1164 : decode cL_law 1164 = .ok (.iconst 1, 1) := by decide +kernel
theorem dL_law_1165 : decode cL_law 1165 = .ok (.iadd, 1) := by decide +kernel
theorem dL_law_1166 : decode cL_law 1166 = .ok (.iaload, 1) := by decide +kernel
theorem dL_law_1167 : decode cL_law 1167 = .ok (.invokevirtual 144, 3) := by decide +kernel
theorem dL_law_1170 : decode cL_law 1170 = .ok (.if_icmp .eq 28, 3) := by decide +kernel
theorem dL_law_1173 : decode cL_law 1173 = .ok (.iconst 0, 1) := by decide +kernel
theorem dL_law_1174 : decode cL_law 1174 = .ok (.ireturn, 1) := by decide +kernel
theorem dL_law_1175 : decode cL_law 1175 = .ok (.aload_n 1, 1) := by decide +kernel
theorem dL_law_1176 : decode cL_law 1176 = .ok (.aload_n 0, 1) := by decide +kernel
theorem dL_law_1177 : decode cL_law 1177 = .ok (.iload_n 3, 1) := by decide +kernel
theorem dL_law_1178 : decode cL_law 1178 = .ok (.iconst 1, 1) := by decide +kernel
theorem dL_law_1179 : decode cL_law 1179 = .ok (.iadd, 1) := by decide +kernel
theorem dL_law_1180 : decode cL_law 1180 = .ok (.iaload, 1) := by decide +kernel
theorem dL_law_1181 : decode cL_law 1181 = .ok (.invokevirtual 145, 3) := by decide +kernel
theorem dL_law_1184 : decode cL_law 1184 = .ok (.aload_n 2, 1) := by decide +kernel
theorem dL_law_1185 : decode cL_law 1185 = .ok (.aload_n 0, 1) := by decide +kernel
theorem dL_law_1186 : decode cL_law 1186 = .ok (.iload_n 3, 1) := by decide +kernel
theorem dL_law_1187 : decode cL_law 1187 = .ok (.iconst 1, 1) := by decide +kernel
theorem dL_law_1188 : decode cL_law 1188 = .ok (.iadd, 1) := by decide +kernel
theorem dL_law_1189 : decode cL_law 1189 = .ok (.iaload, 1) := by decide +kernel
theorem dL_law_1190 : decode cL_law 1190 = .ok (.invokevirtual 148, 3) := by decide +kernel
theorem dL_law_1193 : decode cL_law 1193 = .ok (.if_icmp .eq 5, 3) := by decide +kernel
theorem dL_law_1196 : decode cL_law 1196 = .ok (.iconst 0, 1) := by decide +kernel
theorem dL_law_1197 : decode cL_law 1197 = .ok (.ireturn, 1) := by decide +kernel
theorem dL_law_1198 : decode cL_law 1198 = .ok (.iinc 3 4, 3) := by decide +kernel
theorem dL_law_1201 : decode cL_law 1201 = .ok (.goto (-1183), 3) := by decide +kernel
theorem dL_law_1204 : decode cL_law 1204 = .ok (.iconst 1, 1) := by decide +kernel
theorem dL_law_1205 : decode cL_law 1205 = .ok (.ireturn, 1) := by decide +kernel
