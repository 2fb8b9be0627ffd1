theorem dL_law_0 : decode cL_law 0 = .ok (.new 14, 3) := by decide +kernel
theorem dL_law_3 : decode cL_law 3 = .ok (.dup, 1) := by decide +kernel
theorem dL_law_4 : decode cL_law 4 = .ok (.invokespecial 111, 3) := by decide +kernel
theorem dL_law_7 : decode cL_law 7 = .ok (.astore_n 1, 1) := by decide +kernel
theorem dL_law_8 : decode cL_law 8 = .ok (.aload_n 1, 1) := by decide +kernel
theorem dL_law_9 : decode cL_law 9 = .ok (.invokevirtual 112, 3) := by decide +kernel
theorem dL_law_12 : decode cL_law 12 = .ok (.ldc 93, 2) := by decide +kernel
theorem dL_law_14 : decode cL_law 14 = .ok (.if_icmp .ne 85, 3) := by decide +kernel
theorem dL_law_17 : decode cL_law 17 = .ok (.aload_n 1, 1) := by decide +kernel
theorem dL_law_18 : decode cL_law 18 = .ok (.bipush 20, 2) := by decide +kernel
theorem dL_law_20 : decode cL_law 20 = .ok (.invokevirtual 13, 3) := by decide +kernel
theorem dL_law_23 : decode cL_law 23 = .ok (.iconst 3, 1) := by decide +kernel
theorem dL_law_24 : decode cL_law 24 = .ok (.if_icmp .ne 75, 3) := by decide +kernel
theorem dL_law_27 : decode cL_law 27 = .ok (.aload_n 1, 1) := by decide +kernel
theorem dL_law_28 : decode cL_law 28 = .ok (.bipush 21, 2) := by decide +kernel
theorem dL_law_30 : decode cL_law 30 = .ok (.invokevirtual 13, 3) := by decide +kernel
theorem dL_law_33 : decode cL_law 33 = .ok (.iconst 4, 1) := by decide +kernel
theorem dL_law_34 : decode cL_law 34 = .ok (.if_icmp .ne 65, 3) := by decide +kernel
theorem dL_law_37 : decode cL_law 37 = .ok (.aload_n 1, 1) := by decide +kernel
theorem dL_law_38 : decode cL_law 38 = .ok (.bipush 22, 2) := by decide +kernel
theorem dL_law_40 : decode cL_law 40 = .ok (.invokevirtual 13, 3) := by decide +kernel
theorem dL_law_43 : decode cL_law 43 = .ok (.bipush 6, 2) := by decide +kernel
theorem dL_law_45 : decode cL_law 45 = .ok (.if_icmp .ne 54, 3) := by decide +kernel
theorem dL_law_48 : decode cL_law 48 = .ok (.aload_n 1, 1) := by decide +kernel
theorem dL_law_49 : decode cL_law 49 = .ok (.bipush 23, 2) := by decide +kernel
theorem dL_law_51 : decode cL_law 51 = .ok (.invokevirtual 13, 3) := by decide +kernel
theorem dL_law_54 : decode cL_law 54 = .ok (.bipush 6, 2) := by decide +kernel
theorem dL_law_56 : decode cL_law 56 = .ok (.if_icmp .ne 43, 3) := by decide +kernel
theorem dL_law_59 : decode cL_law 59 = .ok (.aload_n 1, 1) := by decide +kernel
theorem dL_law_60 : decode cL_law 60 = .ok (.iconst 3, 1) := by decide +kernel
theorem dL_law_61 : decode cL_law 61 = .ok (.invokevirtual 13, 3) := by decide +kernel
theorem dL_law_64 : decode cL_law 64 = .ok (.sipush 162, 3) := by decide +kernel
theorem dL_law_67 : decode cL_law 67 = .ok (.if_icmp .ne 32, 3) := by decide +kernel
theorem dL_law_70 : decode cL_law 70 = .ok (.aload_n 1, 1) := by decide +kernel
theorem dL_law_71 : decode cL_law 71 = .ok (.iconst 0, 1) := by decide +kernel
theorem dL_law_72 : decode cL_law 72 = .ok (.invokevirtual 90, 3) := by decide +kernel
theorem dL_law_75 : decode cL_law 75 = .ok (.ldc 83, 2) := by decide +kernel
theorem dL_law_77 : decode cL_law 77 = .ok (.if_icmp .ne 22, 3) := by decide +kernel
theorem dL_law_80 : decode cL_law 80 = .ok (.aload_n 1, 1) := by decide +kernel
theorem dL_law_81 : decode cL_law 81 = .ok (.iconst (-1), 1) := by decide +kernel
theorem dL_law_82 : decode cL_law 82 = .ok (.invokevirtual 80, 3) := by decide +kernel
theorem dL_law_85 : decode cL_law 85 = .ok (.ifCond .ne 14, 3) := by decide +kernel
theorem dL_law_88 : decode cL_law 88 = .ok (.aload_n 1, 1) := by decide +kernel
theorem dL_law_89 : decode cL_law 89 = .ok (.invokestatic 115, 3) := by decide +kernel
theorem dL_law_92 : decode cL_law 92 = .ok (.ifCond .eq 7, 3) := by decide +kernel
theorem dL_law_95 : decode cL_law 95 = .ok (.iconst 1, 1) := by decide +kernel
theorem dL_law_96 : decode cL_law 96 = .ok (.goto 4, 3) := by decide +kernel
theorem dL_law_99 : decode cL_law 99 = .ok (.iconst 0, 1) := by decide +kernel
theorem dL_law_100 : decode cL_law 100 = .ok (.istore_n 2, 1) := by decide +kernel
theorem dL_law_101 : decode cL_law 101 = .ok (.iconst 0, 1) := by decide +kernel
theorem dL_law_102 : decode cL_law 102 = .ok (.istore_n 3, 1) := by decide +kernel
theorem dL_law_103 : decode cL_law 103 = .ok (.iload_n 3, 1) := by decide +kernel
theorem dL_law_104 : decode cL_law 104 = .ok (.bipush 26, 2) := by decide +kernel
theorem dL_law_106 : decode cL_law 106 = .ok (.if_icmp .ge 1134, 3) := by decide +kernel
theorem dL_law_109 : decode cL_law 109 = .ok (.iload_n 2, 1) := by decide +kernel
theorem dL_law_110 : decode cL_law 110 = .ok (.ifCond .eq 1130, 3) := by decide +kernel
theorem dL_law_113 : decode cL_law 113 = .ok (.aload_n 0, 1) := by decide +kernel
theorem dL_law_114 : decode cL_law 114 = .ok (.iload_n 3, 1) := by decide +kernel
theorem dL_law_115 : decode cL_law 115 = .ok (.invokestatic 119, 3) := by decide +kernel
theorem dL_law_118 : decode cL_law 118 = .ok (.istore 4, 2) := by decide +kernel
theorem dL_law_120 : decode cL_law 120 = .ok (.iload 4, 2) := by decide +kernel
theorem dL_law_122 : decode cL_law 122 = .ok (.iconst 5, 1) := by decide +kernel
theorem dL_law_123 : decode cL_law 123 = .ok (.ishr, 1) := by decide +kernel
theorem dL_law_124 : decode cL_law 124 = .ok (.sipush 8192, 3) := by decide +kernel
theorem dL_law_127 : decode cL_law 127 = .ok (.invokestatic 123, 3) := by decide +kernel
theorem dL_law_130 : decode cL_law 130 = .ok (.istore 5, 2) := by decide +kernel
theorem dL_law_132 : decode cL_law 132 = .ok (.iload 4, 2) := by decide +kernel
theorem dL_law_134 : decode cL_law 134 = .ok (.bipush 11, 2) := by decide +kernel
theorem dL_law_136 : decode cL_law 136 = .ok (.ishr, 1) := by decide +kernel
theorem dL_law_137 : decode cL_law 137 = .ok (.sipush 8192, 3) := by decide +kernel
theorem dL_law_140 : decode cL_law 140 = .ok (.invokestatic 123, 3) := by decide +kernel
theorem dL_law_143 : decode cL_law 143 = .ok (.istore 6, 2) := by decide +kernel
theorem dL_law_145 : decode cL_law 145 = .ok (.aload_n 1, 1) := by decide +kernel
theorem dL_law_146 : decode cL_law 146 = .ok (.iconst 0, 1) := by decide +kernel
theorem dL_law_147 : decode cL_law 147 = .ok (.invokevirtual 13, 3) := by decide +kernel
theorem dL_law_150 : decode cL_law 150 = .ok (.istore 7, 2) := by decide +kernel
theorem dL_law_152 : decode cL_law 152 = .ok (.iload 7, 2) := by decide +kernel
theorem dL_law_154 : decode cL_law 154 = .ok (.ifCond .ne 7, 3) := by decide +kernel
theorem dL_law_157 : decode cL_law 157 = .ok (.iconst 0, 1) := by decide +kernel
theorem dL_law_158 : decode cL_law 158 = .ok (.goto 8, 3) := by decide +kernel
theorem dL_law_161 : decode cL_law 161 = .ok (.iload 5, 2) := by decide +kernel
theorem dL_law_163 : decode cL_law 163 = .ok (.iload 7, 2) := by decide +kernel
theorem dL_law_165 : decode cL_law 165 = .ok (.irem, 1) := by decide +kernel
theorem dL_law_166 : decode cL_law 166 = .ok (.istore 8, 2) := by decide +kernel
theorem dL_law_168 : decode cL_law 168 = .ok (.aload_n 1, 1) := by decide +kernel
theorem dL_law_169 : decode cL_law 169 = .ok (.bipush 7, 2) := by decide +kernel
theorem dL_law_171 : decode cL_law 171 = .ok (.invokevirtual 13, 3) := by decide +kernel
theorem dL_law_174 : decode cL_law 174 = .ok (.istore 9, 2) := by decide +kernel
theorem dL_law_176 : decode cL_law 176 = .ok (.aload_n 1, 1) := by decide +kernel
theorem dL_law_177 : decode cL_law 177 = .ok (.iconst 4, 1) := by decide +kernel
theorem dL_law_178 : decode cL_law 178 = .ok (.invokevirtual 13, 3) := by decide +kernel
theorem dL_law_181 : decode cL_law 181 = .ok (.istore 10, 2) := by decide +kernel
theorem dL_law_183 : decode cL_law 183 = .ok (.iconst 0, 1) := by decide +kernel
theorem dL_law_184 : decode cL_law 184 = .ok (.istore 11, 2) := by decide +kernel
theorem dL_law_186 : decode cL_law 186 = .ok (.iload_n 3, 1) := by decide +kernel
theorem dL_law_187 : decode cL_law 187 = .ok (.iconst 3, 1) := by decide +kernel
theorem dL_law_188 : decode cL_law 188 = .ok (.if_icmp .ge 7, 3) := by decide +kernel
theorem dL_law_191 : decode cL_law 191 = .ok (.iconst 1, 1) := by decide +kernel
theorem dL_law_192 : decode cL_law 192 = .ok (.goto 10, 3) := by decide +kernel
theorem dL_law_195 : decode cL_law 195 = .ok (.iload 4, 2) := by decide +kernel
theorem dL_law_197 : decode cL_law 197 = .ok (.bipush 22, 2) := by decide +kernel
theorem dL_law_199 : decode cL_law 199 = .ok (.invokestatic 123, 3) := by decide +kernel
theorem dL_law_202 : decode cL_law 202 = .ok (.tableswitch 891 0 20 #[98, 113, 113, 113, 210, 210, 210, 210, 210, 293, 293, 293, 293, 293, 557, 599, 599, 663, 663, 833, 848], 98) := by decide +kernel
theorem dL_law_300 : decode cL_law 300 = .ok (.aload_n 1, 1) := by decide +kernel
theorem dL_law_301 : decode cL_law 301 = .ok (.iload 5, 2) := by decide +kernel
theorem dL_law_303 : decode cL_law 303 = .ok (.bipush 81, 2) := by decide +kernel
theorem dL_law_305 : decode cL_law 305 = .ok (.irem, 1) := by decide +kernel
theorem dL_law_306 : decode cL_law 306 = .ok (.iconst 1, 1) := by decide +kernel
theorem dL_law_307 : decode cL_law 307 = .ok (.invokevirtual 39, 3) := by decide +kernel
theorem dL_law_310 : decode cL_law 310 = .ok (.istore 11, 2) := by decide +kernel
theorem dL_law_312 : decode cL_law 312 = .ok (.goto 823, 3) := by decide +kernel
theorem dL_law_315 : decode cL_law 315 = .ok (.aload_n 1, 1) := by decide +kernel
theorem dL_law_316 : decode cL_law 316 = .ok (.iload 5, 2) := by decide +kernel
theorem dL_law_318 : decode cL_law 318 = .ok (.bipush 81, 2) := by decide +kernel
theorem dL_law_320 : decode cL_law 320 = .ok (.irem, 1) := by decide +kernel
theorem dL_law_321 : decode cL_law 321 = .ok (.iload 6, 2) := by decide +kernel
theorem dL_law_323 : decode cL_law 323 = .ok (.bipush 81, 2) := by decide +kernel
theorem dL_law_325 : decode cL_law 325 = .ok (.irem, 1) := by decide +kernel
theorem dL_law_326 : decode cL_law 326 = .ok (.iload 4, 2) := by decide +kernel
theorem dL_law_328 : decode cL_law 328 = .ok (.bipush 17, 2) := by decide +kernel
theorem dL_law_330 : decode cL_law 330 = .ok (.ishr, 1) := by decide +kernel
theorem dL_law_331 : decode cL_law 331 = .ok (.iconst 3, 1) := by decide +kernel
theorem dL_law_332 : decode cL_law 332 = .ok (.invokestatic 123, 3) := by decide +kernel
theorem dL_law_335 : decode cL_law 335 = .ok (.ifCond .ne 14, 3) := by decide +kernel
theorem dL_law_338 : decode cL_law 338 = .ok (.iload 5, 2) := by decide +kernel
theorem dL_law_340 : decode cL_law 340 = .ok (.iload 6, 2) := by decide +kernel
theorem dL_law_342 : decode cL_law 342 = .ok (.iadd, 1) := by decide +kernel
theorem dL_law_343 : decode cL_law 343 = .ok (.bipush 81, 2) := by decide +kernel
theorem dL_law_345 : decode cL_law 345 = .ok (.irem, 1) := by decide +kernel
theorem dL_law_346 : decode cL_law 346 = .ok (.goto 4, 3) := by decide +kernel
theorem dL_law_349 : decode cL_law 349 = .ok (.iconst (-1), 1) := by decide +kernel
theorem dL_law_350 : decode cL_law 350 = .ok (.iload 5, 2) := by decide +kernel
theorem dL_law_352 : decode cL_law 352 = .ok (.bipush 10, 2) := by decide +kernel
theorem dL_law_354 : decode cL_law 354 = .ok (.irem, 1) := by decide +kernel
theorem dL_law_355 : decode cL_law 355 = .ok (.bipush 20, 2) := by decide +kernel
theorem dL_law_357 : decode cL_law 357 = .ok (.iload 6, 2) := by decide +kernel
theorem dL_law_359 : decode cL_law 359 = .ok (.sipush 200, 3) := by decide +kernel
theorem dL_law_362 : decode cL_law 362 = .ok (.irem, 1) := by decide +kernel
theorem dL_law_363 : decode cL_law 363 = .ok (.iadd, 1) := by decide +kernel
theorem dL_law_364 : decode cL_law 364 = .ok (.invokevirtual 42, 3) := by decide +kernel
theorem dL_law_367 : decode cL_law 367 = .ok (.istore 11, 2) := by decide +kernel
theorem dL_law_369 : decode cL_law 369 = .ok (.iload 11, 2) := by decide +kernel
theorem dL_law_371 : decode cL_law 371 = .ok (.ifCond .lt 32, 3) := by decide +kernel
theorem dL_law_374 : decode cL_law 374 = .ok (.aload_n 1, 1) := by decide +kernel
theorem dL_law_375 : decode cL_law 375 = .ok (.iload 11, 2) := by decide +kernel
theorem dL_law_377 : decode cL_law 377 = .ok (.iconst 5, 1) := by decide +kernel
theorem dL_law_378 : decode cL_law 378 = .ok (.invokevirtual 22, 3) := by decide +kernel
theorem dL_law_381 : decode cL_law 381 = .ok (.ifCond .ne 26, 3) := by decide +kernel
theorem dL_law_384 : decode cL_law 384 = .ok (.aload_n 1, 1) := by decide +kernel
theorem dL_law_385 : decode cL_law 385 = .ok (.iload 11, 2) := by decide +kernel
theorem dL_law_387 : decode cL_law 387 = .ok (.iconst 4, 1) := by decide +kernel
theorem dL_law_388 : decode cL_law 388 = .ok (.invokevirtual 22, 3) := by decide +kernel
theorem dL_law_391 : decode cL_law 391 = .ok (.bipush 20, 2) := by decide +kernel
