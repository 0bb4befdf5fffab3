/-! what each instruction decodes to, as printed -/
theorem dL_notes_269 : decode cL_notes 269 = .ok (.invokevirtual 98, 3) := by decide +kernel
theorem dL_notes_272 : decode cL_notes 272 = .ok (.iload 6, 2) := by decide +kernel
theorem dL_notes_274 : decode cL_notes 274 = .ok (.invokevirtual 85, 3) := by decide +kernel
theorem dL_notes_277 : decode cL_notes 277 = .ok (.bipush 32, 2) := by decide +kernel
theorem dL_notes_279 : decode cL_notes 279 = .ok (.invokevirtual 88, 3) := by decide +kernel
theorem dL_notes_282 : decode cL_notes 282 = .ok (.aload_n 3, 1) := by decide +kernel
theorem dL_notes_283 : decode cL_notes 283 = .ok (.invokestatic 91, 3) := by decide +kernel
theorem dL_notes_286 : decode cL_notes 286 = .ok (.iload_n 0, 1) := by decide +kernel
theorem dL_notes_287 : decode cL_notes 287 = .ok (.irem, 1) := by decide +kernel
theorem dL_notes_288 : decode cL_notes 288 = .ok (.invokevirtual 85, 3) := by decide +kernel
theorem dL_notes_291 : decode cL_notes 291 = .ok (.pop, 1) := by decide +kernel
theorem dL_notes_292 : decode cL_notes 292 = .ok (.goto 34, 3) := by decide +kernel
theorem dL_notes_295 : decode cL_notes 295 = .ok (.aload 4, 2) := by decide +kernel
theorem dL_notes_297 : decode cL_notes 297 = .ok (.ldc 115, 2) := by decide +kernel
theorem dL_notes_299 : decode cL_notes 299 = .ok (.invokevirtual 98, 3) := by decide +kernel
theorem dL_notes_302 : decode cL_notes 302 = .ok (.iload 6, 2) := by decide +kernel
theorem dL_notes_304 : decode cL_notes 304 = .ok (.invokevirtual 85, 3) := by decide +kernel
theorem dL_notes_307 : decode cL_notes 307 = .ok (.bipush 32, 2) := by decide +kernel
theorem dL_notes_309 : decode cL_notes 309 = .ok (.invokevirtual 88, 3) := by decide +kernel
theorem dL_notes_312 : decode cL_notes 312 = .ok (.bipush 97, 2) := by decide +kernel
theorem dL_notes_314 : decode cL_notes 314 = .ok (.aload_n 3, 1) := by decide +kernel
theorem dL_notes_315 : decode cL_notes 315 = .ok (.invokestatic 91, 3) := by decide +kernel
theorem dL_notes_318 : decode cL_notes 318 = .ok (.iconst 5, 1) := by decide +kernel
theorem dL_notes_319 : decode cL_notes 319 = .ok (.irem, 1) := by decide +kernel
theorem dL_notes_320 : decode cL_notes 320 = .ok (.iadd, 1) := by decide +kernel
theorem dL_notes_321 : decode cL_notes 321 = .ok (.i2c, 1) := by decide +kernel
theorem dL_notes_322 : decode cL_notes 322 = .ok (.invokevirtual 88, 3) := by decide +kernel
theorem dL_notes_325 : decode cL_notes 325 = .ok (.pop, 1) := by decide +kernel
theorem dL_notes_326 : decode cL_notes 326 = .ok (.iinc 5 (-1), 3) := by decide +kernel
theorem dL_notes_329 : decode cL_notes 329 = .ok (.goto (-287), 3) := by decide +kernel
theorem dL_notes_332 : decode cL_notes 332 = .ok (.aload 4, 2) := by decide +kernel
theorem dL_notes_334 : decode cL_notes 334 = .ok (.invokevirtual 103, 3) := by decide +kernel
theorem dL_notes_337 : decode cL_notes 337 = .ok (.areturn, 1) := by decide +kernel
theorem dL_sum_0 : decode cL_sum 0 = .ok (.aload_n 0, 1) := by decide +kernel
theorem dL_sum_1 : decode cL_sum 1 = .ok (.invokevirtual 117, 3) := by decide +kernel
theorem dL_sum_4 : decode cL_sum 4 = .ok (.istore_n 1, 1) := by decide +kernel
theorem dL_sum_5 : decode cL_sum 5 = .ok (.aload_n 0, 1) := by decide +kernel
theorem dL_sum_6 : decode cL_sum 6 = .ok (.invokevirtual 120, 3) := by decide +kernel
theorem dL_sum_9 : decode cL_sum 9 = .ok (.i2l, 1) := by decide +kernel
theorem dL_sum_10 : decode cL_sum 10 = .ok (.lstore_n 2, 1) := by decide +kernel
theorem dL_sum_11 : decode cL_sum 11 = .ok (.iconst 0, 1) := by decide +kernel
theorem dL_sum_12 : decode cL_sum 12 = .ok (.istore 4, 2) := by decide +kernel
theorem dL_sum_14 : decode cL_sum 14 = .ok (.iload 4, 2) := by decide +kernel
theorem dL_sum_16 : decode cL_sum 16 = .ok (.iload_n 1, 1) := by decide +kernel
theorem dL_sum_17 : decode cL_sum 17 = .ok (.if_icmp .ge 162, 3) := by decide +kernel
theorem dL_sum_20 : decode cL_sum 20 = .ok (.iconst 0, 1) := by decide +kernel
theorem dL_sum_21 : decode cL_sum 21 = .ok (.istore 5, 2) := by decide +kernel
theorem dL_sum_23 : decode cL_sum 23 = .ok (.iload 5, 2) := by decide +kernel
theorem dL_sum_25 : decode cL_sum 25 = .ok (.iload_n 1, 1) := by decide +kernel
theorem dL_sum_26 : decode cL_sum 26 = .ok (.if_icmp .ge 147, 3) := by decide +kernel
theorem dL_sum_29 : decode cL_sum 29 = .ok (.ldc2_w 123, 3) := by decide +kernel
theorem dL_sum_32 : decode cL_sum 32 = .ok (.lload_n 2, 1) := by decide +kernel
theorem dL_sum_33 : decode cL_sum 33 = .ok (.lmul, 1) := by decide +kernel
theorem dL_sum_34 : decode cL_sum 34 = .ok (.aload_n 0, 1) := by decide +kernel
theorem dL_sum_35 : decode cL_sum 35 = .ok (.iload 4, 2) := by decide +kernel
theorem dL_sum_37 : decode cL_sum 37 = .ok (.iload 5, 2) := by decide +kernel
theorem dL_sum_39 : decode cL_sum 39 = .ok (.invokevirtual 125, 3) := by decide +kernel
theorem dL_sum_42 : decode cL_sum 42 = .ok (.i2l, 1) := by decide +kernel
theorem dL_sum_43 : decode cL_sum 43 = .ok (.ladd, 1) := by decide +kernel
theorem dL_sum_44 : decode cL_sum 44 = .ok (.lstore_n 2, 1) := by decide +kernel
theorem dL_sum_45 : decode cL_sum 45 = .ok (.iconst 0, 1) := by decide +kernel
theorem dL_sum_46 : decode cL_sum 46 = .ok (.istore 6, 2) := by decide +kernel
theorem dL_sum_48 : decode cL_sum 48 = .ok (.iload 6, 2) := by decide +kernel
theorem dL_sum_50 : decode cL_sum 50 = .ok (.aload_n 0, 1) := by decide +kernel
theorem dL_sum_51 : decode cL_sum 51 = .ok (.invokevirtual 128, 3) := by decide +kernel
theorem dL_sum_54 : decode cL_sum 54 = .ok (.if_icmp .ge 43, 3) := by decide +kernel
theorem dL_sum_57 : decode cL_sum 57 = .ok (.ldc2_w 123, 3) := by decide +kernel
theorem dL_sum_60 : decode cL_sum 60 = .ok (.ldc2_w 123, 3) := by decide +kernel
theorem dL_sum_63 : decode cL_sum 63 = .ok (.lload_n 2, 1) := by decide +kernel
theorem dL_sum_64 : decode cL_sum 64 = .ok (.lmul, 1) := by decide +kernel
theorem dL_sum_65 : decode cL_sum 65 = .ok (.aload_n 0, 1) := by decide +kernel
theorem dL_sum_66 : decode cL_sum 66 = .ok (.iload 4, 2) := by decide +kernel
theorem dL_sum_68 : decode cL_sum 68 = .ok (.iload 6, 2) := by decide +kernel
theorem dL_sum_70 : decode cL_sum 70 = .ok (.iload 5, 2) := by decide +kernel
theorem dL_sum_72 : decode cL_sum 72 = .ok (.invokevirtual 131, 3) := by decide +kernel
theorem dL_sum_75 : decode cL_sum 75 = .ok (.i2l, 1) := by decide +kernel
theorem dL_sum_76 : decode cL_sum 76 = .ok (.ladd, 1) := by decide +kernel
theorem dL_sum_77 : decode cL_sum 77 = .ok (.lmul, 1) := by decide +kernel
theorem dL_sum_78 : decode cL_sum 78 = .ok (.aload_n 0, 1) := by decide +kernel
theorem dL_sum_79 : decode cL_sum 79 = .ok (.iload 4, 2) := by decide +kernel
theorem dL_sum_81 : decode cL_sum 81 = .ok (.iload 6, 2) := by decide +kernel
theorem dL_sum_83 : decode cL_sum 83 = .ok (.iload 5, 2) := by decide +kernel
theorem dL_sum_85 : decode cL_sum 85 = .ok (.invokevirtual 134, 3) := by decide +kernel
theorem dL_sum_88 : decode cL_sum 88 = .ok (.i2l, 1) := by decide +kernel
theorem dL_sum_89 : decode cL_sum 89 = .ok (.ladd, 1) := by decide +kernel
theorem dL_sum_90 : decode cL_sum 90 = .ok (.lstore_n 2, 1) := by decide +kernel
theorem dL_sum_91 : decode cL_sum 91 = .ok (.iinc 6 1, 3) := by decide +kernel
theorem dL_sum_94 : decode cL_sum 94 = .ok (.goto (-46), 3) := by decide +kernel
theorem dL_sum_97 : decode cL_sum 97 = .ok (.iconst 0, 1) := by decide +kernel
theorem dL_sum_98 : decode cL_sum 98 = .ok (.istore 6, 2) := by decide +kernel
theorem dL_sum_100 : decode cL_sum 100 = .ok (.iload 6, 2) := by decide +kernel
theorem dL_sum_102 : decode cL_sum 102 = .ok (.bipush 16, 2) := by decide +kernel
theorem dL_sum_104 : decode cL_sum 104 = .ok (.if_icmp .ge 27, 3) := by decide +kernel
theorem dL_sum_107 : decode cL_sum 107 = .ok (.ldc2_w 123, 3) := by decide +kernel
theorem dL_sum_110 : decode cL_sum 110 = .ok (.lload_n 2, 1) := by decide +kernel
theorem dL_sum_111 : decode cL_sum 111 = .ok (.lmul, 1) := by decide +kernel
theorem dL_sum_112 : decode cL_sum 112 = .ok (.aload_n 0, 1) := by decide +kernel
theorem dL_sum_113 : decode cL_sum 113 = .ok (.iload 4, 2) := by decide +kernel
theorem dL_sum_115 : decode cL_sum 115 = .ok (.iload 6, 2) := by decide +kernel
theorem dL_sum_117 : decode cL_sum 117 = .ok (.iload 5, 2) := by decide +kernel
theorem dL_sum_119 : decode cL_sum 119 = .ok (.invokevirtual 137, 3) := by decide +kernel
theorem dL_sum_122 : decode cL_sum 122 = .ok (.i2l, 1) := by decide +kernel
theorem dL_sum_123 : decode cL_sum 123 = .ok (.ladd, 1) := by decide +kernel
theorem dL_sum_124 : decode cL_sum 124 = .ok (.lstore_n 2, 1) := by decide +kernel
theorem dL_sum_125 : decode cL_sum 125 = .ok (.iinc 6 1, 3) := by decide +kernel
theorem dL_sum_128 : decode cL_sum 128 = .ok (.goto (-28), 3) := by decide +kernel
theorem dL_sum_131 : decode cL_sum 131 = .ok (.iconst 0, 1) := by decide +kernel
theorem dL_sum_132 : decode cL_sum 132 = .ok (.istore 6, 2) := by decide +kernel
theorem dL_sum_134 : decode cL_sum 134 = .ok (.iload 6, 2) := by decide +kernel
theorem dL_sum_136 : decode cL_sum 136 = .ok (.aload_n 0, 1) := by decide +kernel
theorem dL_sum_137 : decode cL_sum 137 = .ok (.invokevirtual 140, 3) := by decide +kernel
theorem dL_sum_140 : decode cL_sum 140 = .ok (.if_icmp .ge 27, 3) := by decide +kernel
theorem dL_sum_143 : decode cL_sum 143 = .ok (.ldc2_w 123, 3) := by decide +kernel
theorem dL_sum_146 : decode cL_sum 146 = .ok (.lload_n 2, 1) := by decide +kernel
theorem dL_sum_147 : decode cL_sum 147 = .ok (.lmul, 1) := by decide +kernel
theorem dL_sum_148 : decode cL_sum 148 = .ok (.aload_n 0, 1) := by decide +kernel
theorem dL_sum_149 : decode cL_sum 149 = .ok (.iload 4, 2) := by decide +kernel
theorem dL_sum_151 : decode cL_sum 151 = .ok (.iload 6, 2) := by decide +kernel
theorem dL_sum_153 : decode cL_sum 153 = .ok (.iload 5, 2) := by decide +kernel
theorem dL_sum_155 : decode cL_sum 155 = .ok (.invokevirtual 143, 3) := by decide +kernel
theorem dL_sum_158 : decode cL_sum 158 = .ok (.i2l, 1) := by decide +kernel
theorem dL_sum_159 : decode cL_sum 159 = .ok (.ladd, 1) := by decide +kernel
theorem dL_sum_160 : decode cL_sum 160 = .ok (.lstore_n 2, 1) := by decide +kernel
theorem dL_sum_161 : decode cL_sum 161 = .ok (.iinc 6 1, 3) := by decide +kernel
theorem dL_sum_164 : decode cL_sum 164 = .ok (.goto (-30), 3) := by decide +kernel
theorem dL_sum_167 : decode cL_sum 167 = .ok (.iinc 5 1, 3) := by decide +kernel
theorem dL_sum_170 : decode cL_sum 170 = .ok (.goto (-147), 3) := by decide +kernel
theorem dL_sum_173 : decode cL_sum 173 = .ok (.iinc 4 1, 3) := by decide +kernel
theorem dL_sum_176 : decode cL_sum 176 = .ok (.goto (-162), 3) := by decide +kernel
theorem dL_sum_179 : decode cL_sum 179 = .ok (.iconst 0, 1) := by decide +kernel
theorem dL_sum_180 : decode cL_sum 180 = .ok (.istore 4, 2) := by decide +kernel
theorem dL_sum_182 : decode cL_sum 182 = .ok (.iload 4, 2) := by decide +kernel
theorem dL_sum_184 : decode cL_sum 184 = .ok (.aload_n 0, 1) := by decide +kernel
theorem dL_sum_185 : decode cL_sum 185 = .ok (.invokevirtual 120, 3) := by decide +kernel
theorem dL_sum_188 : decode cL_sum 188 = .ok (.if_icmp .ge 62, 3) := by decide +kernel
theorem dL_sum_191 : decode cL_sum 191 = .ok (.ldc2_w 123, 3) := by decide +kernel
theorem dL_sum_194 : decode cL_sum 194 = .ok (.lload_n 2, 1) := by decide +kernel
theorem dL_sum_195 : decode cL_sum 195 = .ok (.lmul, 1) := by decide +kernel
theorem dL_sum_196 : decode cL_sum 196 = .ok (.aload_n 0, 1) := by decide +kernel
theorem dL_sum_197 : decode cL_sum 197 = .ok (.iload 4, 2) := by decide +kernel
theorem dL_sum_199 : decode cL_sum 199 = .ok (.invokevirtual 146, 3) := by decide +kernel
theorem dL_sum_202 : decode cL_sum 202 = .ok (.i2l, 1) := by decide +kernel
theorem dL_sum_203 : decode cL_sum 203 = .ok (.ladd, 1) := by decide +kernel
theorem dL_sum_204 : decode cL_sum 204 = .ok (.lstore_n 2, 1) := by decide +kernel
theorem dL_sum_205 : decode cL_sum 205 = .ok (.iconst 0, 1) := by decide +kernel
theorem dL_sum_206 : decode cL_sum 206 = .ok (.istore 5, 2) := by decide +kernel
theorem dL_sum_208 : decode cL_sum 208 = .ok (.iload 5, 2) := by decide +kernel
theorem dL_sum_210 : decode cL_sum 210 = .ok (.iload_n 1, 1) := by decide +kernel
theorem dL_sum_211 : decode cL_sum 211 = .ok (.if_icmp .ge 33, 3) := by decide +kernel
theorem dL_sum_214 : decode cL_sum 214 = .ok (.ldc2_w 149, 3) := by decide +kernel
theorem dL_sum_217 : decode cL_sum 217 = .ok (.lload_n 2, 1) := by decide +kernel
theorem dL_sum_218 : decode cL_sum 218 = .ok (.lmul, 1) := by decide +kernel
theorem dL_sum_219 : decode cL_sum 219 = .ok (.aload_n 0, 1) := by decide +kernel
theorem dL_sum_220 : decode cL_sum 220 = .ok (.iload 4, 2) := by decide +kernel
theorem dL_sum_222 : decode cL_sum 222 = .ok (.iload 5, 2) := by decide +kernel
theorem dL_sum_224 : decode cL_sum 224 = .ok (.invokevirtual 151, 3) := by decide +kernel
theorem dL_sum_227 : decode cL_sum 227 = .ok (.ifCond .eq 7, 3) := by decide +kernel
theorem dL_sum_230 : decode cL_sum 230 = .ok (.iconst 1, 1) := by decide +kernel
theorem dL_sum_231 : decode cL_sum 231 = .ok (.goto 4, 3) := by decide +kernel
theorem dL_sum_234 : decode cL_sum 234 = .ok (.iconst 0, 1) := by decide +kernel
theorem dL_sum_235 : decode cL_sum 235 = .ok (.i2l, 1) := by decide +kernel
theorem dL_sum_236 : decode cL_sum 236 = .ok (.ladd, 1) := by decide +kernel
theorem dL_sum_237 : decode cL_sum 237 = .ok (.lstore_n 2, 1) := by decide +kernel
theorem dL_sum_238 : decode cL_sum 238 = .ok (.iinc 5 1, 3) := by decide +kernel
theorem dL_sum_241 : decode cL_sum 241 = .ok (.goto (-33), 3) := by decide +kernel
theorem dL_sum_244 : decode cL_sum 244 = .ok (.iinc 4 1, 3) := by decide +kernel
theorem dL_sum_247 : decode cL_sum 247 = .ok (.goto (-65), 3) := by decide +kernel
theorem dL_sum_250 : decode cL_sum 250 = .ok (.lload_n 2, 1) := by decide +kernel
theorem dL_sum_251 : decode cL_sum 251 = .ok (.lreturn, 1) := by decide +kernel
theorem dL_replica_0 : decode cL_replica 0 = .ok (.aload_n 0, 1) := by decide +kernel
theorem dL_replica_1 : decode cL_replica 1 = .ok (.invokevirtual 117, 3) := by decide +kernel
theorem dL_replica_4 : decode cL_replica 4 = .ok (.istore_n 2, 1) := by decide +kernel
theorem dL_replica_5 : decode cL_replica 5 = .ok (.iconst 0, 1) := by decide +kernel
theorem dL_replica_6 : decode cL_replica 6 = .ok (.istore_n 3, 1) := by decide +kernel
theorem dL_replica_7 : decode cL_replica 7 = .ok (.iconst 0, 1) := by decide +kernel
theorem dL_replica_8 : decode cL_replica 8 = .ok (.istore 4, 2) := by decide +kernel
theorem dL_replica_10 : decode cL_replica 10 = .ok (.iconst 1, 1) := by decide +kernel
theorem dL_replica_11 : decode cL_replica 11 = .ok (.istore 5, 2) := by decide +kernel
theorem dL_replica_13 : decode cL_replica 13 = .ok (.iconst 0, 1) := by decide +kernel
theorem dL_replica_14 : decode cL_replica 14 = .ok (.istore 6, 2) := by decide +kernel
theorem dL_replica_16 : decode cL_replica 16 = .ok (.iload 6, 2) := by decide +kernel
theorem dL_replica_18 : decode cL_replica 18 = .ok (.aload_n 0, 1) := by decide +kernel
theorem dL_replica_19 : decode cL_replica 19 = .ok (.invokevirtual 128, 3) := by decide +kernel
theorem dL_replica_22 : decode cL_replica 22 = .ok (.if_icmp .ge 136, 3) := by decide +kernel
theorem dL_replica_25 : decode cL_replica 25 = .ok (.iload 5, 2) := by decide +kernel
theorem dL_replica_27 : decode cL_replica 27 = .ok (.ifCond .eq 131, 3) := by decide +kernel
theorem dL_replica_30 : decode cL_replica 30 = .ok (.iconst 0, 1) := by decide +kernel
theorem dL_replica_31 : decode cL_replica 31 = .ok (.istore 7, 2) := by decide +kernel
theorem dL_replica_33 : decode cL_replica 33 = .ok (.iconst 0, 1) := by decide +kernel
theorem dL_replica_34 : decode cL_replica 34 = .ok (.istore 8, 2) := by decide +kernel
theorem dL_replica_36 : decode cL_replica 36 = .ok (.iload 8, 2) := by decide +kernel
theorem dL_replica_38 : decode cL_replica 38 = .ok (.iload_n 2, 1) := by decide +kernel
theorem dL_replica_39 : decode cL_replica 39 = .ok (.if_icmp .ge 89, 3) := by decide +kernel
theorem dL_replica_42 : decode cL_replica 42 = .ok (.iload 7, 2) := by decide +kernel
theorem dL_replica_44 : decode cL_replica 44 = .ok (.aload_n 0, 1) := by decide +kernel
theorem dL_replica_45 : decode cL_replica 45 = .ok (.iload_n 1, 1) := by decide +kernel
theorem dL_replica_46 : decode cL_replica 46 = .ok (.iload 6, 2) := by decide +kernel
theorem dL_replica_48 : decode cL_replica 48 = .ok (.iload 8, 2) := by decide +kernel
theorem dL_replica_50 : decode cL_replica 50 = .ok (.invokevirtual 131, 3) := by decide +kernel
theorem dL_replica_53 : decode cL_replica 53 = .ok (.aload_n 0, 1) := by decide +kernel
theorem dL_replica_54 : decode cL_replica 54 = .ok (.iload_n 1, 1) := by decide +kernel
theorem dL_replica_55 : decode cL_replica 55 = .ok (.iload 6, 2) := by decide +kernel
theorem dL_replica_57 : decode cL_replica 57 = .ok (.iload 8, 2) := by decide +kernel
theorem dL_replica_59 : decode cL_replica 59 = .ok (.invokevirtual 134, 3) := by decide +kernel
theorem dL_replica_62 : decode cL_replica 62 = .ok (.isub, 1) := by decide +kernel
theorem dL_replica_63 : decode cL_replica 63 = .ok (.iadd, 1) := by decide +kernel
theorem dL_replica_64 : decode cL_replica 64 = .ok (.istore 7, 2) := by decide +kernel
theorem dL_replica_66 : decode cL_replica 66 = .ok (.iload 5, 2) := by decide +kernel
theorem dL_replica_68 : decode cL_replica 68 = .ok (.ifCond .eq 51, 3) := by decide +kernel
theorem dL_replica_71 : decode cL_replica 71 = .ok (.aload_n 0, 1) := by decide +kernel
theorem dL_replica_72 : decode cL_replica 72 = .ok (.iload_n 1, 1) := by decide +kernel
theorem dL_replica_73 : decode cL_replica 73 = .ok (.iload 6, 2) := by decide +kernel
theorem dL_replica_75 : decode cL_replica 75 = .ok (.iload 8, 2) := by decide +kernel
theorem dL_replica_77 : decode cL_replica 77 = .ok (.invokevirtual 131, 3) := by decide +kernel
theorem dL_replica_80 : decode cL_replica 80 = .ok (.aload_n 0, 1) := by decide +kernel
theorem dL_replica_81 : decode cL_replica 81 = .ok (.iload 8, 2) := by decide +kernel
theorem dL_replica_83 : decode cL_replica 83 = .ok (.iload 6, 2) := by decide +kernel
theorem dL_replica_85 : decode cL_replica 85 = .ok (.iload 8, 2) := by decide +kernel
theorem dL_replica_87 : decode cL_replica 87 = .ok (.invokevirtual 131, 3) := by decide +kernel
theorem dL_replica_90 : decode cL_replica 90 = .ok (.if_icmp .gt 29, 3) := by decide +kernel
theorem dL_replica_93 : decode cL_replica 93 = .ok (.aload_n 0, 1) := by decide +kernel
theorem dL_replica_94 : decode cL_replica 94 = .ok (.iload_n 1, 1) := by decide +kernel
theorem dL_replica_95 : decode cL_replica 95 = .ok (.iload 6, 2) := by decide +kernel
theorem dL_replica_97 : decode cL_replica 97 = .ok (.iload 8, 2) := by decide +kernel
theorem dL_replica_99 : decode cL_replica 99 = .ok (.invokevirtual 134, 3) := by decide +kernel
theorem dL_replica_102 : decode cL_replica 102 = .ok (.aload_n 0, 1) := by decide +kernel
theorem dL_replica_103 : decode cL_replica 103 = .ok (.iload 8, 2) := by decide +kernel
theorem dL_replica_105 : decode cL_replica 105 = .ok (.iload 6, 2) := by decide +kernel
theorem dL_replica_107 : decode cL_replica 107 = .ok (.iload 8, 2) := by decide +kernel
theorem dL_replica_109 : decode cL_replica 109 = .ok (.invokevirtual 134, 3) := by decide +kernel
theorem dL_replica_112 : decode cL_replica 112 = .ok (.if_icmp .gt 7, 3) := by decide +kernel
theorem dL_replica_115 : decode cL_replica 115 = .ok (.iconst 1, 1) := by decide +kernel
theorem dL_replica_116 : decode cL_replica 116 = .ok (.goto 4, 3) := by decide +kernel
theorem dL_replica_119 : decode cL_replica 119 = .ok (.iconst 0, 1) := by decide +kernel
theorem dL_replica_120 : decode cL_replica 120 = .ok (.istore 5, 2) := by decide +kernel
theorem dL_replica_122 : decode cL_replica 122 = .ok (.iinc 8 1, 3) := by decide +kernel
theorem dL_replica_125 : decode cL_replica 125 = .ok (.goto (-89), 3) := by decide +kernel
theorem dL_replica_128 : decode cL_replica 128 = .ok (.iload 5, 2) := by decide +kernel
theorem dL_replica_130 : decode cL_replica 130 = .ok (.ifCond .eq 19, 3) := by decide +kernel
theorem dL_replica_133 : decode cL_replica 133 = .ok (.aload_n 0, 1) := by decide +kernel
theorem dL_replica_134 : decode cL_replica 134 = .ok (.iload_n 1, 1) := by decide +kernel
theorem dL_replica_135 : decode cL_replica 135 = .ok (.iload 6, 2) := by decide +kernel
theorem dL_replica_137 : decode cL_replica 137 = .ok (.invokevirtual 154, 3) := by decide +kernel
theorem dL_replica_140 : decode cL_replica 140 = .ok (.iload 7, 2) := by decide +kernel
theorem dL_replica_142 : decode cL_replica 142 = .ok (.if_icmp .ne 7, 3) := by decide +kernel
theorem dL_replica_145 : decode cL_replica 145 = .ok (.iconst 1, 1) := by decide +kernel
theorem dL_replica_146 : decode cL_replica 146 = .ok (.goto 4, 3) := by decide +kernel
theorem dL_replica_149 : decode cL_replica 149 = .ok (.iconst 0, 1) := by decide +kernel
theorem dL_replica_150 : decode cL_replica 150 = .ok (.istore 5, 2) := by decide +kernel
theorem dL_replica_152 : decode cL_replica 152 = .ok (.iinc 6 1, 3) := by decide +kernel
theorem dL_replica_155 : decode cL_replica 155 = .ok (.goto (-139), 3) := by decide +kernel
theorem dL_replica_158 : decode cL_replica 158 = .ok (.iconst 0, 1) := by decide +kernel
theorem dL_replica_159 : decode cL_replica 159 = .ok (.istore 6, 2) := by decide +kernel
theorem dL_replica_161 : decode cL_replica 161 = .ok (.iload 6, 2) := by decide +kernel
theorem dL_replica_163 : decode cL_replica 163 = .ok (.bipush 16, 2) := by decide +kernel
theorem dL_replica_165 : decode cL_replica 165 = .ok (.if_icmp .ge 160, 3) := by decide +kernel
theorem dL_replica_168 : decode cL_replica 168 = .ok (.iload 5, 2) := by decide +kernel
theorem dL_replica_170 : decode cL_replica 170 = .ok (.ifCond .eq 155, 3) := by decide +kernel
theorem dL_replica_173 : decode cL_replica 173 = .ok (.iconst 0, 1) := by decide +kernel
theorem dL_replica_174 : decode cL_replica 174 = .ok (.istore 7, 2) := by decide +kernel
theorem dL_replica_176 : decode cL_replica 176 = .ok (.iconst 0, 1) := by decide +kernel
theorem dL_replica_177 : decode cL_replica 177 = .ok (.istore 8, 2) := by decide +kernel
theorem dL_replica_179 : decode cL_replica 179 = .ok (.iload 8, 2) := by decide +kernel
theorem dL_replica_181 : decode cL_replica 181 = .ok (.iload_n 2, 1) := by decide +kernel
theorem dL_replica_182 : decode cL_replica 182 = .ok (.if_icmp .ge 64, 3) := by decide +kernel
theorem dL_replica_185 : decode cL_replica 185 = .ok (.aload_n 0, 1) := by decide +kernel
theorem dL_replica_186 : decode cL_replica 186 = .ok (.iload_n 1, 1) := by decide +kernel
theorem dL_replica_187 : decode cL_replica 187 = .ok (.iload 6, 2) := by decide +kernel
theorem dL_replica_189 : decode cL_replica 189 = .ok (.iload 8, 2) := by decide +kernel
theorem dL_replica_191 : decode cL_replica 191 = .ok (.invokevirtual 137, 3) := by decide +kernel
theorem dL_replica_194 : decode cL_replica 194 = .ok (.istore 9, 2) := by decide +kernel
theorem dL_replica_196 : decode cL_replica 196 = .ok (.iload 7, 2) := by decide +kernel
theorem dL_replica_198 : decode cL_replica 198 = .ok (.iload 9, 2) := by decide +kernel
theorem dL_replica_200 : decode cL_replica 200 = .ok (.ifCond .le 7, 3) := by decide +kernel
theorem dL_replica_203 : decode cL_replica 203 = .ok (.iconst 1, 1) := by decide +kernel
theorem dL_replica_204 : decode cL_replica 204 = .ok (.goto 4, 3) := by decide +kernel
theorem dL_replica_207 : decode cL_replica 207 = .ok (.iconst 0, 1) := by decide +kernel
theorem dL_replica_208 : decode cL_replica 208 = .ok (.iadd, 1) := by decide +kernel
theorem dL_replica_209 : decode cL_replica 209 = .ok (.istore 7, 2) := by decide +kernel
theorem dL_replica_211 : decode cL_replica 211 = .ok (.iload 5, 2) := by decide +kernel
theorem dL_replica_213 : decode cL_replica 213 = .ok (.ifCond .eq 24, 3) := by decide +kernel
theorem dL_replica_216 : decode cL_replica 216 = .ok (.iload 9, 2) := by decide +kernel
theorem dL_replica_218 : decode cL_replica 218 = .ok (.ifCond .lt 19, 3) := by decide +kernel
theorem dL_replica_221 : decode cL_replica 221 = .ok (.iload 9, 2) := by decide +kernel
theorem dL_replica_223 : decode cL_replica 223 = .ok (.aload_n 0, 1) := by decide +kernel
theorem dL_replica_224 : decode cL_replica 224 = .ok (.iload_n 1, 1) := by decide +kernel
theorem dL_replica_225 : decode cL_replica 225 = .ok (.iload 8, 2) := by decide +kernel
theorem dL_replica_227 : decode cL_replica 227 = .ok (.invokevirtual 125, 3) := by decide +kernel
theorem dL_replica_230 : decode cL_replica 230 = .ok (.if_icmp .gt 7, 3) := by decide +kernel
theorem dL_replica_233 : decode cL_replica 233 = .ok (.iconst 1, 1) := by decide +kernel
theorem dL_replica_234 : decode cL_replica 234 = .ok (.goto 4, 3) := by decide +kernel
theorem dL_replica_237 : decode cL_replica 237 = .ok (.iconst 0, 1) := by decide +kernel
theorem dL_replica_238 : decode cL_replica 238 = .ok (.istore 5, 2) := by decide +kernel
theorem dL_replica_240 : decode cL_replica 240 = .ok (.iinc 8 1, 3) := by decide +kernel
theorem dL_replica_243 : decode cL_replica 243 = .ok (.goto (-64), 3) := by decide +kernel
theorem dL_replica_246 : decode cL_replica 246 = .ok (.iload 5, 2) := by decide +kernel
theorem dL_replica_248 : decode cL_replica 248 = .ok (.ifCond .eq 55, 3) := by decide +kernel
theorem dL_replica_251 : decode cL_replica 251 = .ok (.aload_n 0, 1) := by decide +kernel
theorem dL_replica_252 : decode cL_replica 252 = .ok (.iload_n 1, 1) := by decide +kernel
theorem dL_replica_253 : decode cL_replica 253 = .ok (.iload 6, 2) := by decide +kernel
theorem dL_replica_255 : decode cL_replica 255 = .ok (.invokevirtual 157, 3) := by decide +kernel
theorem dL_replica_258 : decode cL_replica 258 = .ok (.iload 7, 2) := by decide +kernel
theorem dL_replica_260 : decode cL_replica 260 = .ok (.if_icmp .ne 43, 3) := by decide +kernel
theorem dL_replica_263 : decode cL_replica 263 = .ok (.aload_n 0, 1) := by decide +kernel
theorem dL_replica_264 : decode cL_replica 264 = .ok (.iload_n 1, 1) := by decide +kernel
theorem dL_replica_265 : decode cL_replica 265 = .ok (.iload 6, 2) := by decide +kernel
theorem dL_replica_267 : decode cL_replica 267 = .ok (.invokevirtual 160, 3) := by decide +kernel
theorem dL_replica_270 : decode cL_replica 270 = .ok (.iload 7, 2) := by decide +kernel
theorem dL_replica_272 : decode cL_replica 272 = .ok (.ifCond .le 7, 3) := by decide +kernel
theorem dL_replica_275 : decode cL_replica 275 = .ok (.iconst 1, 1) := by decide +kernel
theorem dL_replica_276 : decode cL_replica 276 = .ok (.goto 4, 3) := by decide +kernel
theorem dL_replica_279 : decode cL_replica 279 = .ok (.iconst 0, 1) := by decide +kernel
theorem dL_replica_280 : decode cL_replica 280 = .ok (.if_icmp .ne 23, 3) := by decide +kernel
theorem dL_replica_283 : decode cL_replica 283 = .ok (.iload 7, 2) := by decide +kernel
theorem dL_replica_285 : decode cL_replica 285 = .ok (.ifCond .eq 14, 3) := by decide +kernel
theorem dL_replica_288 : decode cL_replica 288 = .ok (.aload_n 0, 1) := by decide +kernel
theorem dL_replica_289 : decode cL_replica 289 = .ok (.iload_n 1, 1) := by decide +kernel
theorem dL_replica_290 : decode cL_replica 290 = .ok (.iload_n 3, 1) := by decide +kernel
theorem dL_replica_291 : decode cL_replica 291 = .ok (.invokestatic 163, 3) := by decide +kernel
theorem dL_replica_294 : decode cL_replica 294 = .ok (.iload 6, 2) := by decide +kernel
theorem dL_replica_296 : decode cL_replica 296 = .ok (.if_icmp .ne 7, 3) := by decide +kernel
theorem dL_replica_299 : decode cL_replica 299 = .ok (.iconst 1, 1) := by decide +kernel
theorem dL_replica_300 : decode cL_replica 300 = .ok (.goto 4, 3) := by decide +kernel
theorem dL_replica_303 : decode cL_replica 303 = .ok (.iconst 0, 1) := by decide +kernel
theorem dL_replica_304 : decode cL_replica 304 = .ok (.istore 5, 2) := by decide +kernel
theorem dL_replica_306 : decode cL_replica 306 = .ok (.iload_n 3, 1) := by decide +kernel
theorem dL_replica_307 : decode cL_replica 307 = .ok (.iload 7, 2) := by decide +kernel
theorem dL_replica_309 : decode cL_replica 309 = .ok (.ifCond .le 7, 3) := by decide +kernel
theorem dL_replica_312 : decode cL_replica 312 = .ok (.iconst 1, 1) := by decide +kernel
theorem dL_replica_313 : decode cL_replica 313 = .ok (.goto 4, 3) := by decide +kernel
