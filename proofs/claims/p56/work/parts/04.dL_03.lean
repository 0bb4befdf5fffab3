/-! what each instruction decodes to, as printed -/
theorem dL_merging_34 : decode cL_merging 34 = .ok (.ifCond .ne 7, 3) := by decide +kernel
theorem dL_merging_37 : decode cL_merging 37 = .ok (.iconst 0, 1) := by decide +kernel
theorem dL_merging_38 : decode cL_merging 38 = .ok (.goto 8, 3) := by decide +kernel
theorem dL_merging_41 : decode cL_merging 41 = .ok (.aload_n 0, 1) := by decide +kernel
theorem dL_merging_42 : decode cL_merging 42 = .ok (.iconst 0, 1) := by decide +kernel
theorem dL_merging_43 : decode cL_merging 43 = .ok (.invokevirtual 218, 3) := by decide +kernel
theorem dL_merging_46 : decode cL_merging 46 = .ok (.istore 7, 2) := by decide +kernel
theorem dL_merging_48 : decode cL_merging 48 = .ok (.aload_n 0, 1) := by decide +kernel
theorem dL_merging_49 : decode cL_merging 49 = .ok (.invokevirtual 221, 3) := by decide +kernel
theorem dL_merging_52 : decode cL_merging 52 = .ok (.istore 8, 2) := by decide +kernel
theorem dL_merging_54 : decode cL_merging 54 = .ok (.aload_n 0, 1) := by decide +kernel
theorem dL_merging_55 : decode cL_merging 55 = .ok (.invokevirtual 224, 3) := by decide +kernel
theorem dL_merging_58 : decode cL_merging 58 = .ok (.istore 9, 2) := by decide +kernel
theorem dL_merging_60 : decode cL_merging 60 = .ok (.aload_n 0, 1) := by decide +kernel
theorem dL_merging_61 : decode cL_merging 61 = .ok (.iload_n 1, 1) := by decide +kernel
theorem dL_merging_62 : decode cL_merging 62 = .ok (.iload_n 2, 1) := by decide +kernel
theorem dL_merging_63 : decode cL_merging 63 = .ok (.invokestatic 227, 3) := by decide +kernel
theorem dL_merging_66 : decode cL_merging 66 = .ok (.iload 6, 2) := by decide +kernel
theorem dL_merging_68 : decode cL_merging 68 = .ok (.ifCond .eq 7, 3) := by decide +kernel
theorem dL_merging_71 : decode cL_merging 71 = .ok (.iconst 0, 1) := by decide +kernel
theorem dL_merging_72 : decode cL_merging 72 = .ok (.goto 4, 3) := by decide +kernel
theorem dL_merging_75 : decode cL_merging 75 = .ok (.iconst 1, 1) := by decide +kernel
theorem dL_merging_76 : decode cL_merging 76 = .ok (.if_icmp .ne 40, 3) := by decide +kernel
theorem dL_merging_79 : decode cL_merging 79 = .ok (.aload_n 0, 1) := by decide +kernel
theorem dL_merging_80 : decode cL_merging 80 = .ok (.iload_n 1, 1) := by decide +kernel
theorem dL_merging_81 : decode cL_merging 81 = .ok (.invokevirtual 177, 3) := by decide +kernel
theorem dL_merging_84 : decode cL_merging 84 = .ok (.iload 5, 2) := by decide +kernel
theorem dL_merging_86 : decode cL_merging 86 = .ok (.iload_n 3, 1) := by decide +kernel
theorem dL_merging_87 : decode cL_merging 87 = .ok (.iadd, 1) := by decide +kernel
theorem dL_merging_88 : decode cL_merging 88 = .ok (.iload 4, 2) := by decide +kernel
theorem dL_merging_90 : decode cL_merging 90 = .ok (.isub, 1) := by decide +kernel
theorem dL_merging_91 : decode cL_merging 91 = .ok (.if_icmp .ne 25, 3) := by decide +kernel
theorem dL_merging_94 : decode cL_merging 94 = .ok (.aload_n 0, 1) := by decide +kernel
theorem dL_merging_95 : decode cL_merging 95 = .ok (.iload_n 1, 1) := by decide +kernel
theorem dL_merging_96 : decode cL_merging 96 = .ok (.iload_n 2, 1) := by decide +kernel
theorem dL_merging_97 : decode cL_merging 97 = .ok (.invokevirtual 186, 3) := by decide +kernel
theorem dL_merging_100 : decode cL_merging 100 = .ok (.ifCond .eq 16, 3) := by decide +kernel
theorem dL_merging_103 : decode cL_merging 103 = .ok (.aload_n 0, 1) := by decide +kernel
theorem dL_merging_104 : decode cL_merging 104 = .ok (.iload_n 1, 1) := by decide +kernel
theorem dL_merging_105 : decode cL_merging 105 = .ok (.iload_n 2, 1) := by decide +kernel
theorem dL_merging_106 : decode cL_merging 106 = .ok (.invokestatic 227, 3) := by decide +kernel
theorem dL_merging_109 : decode cL_merging 109 = .ok (.ifCond .ne 7, 3) := by decide +kernel
theorem dL_merging_112 : decode cL_merging 112 = .ok (.iconst 1, 1) := by decide +kernel
theorem dL_merging_113 : decode cL_merging 113 = .ok (.goto 4, 3) := by decide +kernel
theorem dL_merging_116 : decode cL_merging 116 = .ok (.iconst 0, 1) := by decide +kernel
theorem dL_merging_117 : decode cL_merging 117 = .ok (.istore 10, 2) := by decide +kernel
theorem dL_merging_119 : decode cL_merging 119 = .ok (.iload 10, 2) := by decide +kernel
theorem dL_merging_121 : decode cL_merging 121 = .ok (.ifCond .eq 42, 3) := by decide +kernel
theorem dL_merging_124 : decode cL_merging 124 = .ok (.aload_n 0, 1) := by decide +kernel
theorem dL_merging_125 : decode cL_merging 125 = .ok (.invokevirtual 221, 3) := by decide +kernel
theorem dL_merging_128 : decode cL_merging 128 = .ok (.iload 8, 2) := by decide +kernel
theorem dL_merging_130 : decode cL_merging 130 = .ok (.if_icmp .ne 33, 3) := by decide +kernel
theorem dL_merging_133 : decode cL_merging 133 = .ok (.aload_n 0, 1) := by decide +kernel
theorem dL_merging_134 : decode cL_merging 134 = .ok (.invokevirtual 224, 3) := by decide +kernel
theorem dL_merging_137 : decode cL_merging 137 = .ok (.iload 9, 2) := by decide +kernel
theorem dL_merging_139 : decode cL_merging 139 = .ok (.if_icmp .ne 24, 3) := by decide +kernel
theorem dL_merging_142 : decode cL_merging 142 = .ok (.aload_n 0, 1) := by decide +kernel
theorem dL_merging_143 : decode cL_merging 143 = .ok (.invokevirtual 128, 3) := by decide +kernel
theorem dL_merging_146 : decode cL_merging 146 = .ok (.ifCond .eq 13, 3) := by decide +kernel
theorem dL_merging_149 : decode cL_merging 149 = .ok (.aload_n 0, 1) := by decide +kernel
theorem dL_merging_150 : decode cL_merging 150 = .ok (.iconst 0, 1) := by decide +kernel
theorem dL_merging_151 : decode cL_merging 151 = .ok (.invokevirtual 218, 3) := by decide +kernel
theorem dL_merging_154 : decode cL_merging 154 = .ok (.iload 7, 2) := by decide +kernel
theorem dL_merging_156 : decode cL_merging 156 = .ok (.if_icmp .ne 7, 3) := by decide +kernel
theorem dL_merging_159 : decode cL_merging 159 = .ok (.iconst 1, 1) := by decide +kernel
theorem dL_merging_160 : decode cL_merging 160 = .ok (.goto 4, 3) := by decide +kernel
theorem dL_merging_163 : decode cL_merging 163 = .ok (.iconst 0, 1) := by decide +kernel
theorem dL_merging_164 : decode cL_merging 164 = .ok (.ireturn, 1) := by decide +kernel
theorem dL_act_0 : decode cL_act 0 = .ok (.aload_n 0, 1) := by decide +kernel
theorem dL_act_1 : decode cL_act 1 = .ok (.invokevirtual 117, 3) := by decide +kernel
theorem dL_act_4 : decode cL_act 4 = .ok (.istore_n 2, 1) := by decide +kernel
theorem dL_act_5 : decode cL_act 5 = .ok (.aload_n 1, 1) := by decide +kernel
theorem dL_act_6 : decode cL_act 6 = .ok (.invokestatic 91, 3) := by decide +kernel
theorem dL_act_9 : decode cL_act 9 = .ok (.iload_n 2, 1) := by decide +kernel
theorem dL_act_10 : decode cL_act 10 = .ok (.irem, 1) := by decide +kernel
theorem dL_act_11 : decode cL_act 11 = .ok (.istore_n 3, 1) := by decide +kernel
theorem dL_act_12 : decode cL_act 12 = .ok (.aload_n 1, 1) := by decide +kernel
theorem dL_act_13 : decode cL_act 13 = .ok (.invokestatic 91, 3) := by decide +kernel
theorem dL_act_16 : decode cL_act 16 = .ok (.iload_n 2, 1) := by decide +kernel
theorem dL_act_17 : decode cL_act 17 = .ok (.irem, 1) := by decide +kernel
theorem dL_act_18 : decode cL_act 18 = .ok (.istore 4, 2) := by decide +kernel
theorem dL_act_20 : decode cL_act 20 = .ok (.aload_n 0, 1) := by decide +kernel
theorem dL_act_21 : decode cL_act 21 = .ok (.invokevirtual 120, 3) := by decide +kernel
theorem dL_act_24 : decode cL_act 24 = .ok (.istore 5, 2) := by decide +kernel
theorem dL_act_26 : decode cL_act 26 = .ok (.aload_n 1, 1) := by decide +kernel
theorem dL_act_27 : decode cL_act 27 = .ok (.invokestatic 91, 3) := by decide +kernel
theorem dL_act_30 : decode cL_act 30 = .ok (.bipush 9, 2) := by decide +kernel
theorem dL_act_32 : decode cL_act 32 = .ok (.irem, 1) := by decide +kernel
theorem dL_act_33 : decode cL_act 33 = .ok (.tableswitch 681 0 7 #[47, 123, 202, 295, 387, 459, 564, 615], 47) := by decide +kernel
theorem dL_act_80 : decode cL_act 80 = .ok (.aload_n 1, 1) := by decide +kernel
theorem dL_act_81 : decode cL_act 81 = .ok (.invokestatic 91, 3) := by decide +kernel
theorem dL_act_84 : decode cL_act 84 = .ok (.bipush 16, 2) := by decide +kernel
theorem dL_act_86 : decode cL_act 86 = .ok (.irem, 1) := by decide +kernel
theorem dL_act_87 : decode cL_act 87 = .ok (.istore 6, 2) := by decide +kernel
theorem dL_act_89 : decode cL_act 89 = .ok (.aload_n 0, 1) := by decide +kernel
theorem dL_act_90 : decode cL_act 90 = .ok (.iload_n 3, 1) := by decide +kernel
theorem dL_act_91 : decode cL_act 91 = .ok (.iload_n 3, 1) := by decide +kernel
theorem dL_act_92 : decode cL_act 92 = .ok (.invokevirtual 125, 3) := by decide +kernel
theorem dL_act_95 : decode cL_act 95 = .ok (.istore 7, 2) := by decide +kernel
theorem dL_act_97 : decode cL_act 97 = .ok (.aload_n 0, 1) := by decide +kernel
theorem dL_act_98 : decode cL_act 98 = .ok (.iload_n 3, 1) := by decide +kernel
theorem dL_act_99 : decode cL_act 99 = .ok (.iload 6, 2) := by decide +kernel
theorem dL_act_101 : decode cL_act 101 = .ok (.invokestatic 230, 3) := by decide +kernel
theorem dL_act_104 : decode cL_act 104 = .ok (.iload 7, 2) := by decide +kernel
theorem dL_act_106 : decode cL_act 106 = .ok (.iconst 1, 1) := by decide +kernel
theorem dL_act_107 : decode cL_act 107 = .ok (.iadd, 1) := by decide +kernel
theorem dL_act_108 : decode cL_act 108 = .ok (.if_icmp .ne 46, 3) := by decide +kernel
theorem dL_act_111 : decode cL_act 111 = .ok (.aload_n 0, 1) := by decide +kernel
theorem dL_act_112 : decode cL_act 112 = .ok (.iload_n 3, 1) := by decide +kernel
theorem dL_act_113 : decode cL_act 113 = .ok (.iload 6, 2) := by decide +kernel
theorem dL_act_115 : decode cL_act 115 = .ok (.invokevirtual 157, 3) := by decide +kernel
theorem dL_act_118 : decode cL_act 118 = .ok (.iconst 1, 1) := by decide +kernel
theorem dL_act_119 : decode cL_act 119 = .ok (.if_icmp .ne 35, 3) := by decide +kernel
theorem dL_act_122 : decode cL_act 122 = .ok (.aload_n 0, 1) := by decide +kernel
theorem dL_act_123 : decode cL_act 123 = .ok (.iload_n 3, 1) := by decide +kernel
theorem dL_act_124 : decode cL_act 124 = .ok (.iload 6, 2) := by decide +kernel
theorem dL_act_126 : decode cL_act 126 = .ok (.iload_n 3, 1) := by decide +kernel
theorem dL_act_127 : decode cL_act 127 = .ok (.invokevirtual 137, 3) := by decide +kernel
theorem dL_act_130 : decode cL_act 130 = .ok (.iload 7, 2) := by decide +kernel
theorem dL_act_132 : decode cL_act 132 = .ok (.iconst 1, 1) := by decide +kernel
theorem dL_act_133 : decode cL_act 133 = .ok (.iadd, 1) := by decide +kernel
theorem dL_act_134 : decode cL_act 134 = .ok (.if_icmp .ne 20, 3) := by decide +kernel
theorem dL_act_137 : decode cL_act 137 = .ok (.aload_n 0, 1) := by decide +kernel
theorem dL_act_138 : decode cL_act 138 = .ok (.iload_n 3, 1) := by decide +kernel
theorem dL_act_139 : decode cL_act 139 = .ok (.iload_n 3, 1) := by decide +kernel
theorem dL_act_140 : decode cL_act 140 = .ok (.invokevirtual 125, 3) := by decide +kernel
theorem dL_act_143 : decode cL_act 143 = .ok (.iload 7, 2) := by decide +kernel
theorem dL_act_145 : decode cL_act 145 = .ok (.iconst 1, 1) := by decide +kernel
theorem dL_act_146 : decode cL_act 146 = .ok (.iadd, 1) := by decide +kernel
theorem dL_act_147 : decode cL_act 147 = .ok (.if_icmp .ne 7, 3) := by decide +kernel
theorem dL_act_150 : decode cL_act 150 = .ok (.iconst 1, 1) := by decide +kernel
theorem dL_act_151 : decode cL_act 151 = .ok (.goto 4, 3) := by decide +kernel
theorem dL_act_154 : decode cL_act 154 = .ok (.iconst 0, 1) := by decide +kernel
theorem dL_act_155 : decode cL_act 155 = .ok (.ireturn, 1) := by decide +kernel
theorem dL_act_156 : decode cL_act 156 = .ok (.aload_n 1, 1) := by decide +kernel
theorem dL_act_157 : decode cL_act 157 = .ok (.invokestatic 91, 3) := by decide +kernel
theorem dL_act_160 : decode cL_act 160 = .ok (.iconst 5, 1) := by decide +kernel
theorem dL_act_161 : decode cL_act 161 = .ok (.irem, 1) := by decide +kernel
theorem dL_act_162 : decode cL_act 162 = .ok (.istore 8, 2) := by decide +kernel
theorem dL_act_164 : decode cL_act 164 = .ok (.aload_n 0, 1) := by decide +kernel
theorem dL_act_165 : decode cL_act 165 = .ok (.iload_n 3, 1) := by decide +kernel
theorem dL_act_166 : decode cL_act 166 = .ok (.iload 8, 2) := by decide +kernel
theorem dL_act_168 : decode cL_act 168 = .ok (.invokevirtual 157, 3) := by decide +kernel
theorem dL_act_171 : decode cL_act 171 = .ok (.istore 9, 2) := by decide +kernel
theorem dL_act_173 : decode cL_act 173 = .ok (.aload_n 0, 1) := by decide +kernel
theorem dL_act_174 : decode cL_act 174 = .ok (.iload_n 3, 1) := by decide +kernel
theorem dL_act_175 : decode cL_act 175 = .ok (.iload 8, 2) := by decide +kernel
theorem dL_act_177 : decode cL_act 177 = .ok (.invokestatic 233, 3) := by decide +kernel
theorem dL_act_180 : decode cL_act 180 = .ok (.istore 10, 2) := by decide +kernel
theorem dL_act_182 : decode cL_act 182 = .ok (.iload 9, 2) := by decide +kernel
theorem dL_act_184 : decode cL_act 184 = .ok (.ifCond .le 28, 3) := by decide +kernel
theorem dL_act_187 : decode cL_act 187 = .ok (.iload 10, 2) := by decide +kernel
theorem dL_act_189 : decode cL_act 189 = .ok (.iload 9, 2) := by decide +kernel
theorem dL_act_191 : decode cL_act 191 = .ok (.if_icmp .ne 17, 3) := by decide +kernel
theorem dL_act_194 : decode cL_act 194 = .ok (.aload_n 0, 1) := by decide +kernel
theorem dL_act_195 : decode cL_act 195 = .ok (.iload_n 3, 1) := by decide +kernel
theorem dL_act_196 : decode cL_act 196 = .ok (.iload 8, 2) := by decide +kernel
theorem dL_act_198 : decode cL_act 198 = .ok (.invokevirtual 160, 3) := by decide +kernel
theorem dL_act_201 : decode cL_act 201 = .ok (.ifCond .ne 7, 3) := by decide +kernel
theorem dL_act_204 : decode cL_act 204 = .ok (.iconst 1, 1) := by decide +kernel
theorem dL_act_205 : decode cL_act 205 = .ok (.goto 29, 3) := by decide +kernel
theorem dL_act_208 : decode cL_act 208 = .ok (.iconst 0, 1) := by decide +kernel
theorem dL_act_209 : decode cL_act 209 = .ok (.goto 25, 3) := by decide +kernel
theorem dL_act_212 : decode cL_act 212 = .ok (.iload 10, 2) := by decide +kernel
theorem dL_act_214 : decode cL_act 214 = .ok (.bipush (-3), 2) := by decide +kernel
theorem dL_act_216 : decode cL_act 216 = .ok (.if_icmp .ne 17, 3) := by decide +kernel
theorem dL_act_219 : decode cL_act 219 = .ok (.aload_n 0, 1) := by decide +kernel
theorem dL_act_220 : decode cL_act 220 = .ok (.iload_n 3, 1) := by decide +kernel
theorem dL_act_221 : decode cL_act 221 = .ok (.bipush 15, 2) := by decide +kernel
theorem dL_act_223 : decode cL_act 223 = .ok (.invokestatic 230, 3) := by decide +kernel
theorem dL_act_226 : decode cL_act 226 = .ok (.ifCond .le 7, 3) := by decide +kernel
theorem dL_act_229 : decode cL_act 229 = .ok (.iconst 1, 1) := by decide +kernel
theorem dL_act_230 : decode cL_act 230 = .ok (.goto 4, 3) := by decide +kernel
theorem dL_act_233 : decode cL_act 233 = .ok (.iconst 0, 1) := by decide +kernel
theorem dL_act_234 : decode cL_act 234 = .ok (.ireturn, 1) := by decide +kernel
theorem dL_act_235 : decode cL_act 235 = .ok (.aload_n 0, 1) := by decide +kernel
theorem dL_act_236 : decode cL_act 236 = .ok (.invokevirtual 128, 3) := by decide +kernel
theorem dL_act_239 : decode cL_act 239 = .ok (.ifCond .ne 31, 3) := by decide +kernel
theorem dL_act_242 : decode cL_act 242 = .ok (.aload_n 0, 1) := by decide +kernel
theorem dL_act_243 : decode cL_act 243 = .ok (.iload_n 3, 1) := by decide +kernel
theorem dL_act_244 : decode cL_act 244 = .ok (.iconst 0, 1) := by decide +kernel
theorem dL_act_245 : decode cL_act 245 = .ok (.iconst 1, 1) := by decide +kernel
theorem dL_act_246 : decode cL_act 246 = .ok (.invokestatic 236, 3) := by decide +kernel
theorem dL_act_249 : decode cL_act 249 = .ok (.ldc 47, 2) := by decide +kernel
theorem dL_act_251 : decode cL_act 251 = .ok (.if_icmp .ne 17, 3) := by decide +kernel
theorem dL_act_254 : decode cL_act 254 = .ok (.aload_n 0, 1) := by decide +kernel
theorem dL_act_255 : decode cL_act 255 = .ok (.iload_n 3, 1) := by decide +kernel
theorem dL_act_256 : decode cL_act 256 = .ok (.bipush 14, 2) := by decide +kernel
theorem dL_act_258 : decode cL_act 258 = .ok (.invokestatic 230, 3) := by decide +kernel
theorem dL_act_261 : decode cL_act 261 = .ok (.ifCond .le 7, 3) := by decide +kernel
theorem dL_act_264 : decode cL_act 264 = .ok (.iconst 1, 1) := by decide +kernel
theorem dL_act_265 : decode cL_act 265 = .ok (.goto 4, 3) := by decide +kernel
theorem dL_act_268 : decode cL_act 268 = .ok (.iconst 0, 1) := by decide +kernel
theorem dL_act_269 : decode cL_act 269 = .ok (.ireturn, 1) := by decide +kernel
theorem dL_act_270 : decode cL_act 270 = .ok (.aload_n 0, 1) := by decide +kernel
theorem dL_act_271 : decode cL_act 271 = .ok (.iload_n 3, 1) := by decide +kernel
theorem dL_act_272 : decode cL_act 272 = .ok (.iconst 0, 1) := by decide +kernel
theorem dL_act_273 : decode cL_act 273 = .ok (.invokevirtual 154, 3) := by decide +kernel
theorem dL_act_276 : decode cL_act 276 = .ok (.istore 11, 2) := by decide +kernel
theorem dL_act_278 : decode cL_act 278 = .ok (.iconst 1, 1) := by decide +kernel
theorem dL_act_279 : decode cL_act 279 = .ok (.aload_n 1, 1) := by decide +kernel
theorem dL_act_280 : decode cL_act 280 = .ok (.invokestatic 91, 3) := by decide +kernel
theorem dL_act_283 : decode cL_act 283 = .ok (.bipush 99, 2) := by decide +kernel
theorem dL_act_285 : decode cL_act 285 = .ok (.irem, 1) := by decide +kernel
theorem dL_act_286 : decode cL_act 286 = .ok (.iadd, 1) := by decide +kernel
theorem dL_act_287 : decode cL_act 287 = .ok (.istore 12, 2) := by decide +kernel
theorem dL_act_289 : decode cL_act 289 = .ok (.aload_n 0, 1) := by decide +kernel
theorem dL_act_290 : decode cL_act 290 = .ok (.iload_n 3, 1) := by decide +kernel
theorem dL_act_291 : decode cL_act 291 = .ok (.iconst 0, 1) := by decide +kernel
theorem dL_act_292 : decode cL_act 292 = .ok (.iload 12, 2) := by decide +kernel
theorem dL_act_294 : decode cL_act 294 = .ok (.invokestatic 236, 3) := by decide +kernel
theorem dL_act_297 : decode cL_act 297 = .ok (.iload 11, 2) := by decide +kernel
theorem dL_act_299 : decode cL_act 299 = .ok (.iload 12, 2) := by decide +kernel
theorem dL_act_301 : decode cL_act 301 = .ok (.iadd, 1) := by decide +kernel
theorem dL_act_302 : decode cL_act 302 = .ok (.if_icmp .ne 24, 3) := by decide +kernel
theorem dL_act_305 : decode cL_act 305 = .ok (.aload_n 0, 1) := by decide +kernel
theorem dL_act_306 : decode cL_act 306 = .ok (.iload_n 3, 1) := by decide +kernel
theorem dL_act_307 : decode cL_act 307 = .ok (.iconst 0, 1) := by decide +kernel
theorem dL_act_308 : decode cL_act 308 = .ok (.iconst 2, 1) := by decide +kernel
theorem dL_act_309 : decode cL_act 309 = .ok (.invokestatic 240, 3) := by decide +kernel
theorem dL_act_312 : decode cL_act 312 = .ok (.iload 11, 2) := by decide +kernel
theorem dL_act_314 : decode cL_act 314 = .ok (.iload 12, 2) := by decide +kernel
theorem dL_act_316 : decode cL_act 316 = .ok (.iadd, 1) := by decide +kernel
theorem dL_act_317 : decode cL_act 317 = .ok (.iconst 2, 1) := by decide +kernel
theorem dL_act_318 : decode cL_act 318 = .ok (.isub, 1) := by decide +kernel
theorem dL_act_319 : decode cL_act 319 = .ok (.if_icmp .ne 7, 3) := by decide +kernel
theorem dL_act_322 : decode cL_act 322 = .ok (.iconst 1, 1) := by decide +kernel
theorem dL_act_323 : decode cL_act 323 = .ok (.goto 4, 3) := by decide +kernel
theorem dL_act_326 : decode cL_act 326 = .ok (.iconst 0, 1) := by decide +kernel
theorem dL_act_327 : decode cL_act 327 = .ok (.ireturn, 1) := by decide +kernel
theorem dL_act_328 : decode cL_act 328 = .ok (.aload_n 0, 1) := by decide +kernel
theorem dL_act_329 : decode cL_act 329 = .ok (.invokevirtual 140, 3) := by decide +kernel
theorem dL_act_332 : decode cL_act 332 = .ok (.ifCond .ne 31, 3) := by decide +kernel
theorem dL_act_335 : decode cL_act 335 = .ok (.aload_n 0, 1) := by decide +kernel
theorem dL_act_336 : decode cL_act 336 = .ok (.iload_n 3, 1) := by decide +kernel
theorem dL_act_337 : decode cL_act 337 = .ok (.iconst 0, 1) := by decide +kernel
theorem dL_act_338 : decode cL_act 338 = .ok (.iconst 1, 1) := by decide +kernel
theorem dL_act_339 : decode cL_act 339 = .ok (.invokestatic 243, 3) := by decide +kernel
theorem dL_act_342 : decode cL_act 342 = .ok (.bipush (-5), 2) := by decide +kernel
theorem dL_act_344 : decode cL_act 344 = .ok (.if_icmp .ne 17, 3) := by decide +kernel
theorem dL_act_347 : decode cL_act 347 = .ok (.aload_n 0, 1) := by decide +kernel
theorem dL_act_348 : decode cL_act 348 = .ok (.iload_n 3, 1) := by decide +kernel
theorem dL_act_349 : decode cL_act 349 = .ok (.bipush 13, 2) := by decide +kernel
theorem dL_act_351 : decode cL_act 351 = .ok (.invokestatic 230, 3) := by decide +kernel
theorem dL_act_354 : decode cL_act 354 = .ok (.ifCond .le 7, 3) := by decide +kernel
theorem dL_act_357 : decode cL_act 357 = .ok (.iconst 1, 1) := by decide +kernel
theorem dL_act_358 : decode cL_act 358 = .ok (.goto 4, 3) := by decide +kernel
theorem dL_act_361 : decode cL_act 361 = .ok (.iconst 0, 1) := by decide +kernel
theorem dL_act_362 : decode cL_act 362 = .ok (.ireturn, 1) := by decide +kernel
theorem dL_act_363 : decode cL_act 363 = .ok (.aload_n 0, 1) := by decide +kernel
theorem dL_act_364 : decode cL_act 364 = .ok (.iload_n 3, 1) := by decide +kernel
theorem dL_act_365 : decode cL_act 365 = .ok (.iconst 0, 1) := by decide +kernel
theorem dL_act_366 : decode cL_act 366 = .ok (.invokevirtual 171, 3) := by decide +kernel
theorem dL_act_369 : decode cL_act 369 = .ok (.istore 13, 2) := by decide +kernel
theorem dL_act_371 : decode cL_act 371 = .ok (.aload_n 1, 1) := by decide +kernel
theorem dL_act_372 : decode cL_act 372 = .ok (.invokestatic 91, 3) := by decide +kernel
theorem dL_act_375 : decode cL_act 375 = .ok (.bipush 100, 2) := by decide +kernel
theorem dL_act_377 : decode cL_act 377 = .ok (.irem, 1) := by decide +kernel
theorem dL_act_378 : decode cL_act 378 = .ok (.istore 14, 2) := by decide +kernel
theorem dL_act_380 : decode cL_act 380 = .ok (.aload_n 0, 1) := by decide +kernel
theorem dL_act_381 : decode cL_act 381 = .ok (.iload_n 3, 1) := by decide +kernel
theorem dL_act_382 : decode cL_act 382 = .ok (.iconst 0, 1) := by decide +kernel
theorem dL_act_383 : decode cL_act 383 = .ok (.iload 14, 2) := by decide +kernel
theorem dL_act_385 : decode cL_act 385 = .ok (.invokestatic 243, 3) := by decide +kernel
theorem dL_act_388 : decode cL_act 388 = .ok (.iload 13, 2) := by decide +kernel
theorem dL_act_390 : decode cL_act 390 = .ok (.if_icmp .ne 28, 3) := by decide +kernel
theorem dL_act_393 : decode cL_act 393 = .ok (.aload_n 0, 1) := by decide +kernel
theorem dL_act_394 : decode cL_act 394 = .ok (.iload_n 3, 1) := by decide +kernel
theorem dL_act_395 : decode cL_act 395 = .ok (.iconst 0, 1) := by decide +kernel
theorem dL_act_396 : decode cL_act 396 = .ok (.invokevirtual 171, 3) := by decide +kernel
theorem dL_act_399 : decode cL_act 399 = .ok (.iconst 1, 1) := by decide +kernel
theorem dL_act_400 : decode cL_act 400 = .ok (.if_icmp .ne 18, 3) := by decide +kernel
theorem dL_act_403 : decode cL_act 403 = .ok (.aload_n 0, 1) := by decide +kernel
theorem dL_act_404 : decode cL_act 404 = .ok (.iload_n 3, 1) := by decide +kernel
theorem dL_act_405 : decode cL_act 405 = .ok (.iconst 0, 1) := by decide +kernel
theorem dL_act_406 : decode cL_act 406 = .ok (.invokevirtual 174, 3) := by decide +kernel
theorem dL_act_409 : decode cL_act 409 = .ok (.iload 14, 2) := by decide +kernel
theorem dL_act_411 : decode cL_act 411 = .ok (.if_icmp .ne 7, 3) := by decide +kernel
theorem dL_act_414 : decode cL_act 414 = .ok (.iconst 1, 1) := by decide +kernel
theorem dL_act_415 : decode cL_act 415 = .ok (.goto 4, 3) := by decide +kernel
theorem dL_act_418 : decode cL_act 418 = .ok (.iconst 0, 1) := by decide +kernel
theorem dL_act_419 : decode cL_act 419 = .ok (.ireturn, 1) := by decide +kernel
theorem dL_act_420 : decode cL_act 420 = .ok (.aload_n 0, 1) := by decide +kernel
theorem dL_act_421 : decode cL_act 421 = .ok (.iload_n 3, 1) := by decide +kernel
theorem dL_act_422 : decode cL_act 422 = .ok (.invokestatic 246, 3) := by decide +kernel
theorem dL_act_425 : decode cL_act 425 = .ok (.istore 15, 2) := by decide +kernel
theorem dL_act_427 : decode cL_act 427 = .ok (.iload 5, 2) := by decide +kernel
theorem dL_act_429 : decode cL_act 429 = .ok (.bipush 6, 2) := by decide +kernel
theorem dL_act_431 : decode cL_act 431 = .ok (.if_icmp .ne 28, 3) := by decide +kernel
theorem dL_act_434 : decode cL_act 434 = .ok (.iload 15, 2) := by decide +kernel
theorem dL_act_436 : decode cL_act 436 = .ok (.bipush (-3), 2) := by decide +kernel
theorem dL_act_438 : decode cL_act 438 = .ok (.if_icmp .ne 17, 3) := by decide +kernel
theorem dL_act_441 : decode cL_act 441 = .ok (.aload_n 0, 1) := by decide +kernel
theorem dL_act_442 : decode cL_act 442 = .ok (.iload_n 3, 1) := by decide +kernel
theorem dL_act_443 : decode cL_act 443 = .ok (.bipush 12, 2) := by decide +kernel
theorem dL_act_445 : decode cL_act 445 = .ok (.invokestatic 230, 3) := by decide +kernel
theorem dL_act_448 : decode cL_act 448 = .ok (.ifCond .le 7, 3) := by decide +kernel
theorem dL_act_451 : decode cL_act 451 = .ok (.iconst 1, 1) := by decide +kernel
theorem dL_act_452 : decode cL_act 452 = .ok (.goto 39, 3) := by decide +kernel
theorem dL_act_455 : decode cL_act 455 = .ok (.iconst 0, 1) := by decide +kernel
theorem dL_act_456 : decode cL_act 456 = .ok (.goto 35, 3) := by decide +kernel
theorem dL_act_459 : decode cL_act 459 = .ok (.iload 15, 2) := by decide +kernel
theorem dL_act_461 : decode cL_act 461 = .ok (.iload 5, 2) := by decide +kernel
theorem dL_act_463 : decode cL_act 463 = .ok (.if_icmp .ne 27, 3) := by decide +kernel
theorem dL_act_466 : decode cL_act 466 = .ok (.aload_n 0, 1) := by decide +kernel
theorem dL_act_467 : decode cL_act 467 = .ok (.iload 15, 2) := by decide +kernel
theorem dL_act_469 : decode cL_act 469 = .ok (.invokevirtual 146, 3) := by decide +kernel
theorem dL_act_472 : decode cL_act 472 = .ok (.iload_n 3, 1) := by decide +kernel
theorem dL_act_473 : decode cL_act 473 = .ok (.if_icmp .ne 17, 3) := by decide +kernel
theorem dL_act_476 : decode cL_act 476 = .ok (.aload_n 0, 1) := by decide +kernel
theorem dL_act_477 : decode cL_act 477 = .ok (.iload 15, 2) := by decide +kernel
theorem dL_act_479 : decode cL_act 479 = .ok (.iload_n 3, 1) := by decide +kernel
theorem dL_act_480 : decode cL_act 480 = .ok (.invokevirtual 151, 3) := by decide +kernel
theorem dL_act_483 : decode cL_act 483 = .ok (.ifCond .ne 7, 3) := by decide +kernel
theorem dL_act_486 : decode cL_act 486 = .ok (.iconst 1, 1) := by decide +kernel
theorem dL_act_487 : decode cL_act 487 = .ok (.goto 4, 3) := by decide +kernel
theorem dL_act_490 : decode cL_act 490 = .ok (.iconst 0, 1) := by decide +kernel
theorem dL_act_491 : decode cL_act 491 = .ok (.ireturn, 1) := by decide +kernel
theorem dL_act_492 : decode cL_act 492 = .ok (.aload_n 1, 1) := by decide +kernel
theorem dL_act_493 : decode cL_act 493 = .ok (.invokestatic 91, 3) := by decide +kernel
theorem dL_act_496 : decode cL_act 496 = .ok (.bipush 6, 2) := by decide +kernel
theorem dL_act_498 : decode cL_act 498 = .ok (.irem, 1) := by decide +kernel
theorem dL_act_499 : decode cL_act 499 = .ok (.istore 16, 2) := by decide +kernel
theorem dL_act_501 : decode cL_act 501 = .ok (.iload 16, 2) := by decide +kernel
theorem dL_act_503 : decode cL_act 503 = .ok (.iload 5, 2) := by decide +kernel
theorem dL_act_505 : decode cL_act 505 = .ok (.if_icmp .ge 17, 3) := by decide +kernel
theorem dL_act_508 : decode cL_act 508 = .ok (.aload_n 0, 1) := by decide +kernel
theorem dL_act_509 : decode cL_act 509 = .ok (.iload 16, 2) := by decide +kernel
theorem dL_act_511 : decode cL_act 511 = .ok (.iload_n 3, 1) := by decide +kernel
theorem dL_act_512 : decode cL_act 512 = .ok (.invokevirtual 151, 3) := by decide +kernel
