/-! what each instruction decodes to, as printed -/
theorem dX5_init_0 : decode cX5_init 0 = .ok (.aload_n 0, 1) := by decide +kernel
theorem dX5_init_1 : decode cX5_init 1 = .ok (.invokespecial 1, 3) := by decide +kernel
theorem dX5_init_4 : decode cX5_init 4 = .ok (.aload_n 0, 1) := by decide +kernel
theorem dX5_init_5 : decode cX5_init 5 = .ok (.bipush 72, 2) := by decide +kernel
theorem dX5_init_7 : decode cX5_init 7 = .ok (.newarray .int, 2) := by decide +kernel
theorem dX5_init_9 : decode cX5_init 9 = .ok (.dup, 1) := by decide +kernel
theorem dX5_init_10 : decode cX5_init 10 = .ok (.iconst 0, 1) := by decide +kernel
theorem dX5_init_11 : decode cX5_init 11 = .ok (.bipush 114, 2) := by decide +kernel
theorem dX5_init_13 : decode cX5_init 13 = .ok (.iastore, 1) := by decide +kernel
theorem dX5_init_14 : decode cX5_init 14 = .ok (.dup, 1) := by decide +kernel
theorem dX5_init_15 : decode cX5_init 15 = .ok (.iconst 1, 1) := by decide +kernel
theorem dX5_init_16 : decode cX5_init 16 = .ok (.bipush 101, 2) := by decide +kernel
theorem dX5_init_18 : decode cX5_init 18 = .ok (.iastore, 1) := by decide +kernel
theorem dX5_init_19 : decode cX5_init 19 = .ok (.dup, 1) := by decide +kernel
theorem dX5_init_20 : decode cX5_init 20 = .ok (.iconst 2, 1) := by decide +kernel
theorem dX5_init_21 : decode cX5_init 21 = .ok (.bipush 112, 2) := by decide +kernel
theorem dX5_init_23 : decode cX5_init 23 = .ok (.iastore, 1) := by decide +kernel
theorem dX5_init_24 : decode cX5_init 24 = .ok (.dup, 1) := by decide +kernel
theorem dX5_init_25 : decode cX5_init 25 = .ok (.iconst 3, 1) := by decide +kernel
theorem dX5_init_26 : decode cX5_init 26 = .ok (.bipush 108, 2) := by decide +kernel
theorem dX5_init_28 : decode cX5_init 28 = .ok (.iastore, 1) := by decide +kernel
theorem dX5_init_29 : decode cX5_init 29 = .ok (.dup, 1) := by decide +kernel
theorem dX5_init_30 : decode cX5_init 30 = .ok (.iconst 4, 1) := by decide +kernel
theorem dX5_init_31 : decode cX5_init 31 = .ok (.bipush 105, 2) := by decide +kernel
theorem dX5_init_33 : decode cX5_init 33 = .ok (.iastore, 1) := by decide +kernel
theorem dX5_init_34 : decode cX5_init 34 = .ok (.dup, 1) := by decide +kernel
theorem dX5_init_35 : decode cX5_init 35 = .ok (.iconst 5, 1) := by decide +kernel
theorem dX5_init_36 : decode cX5_init 36 = .ok (.bipush 99, 2) := by decide +kernel
theorem dX5_init_38 : decode cX5_init 38 = .ok (.iastore, 1) := by decide +kernel
theorem dX5_init_39 : decode cX5_init 39 = .ok (.dup, 1) := by decide +kernel
theorem dX5_init_40 : decode cX5_init 40 = .ok (.bipush 6, 2) := by decide +kernel
theorem dX5_init_42 : decode cX5_init 42 = .ok (.bipush 97, 2) := by decide +kernel
theorem dX5_init_44 : decode cX5_init 44 = .ok (.iastore, 1) := by decide +kernel
theorem dX5_init_45 : decode cX5_init 45 = .ok (.dup, 1) := by decide +kernel
theorem dX5_init_46 : decode cX5_init 46 = .ok (.bipush 7, 2) := by decide +kernel
theorem dX5_init_48 : decode cX5_init 48 = .ok (.bipush 115, 2) := by decide +kernel
theorem dX5_init_50 : decode cX5_init 50 = .ok (.iastore, 1) := by decide +kernel
theorem dX5_init_51 : decode cX5_init 51 = .ok (.dup, 1) := by decide +kernel
theorem dX5_init_52 : decode cX5_init 52 = .ok (.bipush 8, 2) := by decide +kernel
theorem dX5_init_54 : decode cX5_init 54 = .ok (.bipush 105, 2) := by decide +kernel
theorem dX5_init_56 : decode cX5_init 56 = .ok (.iastore, 1) := by decide +kernel
theorem dX5_init_57 : decode cX5_init 57 = .ok (.dup, 1) := by decide +kernel
theorem dX5_init_58 : decode cX5_init 58 = .ok (.bipush 9, 2) := by decide +kernel
theorem dX5_init_60 : decode cX5_init 60 = .ok (.bipush 110, 2) := by decide +kernel
theorem dX5_init_62 : decode cX5_init 62 = .ok (.iastore, 1) := by decide +kernel
theorem dX5_init_63 : decode cX5_init 63 = .ok (.dup, 1) := by decide +kernel
theorem dX5_init_64 : decode cX5_init 64 = .ok (.bipush 10, 2) := by decide +kernel
theorem dX5_init_66 : decode cX5_init 66 = .ok (.bipush 99, 2) := by decide +kernel
theorem dX5_init_68 : decode cX5_init 68 = .ok (.iastore, 1) := by decide +kernel
theorem dX5_init_69 : decode cX5_init 69 = .ok (.dup, 1) := by decide +kernel
theorem dX5_init_70 : decode cX5_init 70 = .ok (.bipush 11, 2) := by decide +kernel
theorem dX5_init_72 : decode cX5_init 72 = .ok (.iconst 0, 1) := by decide +kernel
theorem dX5_init_73 : decode cX5_init 73 = .ok (.iastore, 1) := by decide +kernel
theorem dX5_init_74 : decode cX5_init 74 = .ok (.dup, 1) := by decide +kernel
theorem dX5_init_75 : decode cX5_init 75 = .ok (.bipush 12, 2) := by decide +kernel
theorem dX5_init_77 : decode cX5_init 77 = .ok (.iconst 0, 1) := by decide +kernel
theorem dX5_init_78 : decode cX5_init 78 = .ok (.iastore, 1) := by decide +kernel
theorem dX5_init_79 : decode cX5_init 79 = .ok (.dup, 1) := by decide +kernel
theorem dX5_init_80 : decode cX5_init 80 = .ok (.bipush 13, 2) := by decide +kernel
theorem dX5_init_82 : decode cX5_init 82 = .ok (.iconst 0, 1) := by decide +kernel
theorem dX5_init_83 : decode cX5_init 83 = .ok (.iastore, 1) := by decide +kernel
theorem dX5_init_84 : decode cX5_init 84 = .ok (.dup, 1) := by decide +kernel
theorem dX5_init_85 : decode cX5_init 85 = .ok (.bipush 14, 2) := by decide +kernel
theorem dX5_init_87 : decode cX5_init 87 = .ok (.iconst 0, 1) := by decide +kernel
theorem dX5_init_88 : decode cX5_init 88 = .ok (.iastore, 1) := by decide +kernel
theorem dX5_init_89 : decode cX5_init 89 = .ok (.dup, 1) := by decide +kernel
theorem dX5_init_90 : decode cX5_init 90 = .ok (.bipush 15, 2) := by decide +kernel
theorem dX5_init_92 : decode cX5_init 92 = .ok (.iconst 0, 1) := by decide +kernel
theorem dX5_init_93 : decode cX5_init 93 = .ok (.iastore, 1) := by decide +kernel
theorem dX5_init_94 : decode cX5_init 94 = .ok (.dup, 1) := by decide +kernel
theorem dX5_init_95 : decode cX5_init 95 = .ok (.bipush 16, 2) := by decide +kernel
theorem dX5_init_97 : decode cX5_init 97 = .ok (.bipush 100, 2) := by decide +kernel
theorem dX5_init_99 : decode cX5_init 99 = .ok (.iastore, 1) := by decide +kernel
theorem dX5_init_100 : decode cX5_init 100 = .ok (.dup, 1) := by decide +kernel
theorem dX5_init_101 : decode cX5_init 101 = .ok (.bipush 17, 2) := by decide +kernel
theorem dX5_init_103 : decode cX5_init 103 = .ok (.bipush 101, 2) := by decide +kernel
theorem dX5_init_105 : decode cX5_init 105 = .ok (.iastore, 1) := by decide +kernel
theorem dX5_init_106 : decode cX5_init 106 = .ok (.dup, 1) := by decide +kernel
theorem dX5_init_107 : decode cX5_init 107 = .ok (.bipush 18, 2) := by decide +kernel
theorem dX5_init_109 : decode cX5_init 109 = .ok (.bipush 99, 2) := by decide +kernel
theorem dX5_init_111 : decode cX5_init 111 = .ok (.iastore, 1) := by decide +kernel
theorem dX5_init_112 : decode cX5_init 112 = .ok (.dup, 1) := by decide +kernel
theorem dX5_init_113 : decode cX5_init 113 = .ok (.bipush 19, 2) := by decide +kernel
theorem dX5_init_115 : decode cX5_init 115 = .ok (.iconst 0, 1) := by decide +kernel
theorem dX5_init_116 : decode cX5_init 116 = .ok (.iastore, 1) := by decide +kernel
theorem dX5_init_117 : decode cX5_init 117 = .ok (.dup, 1) := by decide +kernel
theorem dX5_init_118 : decode cX5_init 118 = .ok (.bipush 20, 2) := by decide +kernel
theorem dX5_init_120 : decode cX5_init 120 = .ok (.iconst 0, 1) := by decide +kernel
theorem dX5_init_121 : decode cX5_init 121 = .ok (.iastore, 1) := by decide +kernel
theorem dX5_init_122 : decode cX5_init 122 = .ok (.dup, 1) := by decide +kernel
theorem dX5_init_123 : decode cX5_init 123 = .ok (.bipush 21, 2) := by decide +kernel
theorem dX5_init_125 : decode cX5_init 125 = .ok (.iconst 0, 1) := by decide +kernel
theorem dX5_init_126 : decode cX5_init 126 = .ok (.iastore, 1) := by decide +kernel
theorem dX5_init_127 : decode cX5_init 127 = .ok (.dup, 1) := by decide +kernel
theorem dX5_init_128 : decode cX5_init 128 = .ok (.bipush 22, 2) := by decide +kernel
theorem dX5_init_130 : decode cX5_init 130 = .ok (.iconst 0, 1) := by decide +kernel
theorem dX5_init_131 : decode cX5_init 131 = .ok (.iastore, 1) := by decide +kernel
theorem dX5_init_132 : decode cX5_init 132 = .ok (.dup, 1) := by decide +kernel
theorem dX5_init_133 : decode cX5_init 133 = .ok (.bipush 23, 2) := by decide +kernel
theorem dX5_init_135 : decode cX5_init 135 = .ok (.iconst 0, 1) := by decide +kernel
theorem dX5_init_136 : decode cX5_init 136 = .ok (.iastore, 1) := by decide +kernel
theorem dX5_init_137 : decode cX5_init 137 = .ok (.dup, 1) := by decide +kernel
theorem dX5_init_138 : decode cX5_init 138 = .ok (.bipush 24, 2) := by decide +kernel
theorem dX5_init_140 : decode cX5_init 140 = .ok (.bipush 97, 2) := by decide +kernel
theorem dX5_init_142 : decode cX5_init 142 = .ok (.iastore, 1) := by decide +kernel
theorem dX5_init_143 : decode cX5_init 143 = .ok (.dup, 1) := by decide +kernel
theorem dX5_init_144 : decode cX5_init 144 = .ok (.bipush 25, 2) := by decide +kernel
theorem dX5_init_146 : decode cX5_init 146 = .ok (.bipush 100, 2) := by decide +kernel
theorem dX5_init_148 : decode cX5_init 148 = .ok (.iastore, 1) := by decide +kernel
theorem dX5_init_149 : decode cX5_init 149 = .ok (.dup, 1) := by decide +kernel
theorem dX5_init_150 : decode cX5_init 150 = .ok (.bipush 26, 2) := by decide +kernel
theorem dX5_init_152 : decode cX5_init 152 = .ok (.bipush 100, 2) := by decide +kernel
theorem dX5_init_154 : decode cX5_init 154 = .ok (.iastore, 1) := by decide +kernel
theorem dX5_init_155 : decode cX5_init 155 = .ok (.dup, 1) := by decide +kernel
theorem dX5_init_156 : decode cX5_init 156 = .ok (.bipush 27, 2) := by decide +kernel
theorem dX5_init_158 : decode cX5_init 158 = .ok (.iconst 0, 1) := by decide +kernel
theorem dX5_init_159 : decode cX5_init 159 = .ok (.iastore, 1) := by decide +kernel
theorem dX5_init_160 : decode cX5_init 160 = .ok (.dup, 1) := by decide +kernel
theorem dX5_init_161 : decode cX5_init 161 = .ok (.bipush 28, 2) := by decide +kernel
theorem dX5_init_163 : decode cX5_init 163 = .ok (.iconst 0, 1) := by decide +kernel
theorem dX5_init_164 : decode cX5_init 164 = .ok (.iastore, 1) := by decide +kernel
theorem dX5_init_165 : decode cX5_init 165 = .ok (.dup, 1) := by decide +kernel
theorem dX5_init_166 : decode cX5_init 166 = .ok (.bipush 29, 2) := by decide +kernel
theorem dX5_init_168 : decode cX5_init 168 = .ok (.iconst 0, 1) := by decide +kernel
theorem dX5_init_169 : decode cX5_init 169 = .ok (.iastore, 1) := by decide +kernel
theorem dX5_init_170 : decode cX5_init 170 = .ok (.dup, 1) := by decide +kernel
theorem dX5_init_171 : decode cX5_init 171 = .ok (.bipush 30, 2) := by decide +kernel
theorem dX5_init_173 : decode cX5_init 173 = .ok (.iconst 0, 1) := by decide +kernel
theorem dX5_init_174 : decode cX5_init 174 = .ok (.iastore, 1) := by decide +kernel
theorem dX5_init_175 : decode cX5_init 175 = .ok (.dup, 1) := by decide +kernel
theorem dX5_init_176 : decode cX5_init 176 = .ok (.bipush 31, 2) := by decide +kernel
theorem dX5_init_178 : decode cX5_init 178 = .ok (.iconst 0, 1) := by decide +kernel
theorem dX5_init_179 : decode cX5_init 179 = .ok (.iastore, 1) := by decide +kernel
theorem dX5_init_180 : decode cX5_init 180 = .ok (.dup, 1) := by decide +kernel
theorem dX5_init_181 : decode cX5_init 181 = .ok (.bipush 32, 2) := by decide +kernel
theorem dX5_init_183 : decode cX5_init 183 = .ok (.bipush 114, 2) := by decide +kernel
theorem dX5_init_185 : decode cX5_init 185 = .ok (.iastore, 1) := by decide +kernel
theorem dX5_init_186 : decode cX5_init 186 = .ok (.dup, 1) := by decide +kernel
theorem dX5_init_187 : decode cX5_init 187 = .ok (.bipush 33, 2) := by decide +kernel
theorem dX5_init_189 : decode cX5_init 189 = .ok (.bipush 101, 2) := by decide +kernel
theorem dX5_init_191 : decode cX5_init 191 = .ok (.iastore, 1) := by decide +kernel
theorem dX5_init_192 : decode cX5_init 192 = .ok (.dup, 1) := by decide +kernel
theorem dX5_init_193 : decode cX5_init 193 = .ok (.bipush 34, 2) := by decide +kernel
theorem dX5_init_195 : decode cX5_init 195 = .ok (.bipush 109, 2) := by decide +kernel
theorem dX5_init_197 : decode cX5_init 197 = .ok (.iastore, 1) := by decide +kernel
theorem dX5_init_198 : decode cX5_init 198 = .ok (.dup, 1) := by decide +kernel
theorem dX5_init_199 : decode cX5_init 199 = .ok (.bipush 35, 2) := by decide +kernel
theorem dX5_init_201 : decode cX5_init 201 = .ok (.bipush 111, 2) := by decide +kernel
theorem dX5_init_203 : decode cX5_init 203 = .ok (.iastore, 1) := by decide +kernel
theorem dX5_init_204 : decode cX5_init 204 = .ok (.dup, 1) := by decide +kernel
theorem dX5_init_205 : decode cX5_init 205 = .ok (.bipush 36, 2) := by decide +kernel
theorem dX5_init_207 : decode cX5_init 207 = .ok (.bipush 118, 2) := by decide +kernel
theorem dX5_init_209 : decode cX5_init 209 = .ok (.iastore, 1) := by decide +kernel
theorem dX5_init_210 : decode cX5_init 210 = .ok (.dup, 1) := by decide +kernel
theorem dX5_init_211 : decode cX5_init 211 = .ok (.bipush 37, 2) := by decide +kernel
theorem dX5_init_213 : decode cX5_init 213 = .ok (.bipush 101, 2) := by decide +kernel
theorem dX5_init_215 : decode cX5_init 215 = .ok (.iastore, 1) := by decide +kernel
theorem dX5_init_216 : decode cX5_init 216 = .ok (.dup, 1) := by decide +kernel
theorem dX5_init_217 : decode cX5_init 217 = .ok (.bipush 38, 2) := by decide +kernel
theorem dX5_init_219 : decode cX5_init 219 = .ok (.iconst 0, 1) := by decide +kernel
theorem dX5_init_220 : decode cX5_init 220 = .ok (.iastore, 1) := by decide +kernel
theorem dX5_init_221 : decode cX5_init 221 = .ok (.dup, 1) := by decide +kernel
theorem dX5_init_222 : decode cX5_init 222 = .ok (.bipush 39, 2) := by decide +kernel
theorem dX5_init_224 : decode cX5_init 224 = .ok (.iconst 0, 1) := by decide +kernel
theorem dX5_init_225 : decode cX5_init 225 = .ok (.iastore, 1) := by decide +kernel
theorem dX5_init_226 : decode cX5_init 226 = .ok (.dup, 1) := by decide +kernel
theorem dX5_init_227 : decode cX5_init 227 = .ok (.bipush 40, 2) := by decide +kernel
theorem dX5_init_229 : decode cX5_init 229 = .ok (.bipush 119, 2) := by decide +kernel
theorem dX5_init_231 : decode cX5_init 231 = .ok (.iastore, 1) := by decide +kernel
theorem dX5_init_232 : decode cX5_init 232 = .ok (.dup, 1) := by decide +kernel
theorem dX5_init_233 : decode cX5_init 233 = .ok (.bipush 41, 2) := by decide +kernel
theorem dX5_init_235 : decode cX5_init 235 = .ok (.bipush 114, 2) := by decide +kernel
theorem dX5_init_237 : decode cX5_init 237 = .ok (.iastore, 1) := by decide +kernel
theorem dX5_init_238 : decode cX5_init 238 = .ok (.dup, 1) := by decide +kernel
theorem dX5_init_239 : decode cX5_init 239 = .ok (.bipush 42, 2) := by decide +kernel
theorem dX5_init_241 : decode cX5_init 241 = .ok (.bipush 105, 2) := by decide +kernel
theorem dX5_init_243 : decode cX5_init 243 = .ok (.iastore, 1) := by decide +kernel
theorem dX5_init_244 : decode cX5_init 244 = .ok (.dup, 1) := by decide +kernel
theorem dX5_init_245 : decode cX5_init 245 = .ok (.bipush 43, 2) := by decide +kernel
theorem dX5_init_247 : decode cX5_init 247 = .ok (.bipush 116, 2) := by decide +kernel
theorem dX5_init_249 : decode cX5_init 249 = .ok (.iastore, 1) := by decide +kernel
theorem dX5_init_250 : decode cX5_init 250 = .ok (.dup, 1) := by decide +kernel
theorem dX5_init_251 : decode cX5_init 251 = .ok (.bipush 44, 2) := by decide +kernel
theorem dX5_init_253 : decode cX5_init 253 = .ok (.bipush 101, 2) := by decide +kernel
theorem dX5_init_255 : decode cX5_init 255 = .ok (.iastore, 1) := by decide +kernel
theorem dX5_init_256 : decode cX5_init 256 = .ok (.dup, 1) := by decide +kernel
theorem dX5_init_257 : decode cX5_init 257 = .ok (.bipush 45, 2) := by decide +kernel
theorem dX5_init_259 : decode cX5_init 259 = .ok (.iconst 0, 1) := by decide +kernel
theorem dX5_init_260 : decode cX5_init 260 = .ok (.iastore, 1) := by decide +kernel
theorem dX5_init_261 : decode cX5_init 261 = .ok (.dup, 1) := by decide +kernel
theorem dX5_init_262 : decode cX5_init 262 = .ok (.bipush 46, 2) := by decide +kernel
theorem dX5_init_264 : decode cX5_init 264 = .ok (.iconst 0, 1) := by decide +kernel
theorem dX5_init_265 : decode cX5_init 265 = .ok (.iastore, 1) := by decide +kernel
theorem dX5_init_266 : decode cX5_init 266 = .ok (.dup, 1) := by decide +kernel
theorem dX5_init_267 : decode cX5_init 267 = .ok (.bipush 47, 2) := by decide +kernel
theorem dX5_init_269 : decode cX5_init 269 = .ok (.iconst 0, 1) := by decide +kernel
theorem dX5_init_270 : decode cX5_init 270 = .ok (.iastore, 1) := by decide +kernel
theorem dX5_init_271 : decode cX5_init 271 = .ok (.dup, 1) := by decide +kernel
theorem dX5_init_272 : decode cX5_init 272 = .ok (.bipush 48, 2) := by decide +kernel
theorem dX5_init_274 : decode cX5_init 274 = .ok (.bipush 109, 2) := by decide +kernel
theorem dX5_init_276 : decode cX5_init 276 = .ok (.iastore, 1) := by decide +kernel
theorem dX5_init_277 : decode cX5_init 277 = .ok (.dup, 1) := by decide +kernel
theorem dX5_init_278 : decode cX5_init 278 = .ok (.bipush 49, 2) := by decide +kernel
theorem dX5_init_280 : decode cX5_init 280 = .ok (.bipush 101, 2) := by decide +kernel
theorem dX5_init_282 : decode cX5_init 282 = .ok (.iastore, 1) := by decide +kernel
theorem dX5_init_283 : decode cX5_init 283 = .ok (.dup, 1) := by decide +kernel
theorem dX5_init_284 : decode cX5_init 284 = .ok (.bipush 50, 2) := by decide +kernel
theorem dX5_init_286 : decode cX5_init 286 = .ok (.bipush 114, 2) := by decide +kernel
theorem dX5_init_288 : decode cX5_init 288 = .ok (.iastore, 1) := by decide +kernel
theorem dX5_init_289 : decode cX5_init 289 = .ok (.dup, 1) := by decide +kernel
theorem dX5_init_290 : decode cX5_init 290 = .ok (.bipush 51, 2) := by decide +kernel
theorem dX5_init_292 : decode cX5_init 292 = .ok (.bipush 103, 2) := by decide +kernel
theorem dX5_init_294 : decode cX5_init 294 = .ok (.iastore, 1) := by decide +kernel
theorem dX5_init_295 : decode cX5_init 295 = .ok (.dup, 1) := by decide +kernel
theorem dX5_init_296 : decode cX5_init 296 = .ok (.bipush 52, 2) := by decide +kernel
theorem dX5_init_298 : decode cX5_init 298 = .ok (.bipush 101, 2) := by decide +kernel
theorem dX5_init_300 : decode cX5_init 300 = .ok (.iastore, 1) := by decide +kernel
theorem dX5_init_301 : decode cX5_init 301 = .ok (.dup, 1) := by decide +kernel
theorem dX5_init_302 : decode cX5_init 302 = .ok (.bipush 53, 2) := by decide +kernel
theorem dX5_init_304 : decode cX5_init 304 = .ok (.iconst 0, 1) := by decide +kernel
theorem dX5_init_305 : decode cX5_init 305 = .ok (.iastore, 1) := by decide +kernel
theorem dX5_init_306 : decode cX5_init 306 = .ok (.dup, 1) := by decide +kernel
theorem dX5_init_307 : decode cX5_init 307 = .ok (.bipush 54, 2) := by decide +kernel
theorem dX5_init_309 : decode cX5_init 309 = .ok (.iconst 0, 1) := by decide +kernel
theorem dX5_init_310 : decode cX5_init 310 = .ok (.iastore, 1) := by decide +kernel
theorem dX5_init_311 : decode cX5_init 311 = .ok (.dup, 1) := by decide +kernel
theorem dX5_init_312 : decode cX5_init 312 = .ok (.bipush 55, 2) := by decide +kernel
theorem dX5_init_314 : decode cX5_init 314 = .ok (.iconst 0, 1) := by decide +kernel
theorem dX5_init_315 : decode cX5_init 315 = .ok (.iastore, 1) := by decide +kernel
theorem dX5_init_316 : decode cX5_init 316 = .ok (.dup, 1) := by decide +kernel
theorem dX5_init_317 : decode cX5_init 317 = .ok (.bipush 56, 2) := by decide +kernel
theorem dX5_init_319 : decode cX5_init 319 = .ok (.bipush 115, 2) := by decide +kernel
theorem dX5_init_321 : decode cX5_init 321 = .ok (.iastore, 1) := by decide +kernel
theorem dX5_init_322 : decode cX5_init 322 = .ok (.dup, 1) := by decide +kernel
theorem dX5_init_323 : decode cX5_init 323 = .ok (.bipush 57, 2) := by decide +kernel
theorem dX5_init_325 : decode cX5_init 325 = .ok (.bipush 101, 2) := by decide +kernel
theorem dX5_init_327 : decode cX5_init 327 = .ok (.iastore, 1) := by decide +kernel
theorem dX5_init_328 : decode cX5_init 328 = .ok (.dup, 1) := by decide +kernel
theorem dX5_init_329 : decode cX5_init 329 = .ok (.bipush 58, 2) := by decide +kernel
theorem dX5_init_331 : decode cX5_init 331 = .ok (.bipush 110, 2) := by decide +kernel
theorem dX5_init_333 : decode cX5_init 333 = .ok (.iastore, 1) := by decide +kernel
theorem dX5_init_334 : decode cX5_init 334 = .ok (.dup, 1) := by decide +kernel
theorem dX5_init_335 : decode cX5_init 335 = .ok (.bipush 59, 2) := by decide +kernel
theorem dX5_init_337 : decode cX5_init 337 = .ok (.bipush 100, 2) := by decide +kernel
theorem dX5_init_339 : decode cX5_init 339 = .ok (.iastore, 1) := by decide +kernel
theorem dX5_init_340 : decode cX5_init 340 = .ok (.dup, 1) := by decide +kernel
theorem dX5_init_341 : decode cX5_init 341 = .ok (.bipush 60, 2) := by decide +kernel
theorem dX5_init_343 : decode cX5_init 343 = .ok (.iconst 0, 1) := by decide +kernel
theorem dX5_init_344 : decode cX5_init 344 = .ok (.iastore, 1) := by decide +kernel
theorem dX5_init_345 : decode cX5_init 345 = .ok (.dup, 1) := by decide +kernel
theorem dX5_init_346 : decode cX5_init 346 = .ok (.bipush 61, 2) := by decide +kernel
theorem dX5_init_348 : decode cX5_init 348 = .ok (.iconst 0, 1) := by decide +kernel
theorem dX5_init_349 : decode cX5_init 349 = .ok (.iastore, 1) := by decide +kernel
theorem dX5_init_350 : decode cX5_init 350 = .ok (.dup, 1) := by decide +kernel
theorem dX5_init_351 : decode cX5_init 351 = .ok (.bipush 62, 2) := by decide +kernel
theorem dX5_init_353 : decode cX5_init 353 = .ok (.iconst 0, 1) := by decide +kernel
theorem dX5_init_354 : decode cX5_init 354 = .ok (.iastore, 1) := by decide +kernel
theorem dX5_init_355 : decode cX5_init 355 = .ok (.dup, 1) := by decide +kernel
theorem dX5_init_356 : decode cX5_init 356 = .ok (.bipush 63, 2) := by decide +kernel
theorem dX5_init_358 : decode cX5_init 358 = .ok (.iconst 0, 1) := by decide +kernel
theorem dX5_init_359 : decode cX5_init 359 = .ok (.iastore, 1) := by decide +kernel
theorem dX5_init_360 : decode cX5_init 360 = .ok (.dup, 1) := by decide +kernel
theorem dX5_init_361 : decode cX5_init 361 = .ok (.bipush 64, 2) := by decide +kernel
theorem dX5_init_363 : decode cX5_init 363 = .ok (.bipush 100, 2) := by decide +kernel
theorem dX5_init_365 : decode cX5_init 365 = .ok (.iastore, 1) := by decide +kernel
theorem dX5_init_366 : decode cX5_init 366 = .ok (.dup, 1) := by decide +kernel
theorem dX5_init_367 : decode cX5_init 367 = .ok (.bipush 65, 2) := by decide +kernel
theorem dX5_init_369 : decode cX5_init 369 = .ok (.bipush 101, 2) := by decide +kernel
theorem dX5_init_371 : decode cX5_init 371 = .ok (.iastore, 1) := by decide +kernel
theorem dX5_init_372 : decode cX5_init 372 = .ok (.dup, 1) := by decide +kernel
theorem dX5_init_373 : decode cX5_init 373 = .ok (.bipush 66, 2) := by decide +kernel
theorem dX5_init_375 : decode cX5_init 375 = .ok (.bipush 108, 2) := by decide +kernel
theorem dX5_init_377 : decode cX5_init 377 = .ok (.iastore, 1) := by decide +kernel
theorem dX5_init_378 : decode cX5_init 378 = .ok (.dup, 1) := by decide +kernel
theorem dX5_init_379 : decode cX5_init 379 = .ok (.bipush 67, 2) := by decide +kernel
theorem dX5_init_381 : decode cX5_init 381 = .ok (.bipush 105, 2) := by decide +kernel
theorem dX5_init_383 : decode cX5_init 383 = .ok (.iastore, 1) := by decide +kernel
theorem dX5_init_384 : decode cX5_init 384 = .ok (.dup, 1) := by decide +kernel
theorem dX5_init_385 : decode cX5_init 385 = .ok (.bipush 68, 2) := by decide +kernel
theorem dX5_init_387 : decode cX5_init 387 = .ok (.bipush 118, 2) := by decide +kernel
theorem dX5_init_389 : decode cX5_init 389 = .ok (.iastore, 1) := by decide +kernel
theorem dX5_init_390 : decode cX5_init 390 = .ok (.dup, 1) := by decide +kernel
theorem dX5_init_391 : decode cX5_init 391 = .ok (.bipush 69, 2) := by decide +kernel
theorem dX5_init_393 : decode cX5_init 393 = .ok (.bipush 101, 2) := by decide +kernel
theorem dX5_init_395 : decode cX5_init 395 = .ok (.iastore, 1) := by decide +kernel
theorem dX5_init_396 : decode cX5_init 396 = .ok (.dup, 1) := by decide +kernel
theorem dX5_init_397 : decode cX5_init 397 = .ok (.bipush 70, 2) := by decide +kernel
theorem dX5_init_399 : decode cX5_init 399 = .ok (.bipush 114, 2) := by decide +kernel
theorem dX5_init_401 : decode cX5_init 401 = .ok (.iastore, 1) := by decide +kernel
theorem dX5_init_402 : decode cX5_init 402 = .ok (.dup, 1) := by decide +kernel
theorem dX5_init_403 : decode cX5_init 403 = .ok (.bipush 71, 2) := by decide +kernel
theorem dX5_init_405 : decode cX5_init 405 = .ok (.iconst 0, 1) := by decide +kernel
theorem dX5_init_406 : decode cX5_init 406 = .ok (.iastore, 1) := by decide +kernel
theorem dX5_init_407 : decode cX5_init 407 = .ok (.putfield 7, 3) := by decide +kernel
theorem dX5_init_410 : decode cX5_init 410 = .ok (.aload_n 0, 1) := by decide +kernel
theorem dX5_init_411 : decode cX5_init 411 = .ok (.sipush 1594, 3) := by decide +kernel
theorem dX5_init_414 : decode cX5_init 414 = .ok (.newarray .int, 2) := by decide +kernel
theorem dX5_init_416 : decode cX5_init 416 = .ok (.putfield 13, 3) := by decide +kernel
theorem dX5_init_419 : decode cX5_init 419 = .ok (.aload_n 0, 1) := by decide +kernel
theorem dX5_init_420 : decode cX5_init 420 = .ok (.sipush 1330, 3) := by decide +kernel
theorem dX5_init_423 : decode cX5_init 423 = .ok (.newarray .int, 2) := by decide +kernel
theorem dX5_init_425 : decode cX5_init 425 = .ok (.putfield 16, 3) := by decide +kernel
theorem dX5_init_428 : decode cX5_init 428 = .ok (.aload_n 0, 1) := by decide +kernel
theorem dX5_init_429 : decode cX5_init 429 = .ok (.sipush 13300, 3) := by decide +kernel
theorem dX5_init_432 : decode cX5_init 432 = .ok (.newarray .int, 2) := by decide +kernel
theorem dX5_init_434 : decode cX5_init 434 = .ok (.putfield 19, 3) := by decide +kernel
theorem dX5_init_437 : decode cX5_init 437 = .ok (.aload_n 0, 1) := by decide +kernel
theorem dX5_init_438 : decode cX5_init 438 = .ok (.sipush 2660, 3) := by decide +kernel
theorem dX5_init_441 : decode cX5_init 441 = .ok (.newarray .int, 2) := by decide +kernel
theorem dX5_init_443 : decode cX5_init 443 = .ok (.putfield 22, 3) := by decide +kernel
theorem dX5_init_446 : decode cX5_init 446 = .ok (.aload_n 0, 1) := by decide +kernel
theorem dX5_init_447 : decode cX5_init 447 = .ok (.sipush 600, 3) := by decide +kernel
theorem dX5_init_450 : decode cX5_init 450 = .ok (.newarray .byte, 2) := by decide +kernel
theorem dX5_init_452 : decode cX5_init 452 = .ok (.putfield 25, 3) := by decide +kernel
theorem dX5_init_455 : decode cX5_init 455 = .ok (.aload_n 0, 1) := by decide +kernel
theorem dX5_init_456 : decode cX5_init 456 = .ok (.bipush 40, 2) := by decide +kernel
theorem dX5_init_458 : decode cX5_init 458 = .ok (.newarray .byte, 2) := by decide +kernel
theorem dX5_init_460 : decode cX5_init 460 = .ok (.putfield 29, 3) := by decide +kernel
theorem dX5_init_463 : decode cX5_init 463 = .ok (.aload_n 0, 1) := by decide +kernel
theorem dX5_init_464 : decode cX5_init 464 = .ok (.iconst (-1), 1) := by decide +kernel
theorem dX5_init_465 : decode cX5_init 465 = .ok (.putfield 32, 3) := by decide +kernel
theorem dX5_init_468 : decode cX5_init 468 = .ok (.aload_n 0, 1) := by decide +kernel
theorem dX5_init_469 : decode cX5_init 469 = .ok (.getfield 13, 3) := by decide +kernel
theorem dX5_init_472 : decode cX5_init 472 = .ok (.iconst 0, 1) := by decide +kernel
theorem dX5_init_473 : decode cX5_init 473 = .ok (.iconst 3, 1) := by decide +kernel
theorem dX5_init_474 : decode cX5_init 474 = .ok (.iastore, 1) := by decide +kernel
theorem dX5_init_475 : decode cX5_init 475 = .ok (.aload_n 0, 1) := by decide +kernel
theorem dX5_init_476 : decode cX5_init 476 = .ok (.getfield 13, 3) := by decide +kernel
theorem dX5_init_479 : decode cX5_init 479 = .ok (.iconst 1, 1) := by decide +kernel
theorem dX5_init_480 : decode cX5_init 480 = .ok (.iconst 2, 1) := by decide +kernel
theorem dX5_init_481 : decode cX5_init 481 = .ok (.iastore, 1) := by decide +kernel
theorem dX5_init_482 : decode cX5_init 482 = .ok (.aload_n 0, 1) := by decide +kernel
theorem dX5_init_483 : decode cX5_init 483 = .ok (.getfield 13, 3) := by decide +kernel
theorem dX5_init_486 : decode cX5_init 486 = .ok (.iconst 2, 1) := by decide +kernel
theorem dX5_init_487 : decode cX5_init 487 = .ok (.iconst 1, 1) := by decide +kernel
theorem dX5_init_488 : decode cX5_init 488 = .ok (.iastore, 1) := by decide +kernel
theorem dX5_init_489 : decode cX5_init 489 = .ok (.aload_n 0, 1) := by decide +kernel
theorem dX5_init_490 : decode cX5_init 490 = .ok (.getfield 13, 3) := by decide +kernel
theorem dX5_init_493 : decode cX5_init 493 = .ok (.iconst 0, 1) := by decide +kernel
theorem dX5_init_494 : decode cX5_init 494 = .ok (.iconst 0, 1) := by decide +kernel
theorem dX5_init_495 : decode cX5_init 495 = .ok (.iconst 0, 1) := by decide +kernel
theorem dX5_init_496 : decode cX5_init 496 = .ok (.invokestatic 36, 3) := by decide +kernel
theorem dX5_init_499 : decode cX5_init 499 = .ok (.iconst 5, 1) := by decide +kernel
theorem dX5_init_500 : decode cX5_init 500 = .ok (.iastore, 1) := by decide +kernel
theorem dX5_init_501 : decode cX5_init 501 = .ok (.aload_n 0, 1) := by decide +kernel
theorem dX5_init_502 : decode cX5_init 502 = .ok (.getfield 13, 3) := by decide +kernel
theorem dX5_init_505 : decode cX5_init 505 = .ok (.iconst 1, 1) := by decide +kernel
theorem dX5_init_506 : decode cX5_init 506 = .ok (.iconst 0, 1) := by decide +kernel
theorem dX5_init_507 : decode cX5_init 507 = .ok (.iconst 1, 1) := by decide +kernel
theorem dX5_init_508 : decode cX5_init 508 = .ok (.invokestatic 40, 3) := by decide +kernel
theorem dX5_init_511 : decode cX5_init 511 = .ok (.iconst 2, 1) := by decide +kernel
theorem dX5_init_512 : decode cX5_init 512 = .ok (.iastore, 1) := by decide +kernel
theorem dX5_init_513 : decode cX5_init 513 = .ok (.aload_n 0, 1) := by decide +kernel
theorem dX5_init_514 : decode cX5_init 514 = .ok (.iconst 0, 1) := by decide +kernel
theorem dX5_init_515 : decode cX5_init 515 = .ok (.iconst 0, 1) := by decide +kernel
theorem dX5_init_516 : decode cX5_init 516 = .ok (.invokevirtual 43, 3) := by decide +kernel
theorem dX5_init_519 : decode cX5_init 519 = .ok (.istore_n 1, 1) := by decide +kernel
theorem dX5_init_520 : decode cX5_init 520 = .ok (.aload_n 0, 1) := by decide +kernel
theorem dX5_init_521 : decode cX5_init 521 = .ok (.iconst 1, 1) := by decide +kernel
theorem dX5_init_522 : decode cX5_init 522 = .ok (.iconst 1, 1) := by decide +kernel
theorem dX5_init_523 : decode cX5_init 523 = .ok (.invokevirtual 43, 3) := by decide +kernel
theorem dX5_init_526 : decode cX5_init 526 = .ok (.istore_n 1, 1) := by decide +kernel
theorem dX5_init_527 : decode cX5_init 527 = .ok (.aload_n 0, 1) := by decide +kernel
theorem dX5_init_528 : decode cX5_init 528 = .ok (.iconst 0, 1) := by decide +kernel
theorem dX5_init_529 : decode cX5_init 529 = .ok (.invokevirtual 47, 3) := by decide +kernel
theorem dX5_init_532 : decode cX5_init 532 = .ok (.aload_n 0, 1) := by decide +kernel
theorem dX5_init_533 : decode cX5_init 533 = .ok (.iconst 1, 1) := by decide +kernel
theorem dX5_init_534 : decode cX5_init 534 = .ok (.iconst 0, 1) := by decide +kernel
theorem dX5_init_535 : decode cX5_init 535 = .ok (.invokevirtual 51, 3) := by decide +kernel
theorem dX5_init_538 : decode cX5_init 538 = .ok (.aload_n 0, 1) := by decide +kernel
theorem dX5_init_539 : decode cX5_init 539 = .ok (.iconst 1, 1) := by decide +kernel
theorem dX5_init_540 : decode cX5_init 540 = .ok (.iconst 0, 1) := by decide +kernel
theorem dX5_init_541 : decode cX5_init 541 = .ok (.invokevirtual 55, 3) := by decide +kernel
theorem dX5_init_544 : decode cX5_init 544 = .ok (.istore_n 2, 1) := by decide +kernel
theorem dX5_init_545 : decode cX5_init 545 = .ok (.aload_n 0, 1) := by decide +kernel
theorem dX5_init_546 : decode cX5_init 546 = .ok (.iconst 0, 1) := by decide +kernel
theorem dX5_init_547 : decode cX5_init 547 = .ok (.iconst 0, 1) := by decide +kernel
theorem dX5_init_548 : decode cX5_init 548 = .ok (.invokevirtual 43, 3) := by decide +kernel
theorem dX5_init_551 : decode cX5_init 551 = .ok (.istore_n 1, 1) := by decide +kernel
theorem dX5_init_552 : decode cX5_init 552 = .ok (.aload_n 0, 1) := by decide +kernel
theorem dX5_init_553 : decode cX5_init 553 = .ok (.iconst 0, 1) := by decide +kernel
theorem dX5_init_554 : decode cX5_init 554 = .ok (.iconst 0, 1) := by decide +kernel
theorem dX5_init_555 : decode cX5_init 555 = .ok (.bipush 7, 2) := by decide +kernel
theorem dX5_init_557 : decode cX5_init 557 = .ok (.invokevirtual 58, 3) := by decide +kernel
theorem dX5_init_560 : decode cX5_init 560 = .ok (.istore_n 2, 1) := by decide +kernel
theorem dX5_init_561 : decode cX5_init 561 = .ok (.aload_n 0, 1) := by decide +kernel
theorem dX5_init_562 : decode cX5_init 562 = .ok (.iconst 2, 1) := by decide +kernel
theorem dX5_init_563 : decode cX5_init 563 = .ok (.iconst 0, 1) := by decide +kernel
theorem dX5_init_564 : decode cX5_init 564 = .ok (.bipush 9, 2) := by decide +kernel
theorem dX5_init_566 : decode cX5_init 566 = .ok (.invokevirtual 58, 3) := by decide +kernel
theorem dX5_init_569 : decode cX5_init 569 = .ok (.istore_n 2, 1) := by decide +kernel
theorem dX5_init_570 : decode cX5_init 570 = .ok (.aload_n 0, 1) := by decide +kernel
theorem dX5_init_571 : decode cX5_init 571 = .ok (.iconst 2, 1) := by decide +kernel
theorem dX5_init_572 : decode cX5_init 572 = .ok (.iconst 2, 1) := by decide +kernel
theorem dX5_init_573 : decode cX5_init 573 = .ok (.invokevirtual 43, 3) := by decide +kernel
theorem dX5_init_576 : decode cX5_init 576 = .ok (.istore_n 1, 1) := by decide +kernel
theorem dX5_init_577 : decode cX5_init 577 = .ok (.return_, 1) := by decide +kernel
theorem dX5_thrown_0 : decode cX5_thrown 0 = .ok (.aload_n 0, 1) := by decide +kernel
theorem dX5_thrown_1 : decode cX5_thrown 1 = .ok (.getfield 61, 3) := by decide +kernel
theorem dX5_thrown_4 : decode cX5_thrown 4 = .ok (.ireturn, 1) := by decide +kernel
theorem dX5_refuse_0 : decode cX5_refuse 0 = .ok (.aload_n 0, 1) := by decide +kernel
theorem dX5_refuse_1 : decode cX5_refuse 1 = .ok (.iload_n 1, 1) := by decide +kernel
theorem dX5_refuse_2 : decode cX5_refuse 2 = .ok (.putfield 61, 3) := by decide +kernel
theorem dX5_refuse_5 : decode cX5_refuse 5 = .ok (.iconst 0, 1) := by decide +kernel
theorem dX5_refuse_6 : decode cX5_refuse 6 = .ok (.ireturn, 1) := by decide +kernel
theorem dX5_told_0 : decode cX5_told 0 = .ok (.aload_n 0, 1) := by decide +kernel
theorem dX5_told_1 : decode cX5_told 1 = .ok (.iconst 0, 1) := by decide +kernel
theorem dX5_told_2 : decode cX5_told 2 = .ok (.putfield 61, 3) := by decide +kernel
theorem dX5_told_5 : decode cX5_told 5 = .ok (.iload_n 1, 1) := by decide +kernel
theorem dX5_told_6 : decode cX5_told 6 = .ok (.ireturn, 1) := by decide +kernel
theorem dX5_says_0 : decode cX5_says 0 = .ok (.aload_n 0, 1) := by decide +kernel
theorem dX5_says_1 : decode cX5_says 1 = .ok (.iconst 0, 1) := by decide +kernel
theorem dX5_says_2 : decode cX5_says 2 = .ok (.putfield 61, 3) := by decide +kernel
theorem dX5_says_5 : decode cX5_says 5 = .ok (.iload_n 1, 1) := by decide +kernel
theorem dX5_says_6 : decode cX5_says 6 = .ok (.ireturn, 1) := by decide +kernel
theorem dX5_refuses_0 : decode cX5_refuses 0 = .ok (.aload_n 0, 1) := by decide +kernel
theorem dX5_refuses_1 : decode cX5_refuses 1 = .ok (.iconst 1, 1) := by decide +kernel
theorem dX5_refuses_2 : decode cX5_refuses 2 = .ok (.putfield 61, 3) := by decide +kernel
theorem dX5_refuses_5 : decode cX5_refuses 5 = .ok (.iconst 0, 1) := by decide +kernel
theorem dX5_refuses_6 : decode cX5_refuses 6 = .ok (.ireturn, 1) := by decide +kernel
theorem dX5_in_0 : decode cX5_in 0 = .ok (.iload_n 0, 1) := by decide +kernel
theorem dX5_in_1 : decode cX5_in 1 = .ok (.iload_n 1, 1) := by decide +kernel
theorem dX5_in_2 : decode cX5_in 2 = .ok (.if_icmp .lt 12, 3) := by decide +kernel
theorem dX5_in_5 : decode cX5_in 5 = .ok (.iload_n 0, 1) := by decide +kernel
theorem dX5_in_6 : decode cX5_in 6 = .ok (.iload_n 2, 1) := by decide +kernel
theorem dX5_in_7 : decode cX5_in 7 = .ok (.if_icmp .gt 7, 3) := by decide +kernel
theorem dX5_in_10 : decode cX5_in 10 = .ok (.iconst 1, 1) := by decide +kernel
theorem dX5_in_11 : decode cX5_in 11 = .ok (.goto 4, 3) := by decide +kernel
theorem dX5_in_14 : decode cX5_in 14 = .ok (.iconst 0, 1) := by decide +kernel
theorem dX5_in_15 : decode cX5_in 15 = .ok (.ireturn, 1) := by decide +kernel
theorem dX5_s_0 : decode cX5_s 0 = .ok (.bipush 10, 2) := by decide +kernel
theorem dX5_s_2 : decode cX5_s 2 = .ok (.sipush 132, 3) := by decide +kernel
theorem dX5_s_5 : decode cX5_s 5 = .ok (.iload_n 0, 1) := by decide +kernel
theorem dX5_s_6 : decode cX5_s 6 = .ok (.imul, 1) := by decide +kernel
theorem dX5_s_7 : decode cX5_s 7 = .ok (.iadd, 1) := by decide +kernel
theorem dX5_s_8 : decode cX5_s 8 = .ok (.ireturn, 1) := by decide +kernel
theorem dX5_version_0 : decode cX5_version 0 = .ok (.iload_n 0, 1) := by decide +kernel
theorem dX5_version_1 : decode cX5_version 1 = .ok (.invokestatic 64, 3) := by decide +kernel
theorem dX5_version_4 : decode cX5_version 4 = .ok (.iconst 0, 1) := by decide +kernel
theorem dX5_version_5 : decode cX5_version 5 = .ok (.iadd, 1) := by decide +kernel
theorem dX5_version_6 : decode cX5_version 6 = .ok (.iload_n 1, 1) := by decide +kernel
theorem dX5_version_7 : decode cX5_version 7 = .ok (.iadd, 1) := by decide +kernel
theorem dX5_version_8 : decode cX5_version 8 = .ok (.ireturn, 1) := by decide +kernel
theorem dX5_more_0 : decode cX5_more 0 = .ok (.iload_n 0, 1) := by decide +kernel
theorem dX5_more_1 : decode cX5_more 1 = .ok (.invokestatic 64, 3) := by decide +kernel
theorem dX5_more_4 : decode cX5_more 4 = .ok (.iconst 4, 1) := by decide +kernel
theorem dX5_more_5 : decode cX5_more 5 = .ok (.iadd, 1) := by decide +kernel
theorem dX5_more_6 : decode cX5_more 6 = .ok (.iconst 4, 1) := by decide +kernel
theorem dX5_more_7 : decode cX5_more 7 = .ok (.iload_n 1, 1) := by decide +kernel
theorem dX5_more_8 : decode cX5_more 8 = .ok (.imul, 1) := by decide +kernel
theorem dX5_more_9 : decode cX5_more 9 = .ok (.iadd, 1) := by decide +kernel
theorem dX5_more_10 : decode cX5_more 10 = .ok (.iload_n 2, 1) := by decide +kernel
theorem dX5_more_11 : decode cX5_more 11 = .ok (.iadd, 1) := by decide +kernel
theorem dX5_more_12 : decode cX5_more 12 = .ok (.ireturn, 1) := by decide +kernel
theorem dX5_less_0 : decode cX5_less 0 = .ok (.iload_n 0, 1) := by decide +kernel
theorem dX5_less_1 : decode cX5_less 1 = .ok (.invokestatic 64, 3) := by decide +kernel
theorem dX5_less_4 : decode cX5_less 4 = .ok (.bipush 20, 2) := by decide +kernel
theorem dX5_less_6 : decode cX5_less 6 = .ok (.iadd, 1) := by decide +kernel
theorem dX5_less_7 : decode cX5_less 7 = .ok (.iconst 4, 1) := by decide +kernel
theorem dX5_less_8 : decode cX5_less 8 = .ok (.iload_n 1, 1) := by decide +kernel
theorem dX5_less_9 : decode cX5_less 9 = .ok (.imul, 1) := by decide +kernel
theorem dX5_less_10 : decode cX5_less 10 = .ok (.iadd, 1) := by decide +kernel
theorem dX5_less_11 : decode cX5_less 11 = .ok (.iload_n 2, 1) := by decide +kernel
theorem dX5_less_12 : decode cX5_less 12 = .ok (.iadd, 1) := by decide +kernel
theorem dX5_less_13 : decode cX5_less 13 = .ok (.ireturn, 1) := by decide +kernel
theorem dX5_tag_0 : decode cX5_tag 0 = .ok (.iload_n 0, 1) := by decide +kernel
theorem dX5_tag_1 : decode cX5_tag 1 = .ok (.invokestatic 64, 3) := by decide +kernel
theorem dX5_tag_4 : decode cX5_tag 4 = .ok (.bipush 36, 2) := by decide +kernel
theorem dX5_tag_6 : decode cX5_tag 6 = .ok (.iadd, 1) := by decide +kernel
theorem dX5_tag_7 : decode cX5_tag 7 = .ok (.iconst 4, 1) := by decide +kernel
theorem dX5_tag_8 : decode cX5_tag 8 = .ok (.iload_n 1, 1) := by decide +kernel
theorem dX5_tag_9 : decode cX5_tag 9 = .ok (.imul, 1) := by decide +kernel
theorem dX5_tag_10 : decode cX5_tag 10 = .ok (.iadd, 1) := by decide +kernel
theorem dX5_tag_11 : decode cX5_tag 11 = .ok (.iload_n 2, 1) := by decide +kernel
theorem dX5_tag_12 : decode cX5_tag 12 = .ok (.iadd, 1) := by decide +kernel
theorem dX5_tag_13 : decode cX5_tag 13 = .ok (.ireturn, 1) := by decide +kernel
theorem dX5_dot_0 : decode cX5_dot 0 = .ok (.iload_n 0, 1) := by decide +kernel
theorem dX5_dot_1 : decode cX5_dot 1 = .ok (.invokestatic 64, 3) := by decide +kernel
theorem dX5_dot_4 : decode cX5_dot 4 = .ok (.bipush 100, 2) := by decide +kernel
theorem dX5_dot_6 : decode cX5_dot 6 = .ok (.iadd, 1) := by decide +kernel
theorem dX5_dot_7 : decode cX5_dot 7 = .ok (.iconst 4, 1) := by decide +kernel
theorem dX5_dot_8 : decode cX5_dot 8 = .ok (.iload_n 1, 1) := by decide +kernel
theorem dX5_dot_9 : decode cX5_dot 9 = .ok (.imul, 1) := by decide +kernel
theorem dX5_dot_10 : decode cX5_dot 10 = .ok (.iadd, 1) := by decide +kernel
theorem dX5_dot_11 : decode cX5_dot 11 = .ok (.iload_n 2, 1) := by decide +kernel
theorem dX5_dot_12 : decode cX5_dot 12 = .ok (.iadd, 1) := by decide +kernel
theorem dX5_dot_13 : decode cX5_dot 13 = .ok (.ireturn, 1) := by decide +kernel
theorem dX5_noted_0 : decode cX5_noted 0 = .ok (.iload_n 0, 1) := by decide +kernel
theorem dX5_noted_1 : decode cX5_noted 1 = .ok (.invokestatic 64, 3) := by decide +kernel
theorem dX5_noted_4 : decode cX5_noted 4 = .ok (.bipush 116, 2) := by decide +kernel
theorem dX5_noted_6 : decode cX5_noted 6 = .ok (.iadd, 1) := by decide +kernel
theorem dX5_noted_7 : decode cX5_noted 7 = .ok (.iconst 4, 1) := by decide +kernel
theorem dX5_noted_8 : decode cX5_noted 8 = .ok (.iload_n 1, 1) := by decide +kernel
theorem dX5_noted_9 : decode cX5_noted 9 = .ok (.imul, 1) := by decide +kernel
theorem dX5_noted_10 : decode cX5_noted 10 = .ok (.iadd, 1) := by decide +kernel
theorem dX5_noted_11 : decode cX5_noted 11 = .ok (.iload_n 2, 1) := by decide +kernel
theorem dX5_noted_12 : decode cX5_noted 12 = .ok (.iadd, 1) := by decide +kernel
theorem dX5_noted_13 : decode cX5_noted 13 = .ok (.ireturn, 1) := by decide +kernel
theorem dX5_isReplica_0 : decode cX5_isReplica 0 = .ok (.iload_n 1, 1) := by decide +kernel
theorem dX5_isReplica_1 : decode cX5_isReplica 1 = .ok (.iconst 0, 1) := by decide +kernel
theorem dX5_isReplica_2 : decode cX5_isReplica 2 = .ok (.aload_n 0, 1) := by decide +kernel
theorem dX5_isReplica_3 : decode cX5_isReplica 3 = .ok (.getfield 13, 3) := by decide +kernel
theorem dX5_isReplica_6 : decode cX5_isReplica 6 = .ok (.iconst 0, 1) := by decide +kernel
theorem dX5_isReplica_7 : decode cX5_isReplica 7 = .ok (.iaload, 1) := by decide +kernel
theorem dX5_isReplica_8 : decode cX5_isReplica 8 = .ok (.iconst 1, 1) := by decide +kernel
theorem dX5_isReplica_9 : decode cX5_isReplica 9 = .ok (.isub, 1) := by decide +kernel
theorem dX5_isReplica_10 : decode cX5_isReplica 10 = .ok (.invokestatic 68, 3) := by decide +kernel
theorem dX5_isReplica_13 : decode cX5_isReplica 13 = .ok (.ireturn, 1) := by decide +kernel
theorem dX5_isCounter_0 : decode cX5_isCounter 0 = .ok (.iload_n 1, 1) := by decide +kernel
theorem dX5_isCounter_1 : decode cX5_isCounter 1 = .ok (.iconst 0, 1) := by decide +kernel
theorem dX5_isCounter_2 : decode cX5_isCounter 2 = .ok (.aload_n 0, 1) := by decide +kernel
theorem dX5_isCounter_3 : decode cX5_isCounter 3 = .ok (.getfield 13, 3) := by decide +kernel
theorem dX5_isCounter_6 : decode cX5_isCounter 6 = .ok (.iconst 1, 1) := by decide +kernel
theorem dX5_isCounter_7 : decode cX5_isCounter 7 = .ok (.iaload, 1) := by decide +kernel
theorem dX5_isCounter_8 : decode cX5_isCounter 8 = .ok (.iconst 1, 1) := by decide +kernel
theorem dX5_isCounter_9 : decode cX5_isCounter 9 = .ok (.isub, 1) := by decide +kernel
theorem dX5_isCounter_10 : decode cX5_isCounter 10 = .ok (.invokestatic 68, 3) := by decide +kernel
theorem dX5_isCounter_13 : decode cX5_isCounter 13 = .ok (.ireturn, 1) := by decide +kernel
theorem dX5_isRegister_0 : decode cX5_isRegister 0 = .ok (.iload_n 1, 1) := by decide +kernel
theorem dX5_isRegister_1 : decode cX5_isRegister 1 = .ok (.iconst 0, 1) := by decide +kernel
theorem dX5_isRegister_2 : decode cX5_isRegister 2 = .ok (.aload_n 0, 1) := by decide +kernel
theorem dX5_isRegister_3 : decode cX5_isRegister 3 = .ok (.getfield 13, 3) := by decide +kernel
theorem dX5_isRegister_6 : decode cX5_isRegister 6 = .ok (.iconst 2, 1) := by decide +kernel
theorem dX5_isRegister_7 : decode cX5_isRegister 7 = .ok (.iaload, 1) := by decide +kernel
theorem dX5_isRegister_8 : decode cX5_isRegister 8 = .ok (.iconst 1, 1) := by decide +kernel
theorem dX5_isRegister_9 : decode cX5_isRegister 9 = .ok (.isub, 1) := by decide +kernel
theorem dX5_isRegister_10 : decode cX5_isRegister 10 = .ok (.invokestatic 68, 3) := by decide +kernel
theorem dX5_isRegister_13 : decode cX5_isRegister 13 = .ok (.ireturn, 1) := by decide +kernel
theorem dX5_isMessage_0 : decode cX5_isMessage 0 = .ok (.iload_n 1, 1) := by decide +kernel
theorem dX5_isMessage_1 : decode cX5_isMessage 1 = .ok (.iconst 0, 1) := by decide +kernel
theorem dX5_isMessage_2 : decode cX5_isMessage 2 = .ok (.aload_n 0, 1) := by decide +kernel
theorem dX5_isMessage_3 : decode cX5_isMessage 3 = .ok (.getfield 13, 3) := by decide +kernel
theorem dX5_isMessage_6 : decode cX5_isMessage 6 = .ok (.iconst 3, 1) := by decide +kernel
theorem dX5_isMessage_7 : decode cX5_isMessage 7 = .ok (.iaload, 1) := by decide +kernel
theorem dX5_isMessage_8 : decode cX5_isMessage 8 = .ok (.iconst 1, 1) := by decide +kernel
theorem dX5_isMessage_9 : decode cX5_isMessage 9 = .ok (.isub, 1) := by decide +kernel
theorem dX5_isMessage_10 : decode cX5_isMessage 10 = .ok (.invokestatic 68, 3) := by decide +kernel
theorem dX5_isMessage_13 : decode cX5_isMessage 13 = .ok (.ireturn, 1) := by decide +kernel
theorem dX5_isTag_0 : decode cX5_isTag 0 = .ok (.iload_n 0, 1) := by decide +kernel
theorem dX5_isTag_1 : decode cX5_isTag 1 = .ok (.iconst 0, 1) := by decide +kernel
theorem dX5_isTag_2 : decode cX5_isTag 2 = .ok (.bipush 15, 2) := by decide +kernel
theorem dX5_isTag_4 : decode cX5_isTag 4 = .ok (.invokestatic 68, 3) := by decide +kernel
theorem dX5_isTag_7 : decode cX5_isTag 7 = .ok (.ireturn, 1) := by decide +kernel
theorem dX5_creates_0 : decode cX5_creates 0 = .ok (.aload_n 0, 1) := by decide +kernel
theorem dX5_creates_1 : decode cX5_creates 1 = .ok (.getfield 13, 3) := by decide +kernel
theorem dX5_creates_4 : decode cX5_creates 4 = .ok (.iload_n 1, 1) := by decide +kernel
theorem dX5_creates_5 : decode cX5_creates 5 = .ok (.iload_n 1, 1) := by decide +kernel
theorem dX5_creates_6 : decode cX5_creates 6 = .ok (.invokestatic 72, 3) := by decide +kernel
theorem dX5_creates_9 : decode cX5_creates 9 = .ok (.dup2, 1) := by decide +kernel
theorem dX5_creates_10 : decode cX5_creates 10 = .ok (.iaload, 1) := by decide +kernel
theorem dX5_creates_11 : decode cX5_creates 11 = .ok (.iconst 1, 1) := by decide +kernel
theorem dX5_creates_12 : decode cX5_creates 12 = .ok (.iadd, 1) := by decide +kernel
theorem dX5_creates_13 : decode cX5_creates 13 = .ok (.iastore, 1) := by decide +kernel
theorem dX5_creates_14 : decode cX5_creates 14 = .ok (.aload_n 0, 1) := by decide +kernel
theorem dX5_creates_15 : decode cX5_creates 15 = .ok (.getfield 13, 3) := by decide +kernel
theorem dX5_creates_18 : decode cX5_creates 18 = .ok (.iload_n 1, 1) := by decide +kernel
theorem dX5_creates_19 : decode cX5_creates 19 = .ok (.iload_n 1, 1) := by decide +kernel
theorem dX5_creates_20 : decode cX5_creates 20 = .ok (.invokestatic 72, 3) := by decide +kernel
theorem dX5_creates_23 : decode cX5_creates 23 = .ok (.iaload, 1) := by decide +kernel
theorem dX5_creates_24 : decode cX5_creates 24 = .ok (.ireturn, 1) := by decide +kernel
theorem dX5_live_0 : decode cX5_live 0 = .ok (.iconst 0, 1) := by decide +kernel
theorem dX5_live_1 : decode cX5_live 1 = .ok (.istore_n 3, 1) := by decide +kernel
theorem dX5_live_2 : decode cX5_live 2 = .ok (.iconst 0, 1) := by decide +kernel
theorem dX5_live_3 : decode cX5_live 3 = .ok (.istore 4, 2) := by decide +kernel
theorem dX5_live_5 : decode cX5_live 5 = .ok (.iload 4, 2) := by decide +kernel
theorem dX5_live_7 : decode cX5_live 7 = .ok (.iconst 4, 1) := by decide +kernel
theorem dX5_live_8 : decode cX5_live 8 = .ok (.if_icmp .ge 32, 3) := by decide +kernel
theorem dX5_live_11 : decode cX5_live 11 = .ok (.iload_n 3, 1) := by decide +kernel
theorem dX5_live_12 : decode cX5_live 12 = .ok (.aload_n 0, 1) := by decide +kernel
theorem dX5_live_13 : decode cX5_live 13 = .ok (.getfield 13, 3) := by decide +kernel
theorem dX5_live_16 : decode cX5_live 16 = .ok (.iload_n 1, 1) := by decide +kernel
theorem dX5_live_17 : decode cX5_live 17 = .ok (.iload_n 2, 1) := by decide +kernel
theorem dX5_live_18 : decode cX5_live 18 = .ok (.iload 4, 2) := by decide +kernel
theorem dX5_live_20 : decode cX5_live 20 = .ok (.invokestatic 75, 3) := by decide +kernel
theorem dX5_live_23 : decode cX5_live 23 = .ok (.iaload, 1) := by decide +kernel
theorem dX5_live_24 : decode cX5_live 24 = .ok (.ifCond .le 7, 3) := by decide +kernel
theorem dX5_live_27 : decode cX5_live 27 = .ok (.iconst 1, 1) := by decide +kernel
theorem dX5_live_28 : decode cX5_live 28 = .ok (.goto 4, 3) := by decide +kernel
theorem dX5_live_31 : decode cX5_live 31 = .ok (.iconst 0, 1) := by decide +kernel
theorem dX5_live_32 : decode cX5_live 32 = .ok (.iadd, 1) := by decide +kernel
theorem dX5_live_33 : decode cX5_live 33 = .ok (.istore_n 3, 1) := by decide +kernel
theorem dX5_live_34 : decode cX5_live 34 = .ok (.iinc 4 1, 3) := by decide +kernel
theorem dX5_live_37 : decode cX5_live 37 = .ok (.goto (-32), 3) := by decide +kernel
theorem dX5_live_40 : decode cX5_live 40 = .ok (.iload_n 3, 1) := by decide +kernel
theorem dX5_live_41 : decode cX5_live 41 = .ok (.ireturn, 1) := by decide +kernel
theorem dX5_removes_0 : decode cX5_removes 0 = .ok (.aload_n 0, 1) := by decide +kernel
theorem dX5_removes_1 : decode cX5_removes 1 = .ok (.iload_n 1, 1) := by decide +kernel
theorem dX5_removes_2 : decode cX5_removes 2 = .ok (.iload_n 2, 1) := by decide +kernel
theorem dX5_removes_3 : decode cX5_removes 3 = .ok (.invokevirtual 78, 3) := by decide +kernel
theorem dX5_removes_6 : decode cX5_removes 6 = .ok (.istore_n 3, 1) := by decide +kernel
theorem dX5_removes_7 : decode cX5_removes 7 = .ok (.iconst 0, 1) := by decide +kernel
theorem dX5_removes_8 : decode cX5_removes 8 = .ok (.istore 4, 2) := by decide +kernel
theorem dX5_removes_10 : decode cX5_removes 10 = .ok (.iload 4, 2) := by decide +kernel
theorem dX5_removes_12 : decode cX5_removes 12 = .ok (.iconst 4, 1) := by decide +kernel
theorem dX5_removes_13 : decode cX5_removes 13 = .ok (.if_icmp .ge 22, 3) := by decide +kernel
theorem dX5_removes_16 : decode cX5_removes 16 = .ok (.aload_n 0, 1) := by decide +kernel
theorem dX5_removes_17 : decode cX5_removes 17 = .ok (.getfield 13, 3) := by decide +kernel
theorem dX5_removes_20 : decode cX5_removes 20 = .ok (.iload_n 1, 1) := by decide +kernel
theorem dX5_removes_21 : decode cX5_removes 21 = .ok (.iload_n 2, 1) := by decide +kernel
theorem dX5_removes_22 : decode cX5_removes 22 = .ok (.iload 4, 2) := by decide +kernel
theorem dX5_removes_24 : decode cX5_removes 24 = .ok (.invokestatic 75, 3) := by decide +kernel
theorem dX5_removes_27 : decode cX5_removes 27 = .ok (.iconst 0, 1) := by decide +kernel
theorem dX5_removes_28 : decode cX5_removes 28 = .ok (.iastore, 1) := by decide +kernel
theorem dX5_removes_29 : decode cX5_removes 29 = .ok (.iinc 4 1, 3) := by decide +kernel
theorem dX5_removes_32 : decode cX5_removes 32 = .ok (.goto (-22), 3) := by decide +kernel
theorem dX5_removes_35 : decode cX5_removes 35 = .ok (.iload_n 3, 1) := by decide +kernel
theorem dX5_removes_36 : decode cX5_removes 36 = .ok (.ireturn, 1) := by decide +kernel
theorem dX5_adds_0 : decode cX5_adds 0 = .ok (.aload_n 0, 1) := by decide +kernel
theorem dX5_adds_1 : decode cX5_adds 1 = .ok (.iload_n 1, 1) := by decide +kernel
theorem dX5_adds_2 : decode cX5_adds 2 = .ok (.iload_n 2, 1) := by decide +kernel
theorem dX5_adds_3 : decode cX5_adds 3 = .ok (.invokevirtual 55, 3) := by decide +kernel
theorem dX5_adds_6 : decode cX5_adds 6 = .ok (.istore_n 3, 1) := by decide +kernel
theorem dX5_adds_7 : decode cX5_adds 7 = .ok (.aload_n 0, 1) := by decide +kernel
theorem dX5_adds_8 : decode cX5_adds 8 = .ok (.getfield 13, 3) := by decide +kernel
theorem dX5_adds_11 : decode cX5_adds 11 = .ok (.iload_n 1, 1) := by decide +kernel
theorem dX5_adds_12 : decode cX5_adds 12 = .ok (.iload_n 2, 1) := by decide +kernel
theorem dX5_adds_13 : decode cX5_adds 13 = .ok (.iload_n 1, 1) := by decide +kernel
theorem dX5_adds_14 : decode cX5_adds 14 = .ok (.invokestatic 75, 3) := by decide +kernel
theorem dX5_adds_17 : decode cX5_adds 17 = .ok (.aload_n 0, 1) := by decide +kernel
theorem dX5_adds_18 : decode cX5_adds 18 = .ok (.iload_n 1, 1) := by decide +kernel
theorem dX5_adds_19 : decode cX5_adds 19 = .ok (.invokevirtual 81, 3) := by decide +kernel
theorem dX5_adds_22 : decode cX5_adds 22 = .ok (.iastore, 1) := by decide +kernel
theorem dX5_adds_23 : decode cX5_adds 23 = .ok (.aload_n 0, 1) := by decide +kernel
theorem dX5_adds_24 : decode cX5_adds 24 = .ok (.getfield 13, 3) := by decide +kernel
theorem dX5_adds_27 : decode cX5_adds 27 = .ok (.iload_n 1, 1) := by decide +kernel
theorem dX5_adds_28 : decode cX5_adds 28 = .ok (.iload_n 2, 1) := by decide +kernel
theorem dX5_adds_29 : decode cX5_adds 29 = .ok (.iload_n 1, 1) := by decide +kernel
theorem dX5_adds_30 : decode cX5_adds 30 = .ok (.invokestatic 75, 3) := by decide +kernel
theorem dX5_adds_33 : decode cX5_adds 33 = .ok (.iaload, 1) := by decide +kernel
theorem dX5_adds_34 : decode cX5_adds 34 = .ok (.ireturn, 1) := by decide +kernel
theorem dX5_entries_0 : decode cX5_entries 0 = .ok (.iconst 0, 1) := by decide +kernel
theorem dX5_entries_1 : decode cX5_entries 1 = .ok (.istore_n 3, 1) := by decide +kernel
theorem dX5_entries_2 : decode cX5_entries 2 = .ok (.iconst 0, 1) := by decide +kernel
theorem dX5_entries_3 : decode cX5_entries 3 = .ok (.istore 4, 2) := by decide +kernel
theorem dX5_entries_5 : decode cX5_entries 5 = .ok (.iload 4, 2) := by decide +kernel
theorem dX5_entries_7 : decode cX5_entries 7 = .ok (.iconst 4, 1) := by decide +kernel
theorem dX5_entries_8 : decode cX5_entries 8 = .ok (.if_icmp .ge 32, 3) := by decide +kernel
theorem dX5_entries_11 : decode cX5_entries 11 = .ok (.iload_n 3, 1) := by decide +kernel
theorem dX5_entries_12 : decode cX5_entries 12 = .ok (.aload_n 0, 1) := by decide +kernel
theorem dX5_entries_13 : decode cX5_entries 13 = .ok (.getfield 13, 3) := by decide +kernel
theorem dX5_entries_16 : decode cX5_entries 16 = .ok (.iload_n 1, 1) := by decide +kernel
theorem dX5_entries_17 : decode cX5_entries 17 = .ok (.iload_n 2, 1) := by decide +kernel
theorem dX5_entries_18 : decode cX5_entries 18 = .ok (.iload 4, 2) := by decide +kernel
theorem dX5_entries_20 : decode cX5_entries 20 = .ok (.invokestatic 84, 3) := by decide +kernel
theorem dX5_entries_23 : decode cX5_entries 23 = .ok (.iaload, 1) := by decide +kernel
theorem dX5_entries_24 : decode cX5_entries 24 = .ok (.ifCond .le 7, 3) := by decide +kernel
theorem dX5_entries_27 : decode cX5_entries 27 = .ok (.iconst 1, 1) := by decide +kernel
theorem dX5_entries_28 : decode cX5_entries 28 = .ok (.goto 4, 3) := by decide +kernel
theorem dX5_entries_31 : decode cX5_entries 31 = .ok (.iconst 0, 1) := by decide +kernel
theorem dX5_entries_32 : decode cX5_entries 32 = .ok (.iadd, 1) := by decide +kernel
theorem dX5_entries_33 : decode cX5_entries 33 = .ok (.istore_n 3, 1) := by decide +kernel
theorem dX5_entries_34 : decode cX5_entries 34 = .ok (.iinc 4 1, 3) := by decide +kernel
theorem dX5_entries_37 : decode cX5_entries 37 = .ok (.goto (-32), 3) := by decide +kernel
theorem dX5_entries_40 : decode cX5_entries 40 = .ok (.iload_n 3, 1) := by decide +kernel
theorem dX5_entries_41 : decode cX5_entries 41 = .ok (.ireturn, 1) := by decide +kernel
theorem dX5_writesValue_0 : decode cX5_writesValue 0 = .ok (.aload_n 0, 1) := by decide +kernel
theorem dX5_writesValue_1 : decode cX5_writesValue 1 = .ok (.iload_n 1, 1) := by decide +kernel
theorem dX5_writesValue_2 : decode cX5_writesValue 2 = .ok (.iload_n 2, 1) := by decide +kernel
theorem dX5_writesValue_3 : decode cX5_writesValue 3 = .ok (.invokevirtual 87, 3) := by decide +kernel
theorem dX5_writesValue_6 : decode cX5_writesValue 6 = .ok (.istore 4, 2) := by decide +kernel
theorem dX5_writesValue_8 : decode cX5_writesValue 8 = .ok (.iconst 0, 1) := by decide +kernel
theorem dX5_writesValue_9 : decode cX5_writesValue 9 = .ok (.istore 5, 2) := by decide +kernel
theorem dX5_writesValue_11 : decode cX5_writesValue 11 = .ok (.iload 5, 2) := by decide +kernel
theorem dX5_writesValue_13 : decode cX5_writesValue 13 = .ok (.iconst 4, 1) := by decide +kernel
theorem dX5_writesValue_14 : decode cX5_writesValue 14 = .ok (.if_icmp .ge 35, 3) := by decide +kernel
theorem dX5_writesValue_17 : decode cX5_writesValue 17 = .ok (.aload_n 0, 1) := by decide +kernel
theorem dX5_writesValue_18 : decode cX5_writesValue 18 = .ok (.getfield 13, 3) := by decide +kernel
theorem dX5_writesValue_21 : decode cX5_writesValue 21 = .ok (.iload_n 1, 1) := by decide +kernel
theorem dX5_writesValue_22 : decode cX5_writesValue 22 = .ok (.iload_n 2, 1) := by decide +kernel
theorem dX5_writesValue_23 : decode cX5_writesValue 23 = .ok (.iload 5, 2) := by decide +kernel
theorem dX5_writesValue_25 : decode cX5_writesValue 25 = .ok (.invokestatic 84, 3) := by decide +kernel
theorem dX5_writesValue_28 : decode cX5_writesValue 28 = .ok (.iconst 0, 1) := by decide +kernel
theorem dX5_writesValue_29 : decode cX5_writesValue 29 = .ok (.iastore, 1) := by decide +kernel
theorem dX5_writesValue_30 : decode cX5_writesValue 30 = .ok (.aload_n 0, 1) := by decide +kernel
theorem dX5_writesValue_31 : decode cX5_writesValue 31 = .ok (.getfield 13, 3) := by decide +kernel
theorem dX5_writesValue_34 : decode cX5_writesValue 34 = .ok (.iload_n 1, 1) := by decide +kernel
theorem dX5_writesValue_35 : decode cX5_writesValue 35 = .ok (.iload_n 2, 1) := by decide +kernel
theorem dX5_writesValue_36 : decode cX5_writesValue 36 = .ok (.iload 5, 2) := by decide +kernel
theorem dX5_writesValue_38 : decode cX5_writesValue 38 = .ok (.invokestatic 90, 3) := by decide +kernel
theorem dX5_writesValue_41 : decode cX5_writesValue 41 = .ok (.iconst 0, 1) := by decide +kernel
theorem dX5_writesValue_42 : decode cX5_writesValue 42 = .ok (.iastore, 1) := by decide +kernel
theorem dX5_writesValue_43 : decode cX5_writesValue 43 = .ok (.iinc 5 1, 3) := by decide +kernel
theorem dX5_writesValue_46 : decode cX5_writesValue 46 = .ok (.goto (-35), 3) := by decide +kernel
theorem dX5_writesValue_49 : decode cX5_writesValue 49 = .ok (.aload_n 0, 1) := by decide +kernel
theorem dX5_writesValue_50 : decode cX5_writesValue 50 = .ok (.getfield 13, 3) := by decide +kernel
theorem dX5_writesValue_53 : decode cX5_writesValue 53 = .ok (.iload_n 1, 1) := by decide +kernel
theorem dX5_writesValue_54 : decode cX5_writesValue 54 = .ok (.iload_n 2, 1) := by decide +kernel
theorem dX5_writesValue_55 : decode cX5_writesValue 55 = .ok (.iload_n 1, 1) := by decide +kernel
theorem dX5_writesValue_56 : decode cX5_writesValue 56 = .ok (.invokestatic 84, 3) := by decide +kernel
theorem dX5_writesValue_59 : decode cX5_writesValue 59 = .ok (.aload_n 0, 1) := by decide +kernel
theorem dX5_writesValue_60 : decode cX5_writesValue 60 = .ok (.iload_n 1, 1) := by decide +kernel
theorem dX5_writesValue_61 : decode cX5_writesValue 61 = .ok (.invokevirtual 81, 3) := by decide +kernel
theorem dX5_writesValue_64 : decode cX5_writesValue 64 = .ok (.iastore, 1) := by decide +kernel
theorem dX5_writesValue_65 : decode cX5_writesValue 65 = .ok (.aload_n 0, 1) := by decide +kernel
theorem dX5_writesValue_66 : decode cX5_writesValue 66 = .ok (.getfield 13, 3) := by decide +kernel
theorem dX5_writesValue_69 : decode cX5_writesValue 69 = .ok (.iload_n 1, 1) := by decide +kernel
theorem dX5_writesValue_70 : decode cX5_writesValue 70 = .ok (.iload_n 2, 1) := by decide +kernel
theorem dX5_writesValue_71 : decode cX5_writesValue 71 = .ok (.iload_n 1, 1) := by decide +kernel
theorem dX5_writesValue_72 : decode cX5_writesValue 72 = .ok (.invokestatic 90, 3) := by decide +kernel
theorem dX5_writesValue_75 : decode cX5_writesValue 75 = .ok (.iload_n 3, 1) := by decide +kernel
