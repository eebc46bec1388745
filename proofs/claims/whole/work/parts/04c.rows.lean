theorem dX6_init_0 : decode cX6_init 0 = .ok (.aload_n 0, 1) := by decide +kernel
theorem dX6_init_1 : decode cX6_init 1 = .ok (.invokespecial 1, 3) := by decide +kernel
theorem dX6_init_4 : decode cX6_init 4 = .ok (.aload_n 0, 1) := by decide +kernel
theorem dX6_init_5 : decode cX6_init 5 = .ok (.bipush 100, 2) := by decide +kernel
theorem dX6_init_7 : decode cX6_init 7 = .ok (.newarray .int, 2) := by decide +kernel
theorem dX6_init_9 : decode cX6_init 9 = .ok (.putfield 7, 3) := by decide +kernel
theorem dX6_init_12 : decode cX6_init 12 = .ok (.aload_n 0, 1) := by decide +kernel
theorem dX6_init_13 : decode cX6_init 13 = .ok (.bipush 100, 2) := by decide +kernel
theorem dX6_init_15 : decode cX6_init 15 = .ok (.newarray .int, 2) := by decide +kernel
theorem dX6_init_17 : decode cX6_init 17 = .ok (.putfield 13, 3) := by decide +kernel
theorem dX6_init_20 : decode cX6_init 20 = .ok (.aload_n 0, 1) := by decide +kernel
theorem dX6_init_21 : decode cX6_init 21 = .ok (.bipush 100, 2) := by decide +kernel
theorem dX6_init_23 : decode cX6_init 23 = .ok (.newarray .int, 2) := by decide +kernel
theorem dX6_init_25 : decode cX6_init 25 = .ok (.putfield 16, 3) := by decide +kernel
theorem dX6_init_28 : decode cX6_init 28 = .ok (.aload_n 0, 1) := by decide +kernel
theorem dX6_init_29 : decode cX6_init 29 = .ok (.sipush 800, 3) := by decide +kernel
theorem dX6_init_32 : decode cX6_init 32 = .ok (.newarray .long, 2) := by decide +kernel
theorem dX6_init_34 : decode cX6_init 34 = .ok (.putfield 19, 3) := by decide +kernel
theorem dX6_init_37 : decode cX6_init 37 = .ok (.aload_n 0, 1) := by decide +kernel
theorem dX6_init_38 : decode cX6_init 38 = .ok (.sipush 800, 3) := by decide +kernel
theorem dX6_init_41 : decode cX6_init 41 = .ok (.newarray .int, 2) := by decide +kernel
theorem dX6_init_43 : decode cX6_init 43 = .ok (.putfield 23, 3) := by decide +kernel
theorem dX6_init_46 : decode cX6_init 46 = .ok (.aload_n 0, 1) := by decide +kernel
theorem dX6_init_47 : decode cX6_init 47 = .ok (.bipush 16, 2) := by decide +kernel
theorem dX6_init_49 : decode cX6_init 49 = .ok (.newarray .int, 2) := by decide +kernel
theorem dX6_init_51 : decode cX6_init 51 = .ok (.dup, 1) := by decide +kernel
theorem dX6_init_52 : decode cX6_init 52 = .ok (.iconst 0, 1) := by decide +kernel
theorem dX6_init_53 : decode cX6_init 53 = .ok (.iconst 1, 1) := by decide +kernel
theorem dX6_init_54 : decode cX6_init 54 = .ok (.iastore, 1) := by decide +kernel
theorem dX6_init_55 : decode cX6_init 55 = .ok (.dup, 1) := by decide +kernel
theorem dX6_init_56 : decode cX6_init 56 = .ok (.iconst 1, 1) := by decide +kernel
theorem dX6_init_57 : decode cX6_init 57 = .ok (.iconst 3, 1) := by decide +kernel
theorem dX6_init_58 : decode cX6_init 58 = .ok (.iastore, 1) := by decide +kernel
theorem dX6_init_59 : decode cX6_init 59 = .ok (.dup, 1) := by decide +kernel
theorem dX6_init_60 : decode cX6_init 60 = .ok (.iconst 2, 1) := by decide +kernel
theorem dX6_init_61 : decode cX6_init 61 = .ok (.ldc 26, 2) := by decide +kernel
theorem dX6_init_63 : decode cX6_init 63 = .ok (.iastore, 1) := by decide +kernel
theorem dX6_init_64 : decode cX6_init 64 = .ok (.dup, 1) := by decide +kernel
theorem dX6_init_65 : decode cX6_init 65 = .ok (.iconst 3, 1) := by decide +kernel
theorem dX6_init_66 : decode cX6_init 66 = .ok (.ldc 27, 2) := by decide +kernel
theorem dX6_init_68 : decode cX6_init 68 = .ok (.iastore, 1) := by decide +kernel
theorem dX6_init_69 : decode cX6_init 69 = .ok (.dup, 1) := by decide +kernel
theorem dX6_init_70 : decode cX6_init 70 = .ok (.iconst 4, 1) := by decide +kernel
theorem dX6_init_71 : decode cX6_init 71 = .ok (.bipush 16, 2) := by decide +kernel
theorem dX6_init_73 : decode cX6_init 73 = .ok (.iastore, 1) := by decide +kernel
theorem dX6_init_74 : decode cX6_init 74 = .ok (.dup, 1) := by decide +kernel
theorem dX6_init_75 : decode cX6_init 75 = .ok (.iconst 5, 1) := by decide +kernel
theorem dX6_init_76 : decode cX6_init 76 = .ok (.bipush 32, 2) := by decide +kernel
theorem dX6_init_78 : decode cX6_init 78 = .ok (.iastore, 1) := by decide +kernel
theorem dX6_init_79 : decode cX6_init 79 = .ok (.dup, 1) := by decide +kernel
theorem dX6_init_80 : decode cX6_init 80 = .ok (.bipush 6, 2) := by decide +kernel
theorem dX6_init_82 : decode cX6_init 82 = .ok (.bipush 64, 2) := by decide +kernel
theorem dX6_init_84 : decode cX6_init 84 = .ok (.iastore, 1) := by decide +kernel
theorem dX6_init_85 : decode cX6_init 85 = .ok (.dup, 1) := by decide +kernel
theorem dX6_init_86 : decode cX6_init 86 = .ok (.bipush 7, 2) := by decide +kernel
theorem dX6_init_88 : decode cX6_init 88 = .ok (.sipush 128, 3) := by decide +kernel
theorem dX6_init_91 : decode cX6_init 91 = .ok (.iastore, 1) := by decide +kernel
theorem dX6_init_92 : decode cX6_init 92 = .ok (.dup, 1) := by decide +kernel
theorem dX6_init_93 : decode cX6_init 93 = .ok (.bipush 8, 2) := by decide +kernel
theorem dX6_init_95 : decode cX6_init 95 = .ok (.sipush 256, 3) := by decide +kernel
theorem dX6_init_98 : decode cX6_init 98 = .ok (.iastore, 1) := by decide +kernel
theorem dX6_init_99 : decode cX6_init 99 = .ok (.dup, 1) := by decide +kernel
theorem dX6_init_100 : decode cX6_init 100 = .ok (.bipush 9, 2) := by decide +kernel
theorem dX6_init_102 : decode cX6_init 102 = .ok (.sipush 768, 3) := by decide +kernel
theorem dX6_init_105 : decode cX6_init 105 = .ok (.iastore, 1) := by decide +kernel
theorem dX6_init_106 : decode cX6_init 106 = .ok (.dup, 1) := by decide +kernel
theorem dX6_init_107 : decode cX6_init 107 = .ok (.bipush 10, 2) := by decide +kernel
theorem dX6_init_109 : decode cX6_init 109 = .ok (.sipush 3840, 3) := by decide +kernel
theorem dX6_init_112 : decode cX6_init 112 = .ok (.iastore, 1) := by decide +kernel
theorem dX6_init_113 : decode cX6_init 113 = .ok (.dup, 1) := by decide +kernel
theorem dX6_init_114 : decode cX6_init 114 = .ok (.bipush 11, 2) := by decide +kernel
theorem dX6_init_116 : decode cX6_init 116 = .ok (.sipush 2048, 3) := by decide +kernel
theorem dX6_init_119 : decode cX6_init 119 = .ok (.iastore, 1) := by decide +kernel
theorem dX6_init_120 : decode cX6_init 120 = .ok (.dup, 1) := by decide +kernel
theorem dX6_init_121 : decode cX6_init 121 = .ok (.bipush 12, 2) := by decide +kernel
theorem dX6_init_123 : decode cX6_init 123 = .ok (.sipush 4096, 3) := by decide +kernel
theorem dX6_init_126 : decode cX6_init 126 = .ok (.iastore, 1) := by decide +kernel
theorem dX6_init_127 : decode cX6_init 127 = .ok (.dup, 1) := by decide +kernel
theorem dX6_init_128 : decode cX6_init 128 = .ok (.bipush 13, 2) := by decide +kernel
theorem dX6_init_130 : decode cX6_init 130 = .ok (.sipush 12288, 3) := by decide +kernel
theorem dX6_init_133 : decode cX6_init 133 = .ok (.iastore, 1) := by decide +kernel
theorem dX6_init_134 : decode cX6_init 134 = .ok (.dup, 1) := by decide +kernel
theorem dX6_init_135 : decode cX6_init 135 = .ok (.bipush 14, 2) := by decide +kernel
theorem dX6_init_137 : decode cX6_init 137 = .ok (.sipush 16384, 3) := by decide +kernel
theorem dX6_init_140 : decode cX6_init 140 = .ok (.iastore, 1) := by decide +kernel
theorem dX6_init_141 : decode cX6_init 141 = .ok (.dup, 1) := by decide +kernel
theorem dX6_init_142 : decode cX6_init 142 = .ok (.bipush 15, 2) := by decide +kernel
theorem dX6_init_144 : decode cX6_init 144 = .ok (.ldc 28, 2) := by decide +kernel
theorem dX6_init_146 : decode cX6_init 146 = .ok (.iastore, 1) := by decide +kernel
theorem dX6_init_147 : decode cX6_init 147 = .ok (.putfield 29, 3) := by decide +kernel
theorem dX6_init_150 : decode cX6_init 150 = .ok (.aload_n 0, 1) := by decide +kernel
theorem dX6_init_151 : decode cX6_init 151 = .ok (.bipush 16, 2) := by decide +kernel
theorem dX6_init_153 : decode cX6_init 153 = .ok (.newarray .int, 2) := by decide +kernel
theorem dX6_init_155 : decode cX6_init 155 = .ok (.dup, 1) := by decide +kernel
theorem dX6_init_156 : decode cX6_init 156 = .ok (.iconst 0, 1) := by decide +kernel
theorem dX6_init_157 : decode cX6_init 157 = .ok (.iconst 0, 1) := by decide +kernel
theorem dX6_init_158 : decode cX6_init 158 = .ok (.iastore, 1) := by decide +kernel
theorem dX6_init_159 : decode cX6_init 159 = .ok (.dup, 1) := by decide +kernel
theorem dX6_init_160 : decode cX6_init 160 = .ok (.iconst 1, 1) := by decide +kernel
theorem dX6_init_161 : decode cX6_init 161 = .ok (.iconst 0, 1) := by decide +kernel
theorem dX6_init_162 : decode cX6_init 162 = .ok (.iastore, 1) := by decide +kernel
theorem dX6_init_163 : decode cX6_init 163 = .ok (.dup, 1) := by decide +kernel
theorem dX6_init_164 : decode cX6_init 164 = .ok (.iconst 2, 1) := by decide +kernel
theorem dX6_init_165 : decode cX6_init 165 = .ok (.iconst 0, 1) := by decide +kernel
theorem dX6_init_166 : decode cX6_init 166 = .ok (.iastore, 1) := by decide +kernel
theorem dX6_init_167 : decode cX6_init 167 = .ok (.dup, 1) := by decide +kernel
theorem dX6_init_168 : decode cX6_init 168 = .ok (.iconst 3, 1) := by decide +kernel
theorem dX6_init_169 : decode cX6_init 169 = .ok (.iconst 0, 1) := by decide +kernel
theorem dX6_init_170 : decode cX6_init 170 = .ok (.iastore, 1) := by decide +kernel
theorem dX6_init_171 : decode cX6_init 171 = .ok (.dup, 1) := by decide +kernel
theorem dX6_init_172 : decode cX6_init 172 = .ok (.iconst 4, 1) := by decide +kernel
theorem dX6_init_173 : decode cX6_init 173 = .ok (.iconst 0, 1) := by decide +kernel
theorem dX6_init_174 : decode cX6_init 174 = .ok (.iastore, 1) := by decide +kernel
theorem dX6_init_175 : decode cX6_init 175 = .ok (.dup, 1) := by decide +kernel
theorem dX6_init_176 : decode cX6_init 176 = .ok (.iconst 5, 1) := by decide +kernel
theorem dX6_init_177 : decode cX6_init 177 = .ok (.iconst 0, 1) := by decide +kernel
theorem dX6_init_178 : decode cX6_init 178 = .ok (.iastore, 1) := by decide +kernel
theorem dX6_init_179 : decode cX6_init 179 = .ok (.dup, 1) := by decide +kernel
theorem dX6_init_180 : decode cX6_init 180 = .ok (.bipush 6, 2) := by decide +kernel
theorem dX6_init_182 : decode cX6_init 182 = .ok (.iconst 0, 1) := by decide +kernel
theorem dX6_init_183 : decode cX6_init 183 = .ok (.iastore, 1) := by decide +kernel
theorem dX6_init_184 : decode cX6_init 184 = .ok (.dup, 1) := by decide +kernel
theorem dX6_init_185 : decode cX6_init 185 = .ok (.bipush 7, 2) := by decide +kernel
theorem dX6_init_187 : decode cX6_init 187 = .ok (.iconst 5, 1) := by decide +kernel
theorem dX6_init_188 : decode cX6_init 188 = .ok (.iastore, 1) := by decide +kernel
theorem dX6_init_189 : decode cX6_init 189 = .ok (.dup, 1) := by decide +kernel
theorem dX6_init_190 : decode cX6_init 190 = .ok (.bipush 8, 2) := by decide +kernel
theorem dX6_init_192 : decode cX6_init 192 = .ok (.iconst 0, 1) := by decide +kernel
theorem dX6_init_193 : decode cX6_init 193 = .ok (.iastore, 1) := by decide +kernel
theorem dX6_init_194 : decode cX6_init 194 = .ok (.dup, 1) := by decide +kernel
theorem dX6_init_195 : decode cX6_init 195 = .ok (.bipush 9, 2) := by decide +kernel
theorem dX6_init_197 : decode cX6_init 197 = .ok (.iconst 1, 1) := by decide +kernel
theorem dX6_init_198 : decode cX6_init 198 = .ok (.iastore, 1) := by decide +kernel
theorem dX6_init_199 : decode cX6_init 199 = .ok (.dup, 1) := by decide +kernel
theorem dX6_init_200 : decode cX6_init 200 = .ok (.bipush 10, 2) := by decide +kernel
theorem dX6_init_202 : decode cX6_init 202 = .ok (.iconst 2, 1) := by decide +kernel
theorem dX6_init_203 : decode cX6_init 203 = .ok (.iastore, 1) := by decide +kernel
theorem dX6_init_204 : decode cX6_init 204 = .ok (.dup, 1) := by decide +kernel
theorem dX6_init_205 : decode cX6_init 205 = .ok (.bipush 11, 2) := by decide +kernel
theorem dX6_init_207 : decode cX6_init 207 = .ok (.bipush 16, 2) := by decide +kernel
theorem dX6_init_209 : decode cX6_init 209 = .ok (.iastore, 1) := by decide +kernel
theorem dX6_init_210 : decode cX6_init 210 = .ok (.dup, 1) := by decide +kernel
theorem dX6_init_211 : decode cX6_init 211 = .ok (.bipush 12, 2) := by decide +kernel
theorem dX6_init_213 : decode cX6_init 213 = .ok (.bipush 8, 2) := by decide +kernel
theorem dX6_init_215 : decode cX6_init 215 = .ok (.iastore, 1) := by decide +kernel
theorem dX6_init_216 : decode cX6_init 216 = .ok (.dup, 1) := by decide +kernel
theorem dX6_init_217 : decode cX6_init 217 = .ok (.bipush 13, 2) := by decide +kernel
theorem dX6_init_219 : decode cX6_init 219 = .ok (.bipush 9, 2) := by decide +kernel
theorem dX6_init_221 : decode cX6_init 221 = .ok (.iastore, 1) := by decide +kernel
theorem dX6_init_222 : decode cX6_init 222 = .ok (.dup, 1) := by decide +kernel
theorem dX6_init_223 : decode cX6_init 223 = .ok (.bipush 14, 2) := by decide +kernel
theorem dX6_init_225 : decode cX6_init 225 = .ok (.bipush 11, 2) := by decide +kernel
theorem dX6_init_227 : decode cX6_init 227 = .ok (.iastore, 1) := by decide +kernel
theorem dX6_init_228 : decode cX6_init 228 = .ok (.dup, 1) := by decide +kernel
theorem dX6_init_229 : decode cX6_init 229 = .ok (.bipush 15, 2) := by decide +kernel
theorem dX6_init_231 : decode cX6_init 231 = .ok (.bipush 12, 2) := by decide +kernel
theorem dX6_init_233 : decode cX6_init 233 = .ok (.iastore, 1) := by decide +kernel
theorem dX6_init_234 : decode cX6_init 234 = .ok (.putfield 32, 3) := by decide +kernel
theorem dX6_init_237 : decode cX6_init 237 = .ok (.aload_n 0, 1) := by decide +kernel
theorem dX6_init_238 : decode cX6_init 238 = .ok (.bipush 13, 2) := by decide +kernel
theorem dX6_init_240 : decode cX6_init 240 = .ok (.newarray .int, 2) := by decide +kernel
theorem dX6_init_242 : decode cX6_init 242 = .ok (.dup, 1) := by decide +kernel
theorem dX6_init_243 : decode cX6_init 243 = .ok (.iconst 0, 1) := by decide +kernel
theorem dX6_init_244 : decode cX6_init 244 = .ok (.iconst 0, 1) := by decide +kernel
theorem dX6_init_245 : decode cX6_init 245 = .ok (.iastore, 1) := by decide +kernel
theorem dX6_init_246 : decode cX6_init 246 = .ok (.dup, 1) := by decide +kernel
theorem dX6_init_247 : decode cX6_init 247 = .ok (.iconst 1, 1) := by decide +kernel
theorem dX6_init_248 : decode cX6_init 248 = .ok (.bipush 16, 2) := by decide +kernel
theorem dX6_init_250 : decode cX6_init 250 = .ok (.iastore, 1) := by decide +kernel
theorem dX6_init_251 : decode cX6_init 251 = .ok (.dup, 1) := by decide +kernel
theorem dX6_init_252 : decode cX6_init 252 = .ok (.iconst 2, 1) := by decide +kernel
theorem dX6_init_253 : decode cX6_init 253 = .ok (.iconst 5, 1) := by decide +kernel
theorem dX6_init_254 : decode cX6_init 254 = .ok (.iastore, 1) := by decide +kernel
theorem dX6_init_255 : decode cX6_init 255 = .ok (.dup, 1) := by decide +kernel
theorem dX6_init_256 : decode cX6_init 256 = .ok (.iconst 3, 1) := by decide +kernel
theorem dX6_init_257 : decode cX6_init 257 = .ok (.bipush 6, 2) := by decide +kernel
theorem dX6_init_259 : decode cX6_init 259 = .ok (.iastore, 1) := by decide +kernel
theorem dX6_init_260 : decode cX6_init 260 = .ok (.dup, 1) := by decide +kernel
theorem dX6_init_261 : decode cX6_init 261 = .ok (.iconst 4, 1) := by decide +kernel
theorem dX6_init_262 : decode cX6_init 262 = .ok (.iconst 4, 1) := by decide +kernel
theorem dX6_init_263 : decode cX6_init 263 = .ok (.iastore, 1) := by decide +kernel
theorem dX6_init_264 : decode cX6_init 264 = .ok (.dup, 1) := by decide +kernel
theorem dX6_init_265 : decode cX6_init 265 = .ok (.iconst 5, 1) := by decide +kernel
theorem dX6_init_266 : decode cX6_init 266 = .ok (.bipush 8, 2) := by decide +kernel
theorem dX6_init_268 : decode cX6_init 268 = .ok (.iastore, 1) := by decide +kernel
theorem dX6_init_269 : decode cX6_init 269 = .ok (.dup, 1) := by decide +kernel
theorem dX6_init_270 : decode cX6_init 270 = .ok (.bipush 6, 2) := by decide +kernel
theorem dX6_init_272 : decode cX6_init 272 = .ok (.bipush 8, 2) := by decide +kernel
theorem dX6_init_274 : decode cX6_init 274 = .ok (.iastore, 1) := by decide +kernel
theorem dX6_init_275 : decode cX6_init 275 = .ok (.dup, 1) := by decide +kernel
theorem dX6_init_276 : decode cX6_init 276 = .ok (.bipush 7, 2) := by decide +kernel
theorem dX6_init_278 : decode cX6_init 278 = .ok (.bipush 12, 2) := by decide +kernel
theorem dX6_init_280 : decode cX6_init 280 = .ok (.iastore, 1) := by decide +kernel
theorem dX6_init_281 : decode cX6_init 281 = .ok (.dup, 1) := by decide +kernel
theorem dX6_init_282 : decode cX6_init 282 = .ok (.bipush 8, 2) := by decide +kernel
theorem dX6_init_284 : decode cX6_init 284 = .ok (.bipush 7, 2) := by decide +kernel
theorem dX6_init_286 : decode cX6_init 286 = .ok (.iastore, 1) := by decide +kernel
theorem dX6_init_287 : decode cX6_init 287 = .ok (.dup, 1) := by decide +kernel
theorem dX6_init_288 : decode cX6_init 288 = .ok (.bipush 9, 2) := by decide +kernel
theorem dX6_init_290 : decode cX6_init 290 = .ok (.bipush 15, 2) := by decide +kernel
theorem dX6_init_292 : decode cX6_init 292 = .ok (.iastore, 1) := by decide +kernel
theorem dX6_init_293 : decode cX6_init 293 = .ok (.dup, 1) := by decide +kernel
theorem dX6_init_294 : decode cX6_init 294 = .ok (.bipush 10, 2) := by decide +kernel
theorem dX6_init_296 : decode cX6_init 296 = .ok (.bipush 11, 2) := by decide +kernel
theorem dX6_init_298 : decode cX6_init 298 = .ok (.iastore, 1) := by decide +kernel
theorem dX6_init_299 : decode cX6_init 299 = .ok (.dup, 1) := by decide +kernel
theorem dX6_init_300 : decode cX6_init 300 = .ok (.bipush 11, 2) := by decide +kernel
theorem dX6_init_302 : decode cX6_init 302 = .ok (.bipush 8, 2) := by decide +kernel
theorem dX6_init_304 : decode cX6_init 304 = .ok (.iastore, 1) := by decide +kernel
theorem dX6_init_305 : decode cX6_init 305 = .ok (.dup, 1) := by decide +kernel
theorem dX6_init_306 : decode cX6_init 306 = .ok (.bipush 12, 2) := by decide +kernel
theorem dX6_init_308 : decode cX6_init 308 = .ok (.bipush 17, 2) := by decide +kernel
theorem dX6_init_310 : decode cX6_init 310 = .ok (.iastore, 1) := by decide +kernel
theorem dX6_init_311 : decode cX6_init 311 = .ok (.putfield 35, 3) := by decide +kernel
theorem dX6_init_314 : decode cX6_init 314 = .ok (.aload_n 0, 1) := by decide +kernel
theorem dX6_init_315 : decode cX6_init 315 = .ok (.bipush 40, 2) := by decide +kernel
theorem dX6_init_317 : decode cX6_init 317 = .ok (.newarray .int, 2) := by decide +kernel
theorem dX6_init_319 : decode cX6_init 319 = .ok (.putfield 38, 3) := by decide +kernel
theorem dX6_init_322 : decode cX6_init 322 = .ok (.aload_n 0, 1) := by decide +kernel
theorem dX6_init_323 : decode cX6_init 323 = .ok (.bipush 8, 2) := by decide +kernel
theorem dX6_init_325 : decode cX6_init 325 = .ok (.newarray .int, 2) := by decide +kernel
theorem dX6_init_327 : decode cX6_init 327 = .ok (.putfield 41, 3) := by decide +kernel
theorem dX6_init_330 : decode cX6_init 330 = .ok (.aload_n 0, 1) := by decide +kernel
theorem dX6_init_331 : decode cX6_init 331 = .ok (.bipush 8, 2) := by decide +kernel
theorem dX6_init_333 : decode cX6_init 333 = .ok (.newarray .int, 2) := by decide +kernel
theorem dX6_init_335 : decode cX6_init 335 = .ok (.putfield 44, 3) := by decide +kernel
theorem dX6_init_338 : decode cX6_init 338 = .ok (.aload_n 0, 1) := by decide +kernel
theorem dX6_init_339 : decode cX6_init 339 = .ok (.bipush 8, 2) := by decide +kernel
theorem dX6_init_341 : decode cX6_init 341 = .ok (.newarray .long, 2) := by decide +kernel
theorem dX6_init_343 : decode cX6_init 343 = .ok (.putfield 47, 3) := by decide +kernel
theorem dX6_init_346 : decode cX6_init 346 = .ok (.aload_n 0, 1) := by decide +kernel
theorem dX6_init_347 : decode cX6_init 347 = .ok (.bipush 8, 2) := by decide +kernel
theorem dX6_init_349 : decode cX6_init 349 = .ok (.newarray .int, 2) := by decide +kernel
theorem dX6_init_351 : decode cX6_init 351 = .ok (.putfield 50, 3) := by decide +kernel
theorem dX6_init_354 : decode cX6_init 354 = .ok (.aload_n 0, 1) := by decide +kernel
theorem dX6_init_355 : decode cX6_init 355 = .ok (.bipush 60, 2) := by decide +kernel
theorem dX6_init_357 : decode cX6_init 357 = .ok (.newarray .int, 2) := by decide +kernel
theorem dX6_init_359 : decode cX6_init 359 = .ok (.putfield 53, 3) := by decide +kernel
theorem dX6_init_362 : decode cX6_init 362 = .ok (.aload_n 0, 1) := by decide +kernel
theorem dX6_init_363 : decode cX6_init 363 = .ok (.bipush 6, 2) := by decide +kernel
theorem dX6_init_365 : decode cX6_init 365 = .ok (.newarray .int, 2) := by decide +kernel
theorem dX6_init_367 : decode cX6_init 367 = .ok (.putfield 56, 3) := by decide +kernel
theorem dX6_init_370 : decode cX6_init 370 = .ok (.return_, 1) := by decide +kernel
theorem dX6_thrown_0 : decode cX6_thrown 0 = .ok (.aload_n 0, 1) := by decide +kernel
theorem dX6_thrown_1 : decode cX6_thrown 1 = .ok (.getfield 59, 3) := by decide +kernel
theorem dX6_thrown_4 : decode cX6_thrown 4 = .ok (.ireturn, 1) := by decide +kernel
theorem dX6_in_0 : decode cX6_in 0 = .ok (.iload_n 0, 1) := by decide +kernel
theorem dX6_in_1 : decode cX6_in 1 = .ok (.iload_n 1, 1) := by decide +kernel
theorem dX6_in_2 : decode cX6_in 2 = .ok (.if_icmp .lt 12, 3) := by decide +kernel
theorem dX6_in_5 : decode cX6_in 5 = .ok (.iload_n 0, 1) := by decide +kernel
theorem dX6_in_6 : decode cX6_in 6 = .ok (.iload_n 2, 1) := by decide +kernel
theorem dX6_in_7 : decode cX6_in 7 = .ok (.if_icmp .gt 7, 3) := by decide +kernel
theorem dX6_in_10 : decode cX6_in 10 = .ok (.iconst 1, 1) := by decide +kernel
theorem dX6_in_11 : decode cX6_in 11 = .ok (.goto 4, 3) := by decide +kernel
theorem dX6_in_14 : decode cX6_in 14 = .ok (.iconst 0, 1) := by decide +kernel
theorem dX6_in_15 : decode cX6_in 15 = .ok (.ireturn, 1) := by decide +kernel
set_option maxRecDepth 20000 in
theorem ggX6_isThing_X6_in : GoodIn wsX6_isThing wsX6_in := goodIn_r _ [5] (by decide +kernel) (by decide +kernel)
set_option maxRecDepth 20000 in
theorem gX6_isThing_X6_in : GoodIn wsX6_isThing (va_wsS RX6 66 yX6_in wsX6_in) := goodIn_app (goodIn_of _ (by decide +kernel)) ggX6_isThing_X6_in
theorem dX6_isThing_0 : decode cX6_isThing 0 = .ok (.iload_n 1, 1) := by decide +kernel
theorem dX6_isThing_1 : decode cX6_isThing 1 = .ok (.iconst 0, 1) := by decide +kernel
theorem dX6_isThing_2 : decode cX6_isThing 2 = .ok (.aload_n 0, 1) := by decide +kernel
theorem dX6_isThing_3 : decode cX6_isThing 3 = .ok (.getfield 63, 3) := by decide +kernel
theorem dX6_isThing_6 : decode cX6_isThing 6 = .ok (.iconst 1, 1) := by decide +kernel
theorem dX6_isThing_7 : decode cX6_isThing 7 = .ok (.isub, 1) := by decide +kernel
theorem dX6_isThing_8 : decode cX6_isThing 8 = .ok (.invokestatic 66, 3) := by decide +kernel
theorem dX6_isThing_11 : decode cX6_isThing 11 = .ok (.ireturn, 1) := by decide +kernel
theorem dX6_isOf_0 : decode cX6_isOf 0 = .ok (.iload_n 2, 1) := by decide +kernel
theorem dX6_isOf_1 : decode cX6_isOf 1 = .ok (.bipush 17, 2) := by decide +kernel
theorem dX6_isOf_3 : decode cX6_isOf 3 = .ok (.if_icmp .eq 22, 3) := by decide +kernel
theorem dX6_isOf_6 : decode cX6_isOf 6 = .ok (.aload_n 0, 1) := by decide +kernel
theorem dX6_isOf_7 : decode cX6_isOf 7 = .ok (.getfield 29, 3) := by decide +kernel
theorem dX6_isOf_10 : decode cX6_isOf 10 = .ok (.aload_n 0, 1) := by decide +kernel
theorem dX6_isOf_11 : decode cX6_isOf 11 = .ok (.getfield 7, 3) := by decide +kernel
theorem dX6_isOf_14 : decode cX6_isOf 14 = .ok (.iload_n 1, 1) := by decide +kernel
theorem dX6_isOf_15 : decode cX6_isOf 15 = .ok (.iaload, 1) := by decide +kernel
theorem dX6_isOf_16 : decode cX6_isOf 16 = .ok (.iaload, 1) := by decide +kernel
theorem dX6_isOf_17 : decode cX6_isOf 17 = .ok (.iload_n 2, 1) := by decide +kernel
theorem dX6_isOf_18 : decode cX6_isOf 18 = .ok (.ishr, 1) := by decide +kernel
theorem dX6_isOf_19 : decode cX6_isOf 19 = .ok (.iconst 1, 1) := by decide +kernel
theorem dX6_isOf_20 : decode cX6_isOf 20 = .ok (.iand, 1) := by decide +kernel
theorem dX6_isOf_21 : decode cX6_isOf 21 = .ok (.iconst 1, 1) := by decide +kernel
theorem dX6_isOf_22 : decode cX6_isOf 22 = .ok (.if_icmp .ne 7, 3) := by decide +kernel
theorem dX6_isOf_25 : decode cX6_isOf 25 = .ok (.iconst 1, 1) := by decide +kernel
theorem dX6_isOf_26 : decode cX6_isOf 26 = .ok (.goto 4, 3) := by decide +kernel
theorem dX6_isOf_29 : decode cX6_isOf 29 = .ok (.iconst 0, 1) := by decide +kernel
theorem dX6_isOf_30 : decode cX6_isOf 30 = .ok (.ireturn, 1) := by decide +kernel
set_option maxRecDepth 20000 in
theorem ggX6_passes_X6_isOf : GoodIn wsX6_passes wsX6_isOf := goodIn_ca (goodIn_r _ [5, 6, 7, 8, 9, 10, 11, 12, 13, 14, 15, 16, 17, 18, 19, 20, 21, 22, 23, 24, 25, 26, 27, 28, 29, 30] (by decide +kernel) (by decide +kernel)) (goodIn_sub (fun _ h => List.mem_cons_of_mem _ (List.mem_append_right _ h)) (by decide +kernel))
set_option maxRecDepth 20000 in
theorem gX6_passes_X6_isOf : GoodIn wsX6_passes (wsV RX6 70 RX6 yX6_isOf wsX6_isOf) := goodIn_app (goodIn_of _ (by decide +kernel)) ggX6_passes_X6_isOf
theorem dX6_passes_0 : decode cX6_passes 0 = .ok (.iload_n 1, 1) := by decide +kernel
theorem dX6_passes_1 : decode cX6_passes 1 = .ok (.ifCond .lt 12, 3) := by decide +kernel
theorem dX6_passes_4 : decode cX6_passes 4 = .ok (.aload_n 0, 1) := by decide +kernel
theorem dX6_passes_5 : decode cX6_passes 5 = .ok (.iload_n 1, 1) := by decide +kernel
theorem dX6_passes_6 : decode cX6_passes 6 = .ok (.iload_n 2, 1) := by decide +kernel
theorem dX6_passes_7 : decode cX6_passes 7 = .ok (.invokevirtual 70, 3) := by decide +kernel
theorem dX6_passes_10 : decode cX6_passes 10 = .ok (.ifCond .eq 7, 3) := by decide +kernel
theorem dX6_passes_13 : decode cX6_passes 13 = .ok (.iconst 1, 1) := by decide +kernel
theorem dX6_passes_14 : decode cX6_passes 14 = .ok (.goto 4, 3) := by decide +kernel
theorem dX6_passes_17 : decode cX6_passes 17 = .ok (.iconst 0, 1) := by decide +kernel
theorem dX6_passes_18 : decode cX6_passes 18 = .ok (.ireturn, 1) := by decide +kernel
theorem dX6_found_0 : decode cX6_found 0 = .ok (.aload_n 0, 1) := by decide +kernel
theorem dX6_found_1 : decode cX6_found 1 = .ok (.getfield 56, 3) := by decide +kernel
theorem dX6_found_4 : decode cX6_found 4 = .ok (.iload_n 1, 1) := by decide +kernel
theorem dX6_found_5 : decode cX6_found 5 = .ok (.dup2, 1) := by decide +kernel
theorem dX6_found_6 : decode cX6_found 6 = .ok (.iaload, 1) := by decide +kernel
theorem dX6_found_7 : decode cX6_found 7 = .ok (.iconst 1, 1) := by decide +kernel
theorem dX6_found_8 : decode cX6_found 8 = .ok (.iadd, 1) := by decide +kernel
theorem dX6_found_9 : decode cX6_found 9 = .ok (.iastore, 1) := by decide +kernel
theorem dX6_found_10 : decode cX6_found 10 = .ok (.bipush (-20), 2) := by decide +kernel
theorem dX6_found_12 : decode cX6_found 12 = .ok (.iload_n 1, 1) := by decide +kernel
theorem dX6_found_13 : decode cX6_found 13 = .ok (.isub, 1) := by decide +kernel
theorem dX6_found_14 : decode cX6_found 14 = .ok (.ireturn, 1) := by decide +kernel
theorem dX6_adds_0 : decode cX6_adds 0 = .ok (.aload_n 0, 1) := by decide +kernel
theorem dX6_adds_1 : decode cX6_adds 1 = .ok (.getfield 7, 3) := by decide +kernel
theorem dX6_adds_4 : decode cX6_adds 4 = .ok (.aload_n 0, 1) := by decide +kernel
theorem dX6_adds_5 : decode cX6_adds 5 = .ok (.getfield 63, 3) := by decide +kernel
theorem dX6_adds_8 : decode cX6_adds 8 = .ok (.iload_n 1, 1) := by decide +kernel
theorem dX6_adds_9 : decode cX6_adds 9 = .ok (.iastore, 1) := by decide +kernel
theorem dX6_adds_10 : decode cX6_adds 10 = .ok (.aload_n 0, 1) := by decide +kernel
theorem dX6_adds_11 : decode cX6_adds 11 = .ok (.getfield 13, 3) := by decide +kernel
theorem dX6_adds_14 : decode cX6_adds 14 = .ok (.aload_n 0, 1) := by decide +kernel
theorem dX6_adds_15 : decode cX6_adds 15 = .ok (.getfield 63, 3) := by decide +kernel
theorem dX6_adds_18 : decode cX6_adds 18 = .ok (.iload_n 2, 1) := by decide +kernel
theorem dX6_adds_19 : decode cX6_adds 19 = .ok (.iastore, 1) := by decide +kernel
theorem dX6_adds_20 : decode cX6_adds 20 = .ok (.aload_n 0, 1) := by decide +kernel
theorem dX6_adds_21 : decode cX6_adds 21 = .ok (.getfield 16, 3) := by decide +kernel
theorem dX6_adds_24 : decode cX6_adds 24 = .ok (.aload_n 0, 1) := by decide +kernel
theorem dX6_adds_25 : decode cX6_adds 25 = .ok (.getfield 63, 3) := by decide +kernel
theorem dX6_adds_28 : decode cX6_adds 28 = .ok (.iload_n 3, 1) := by decide +kernel
theorem dX6_adds_29 : decode cX6_adds 29 = .ok (.iastore, 1) := by decide +kernel
theorem dX6_adds_30 : decode cX6_adds 30 = .ok (.iconst 0, 1) := by decide +kernel
theorem dX6_adds_31 : decode cX6_adds 31 = .ok (.istore 4, 2) := by decide +kernel
theorem dX6_adds_33 : decode cX6_adds 33 = .ok (.iload 4, 2) := by decide +kernel
theorem dX6_adds_35 : decode cX6_adds 35 = .ok (.bipush 8, 2) := by decide +kernel
theorem dX6_adds_37 : decode cX6_adds 37 = .ok (.if_icmp .ge 41, 3) := by decide +kernel
theorem dX6_adds_40 : decode cX6_adds 40 = .ok (.aload_n 0, 1) := by decide +kernel
theorem dX6_adds_41 : decode cX6_adds 41 = .ok (.getfield 19, 3) := by decide +kernel
theorem dX6_adds_44 : decode cX6_adds 44 = .ok (.bipush 8, 2) := by decide +kernel
theorem dX6_adds_46 : decode cX6_adds 46 = .ok (.aload_n 0, 1) := by decide +kernel
theorem dX6_adds_47 : decode cX6_adds 47 = .ok (.getfield 63, 3) := by decide +kernel
theorem dX6_adds_50 : decode cX6_adds 50 = .ok (.imul, 1) := by decide +kernel
theorem dX6_adds_51 : decode cX6_adds 51 = .ok (.iload 4, 2) := by decide +kernel
theorem dX6_adds_53 : decode cX6_adds 53 = .ok (.iadd, 1) := by decide +kernel
theorem dX6_adds_54 : decode cX6_adds 54 = .ok (.lconst 0, 1) := by decide +kernel
theorem dX6_adds_55 : decode cX6_adds 55 = .ok (.lastore, 1) := by decide +kernel
theorem dX6_adds_56 : decode cX6_adds 56 = .ok (.aload_n 0, 1) := by decide +kernel
theorem dX6_adds_57 : decode cX6_adds 57 = .ok (.getfield 23, 3) := by decide +kernel
theorem dX6_adds_60 : decode cX6_adds 60 = .ok (.bipush 8, 2) := by decide +kernel
theorem dX6_adds_62 : decode cX6_adds 62 = .ok (.aload_n 0, 1) := by decide +kernel
theorem dX6_adds_63 : decode cX6_adds 63 = .ok (.getfield 63, 3) := by decide +kernel
theorem dX6_adds_66 : decode cX6_adds 66 = .ok (.imul, 1) := by decide +kernel
theorem dX6_adds_67 : decode cX6_adds 67 = .ok (.iload 4, 2) := by decide +kernel
theorem dX6_adds_69 : decode cX6_adds 69 = .ok (.iadd, 1) := by decide +kernel
theorem dX6_adds_70 : decode cX6_adds 70 = .ok (.iconst (-1), 1) := by decide +kernel
theorem dX6_adds_71 : decode cX6_adds 71 = .ok (.iastore, 1) := by decide +kernel
theorem dX6_adds_72 : decode cX6_adds 72 = .ok (.iinc 4 1, 3) := by decide +kernel
theorem dX6_adds_75 : decode cX6_adds 75 = .ok (.goto (-42), 3) := by decide +kernel
theorem dX6_adds_78 : decode cX6_adds 78 = .ok (.aload_n 0, 1) := by decide +kernel
theorem dX6_adds_79 : decode cX6_adds 79 = .ok (.dup, 1) := by decide +kernel
theorem dX6_adds_80 : decode cX6_adds 80 = .ok (.getfield 63, 3) := by decide +kernel
theorem dX6_adds_83 : decode cX6_adds 83 = .ok (.iconst 1, 1) := by decide +kernel
theorem dX6_adds_84 : decode cX6_adds 84 = .ok (.iadd, 1) := by decide +kernel
theorem dX6_adds_85 : decode cX6_adds 85 = .ok (.putfield 63, 3) := by decide +kernel
theorem dX6_adds_88 : decode cX6_adds 88 = .ok (.aload_n 0, 1) := by decide +kernel
theorem dX6_adds_89 : decode cX6_adds 89 = .ok (.getfield 63, 3) := by decide +kernel
theorem dX6_adds_92 : decode cX6_adds 92 = .ok (.iconst 1, 1) := by decide +kernel
theorem dX6_adds_93 : decode cX6_adds 93 = .ok (.isub, 1) := by decide +kernel
theorem dX6_adds_94 : decode cX6_adds 94 = .ok (.ireturn, 1) := by decide +kernel
set_option maxRecDepth 20000 in
theorem ggX6_thing_X6_in : GoodIn wsX6_thing wsX6_in := goodIn_r _ [6] (by decide +kernel) (by decide +kernel)
set_option maxRecDepth 20000 in
theorem gX6_thing_X6_in : GoodIn wsX6_thing (va_wsS RX6 66 yX6_in wsX6_in) := goodIn_app (goodIn_of _ (by decide +kernel)) ggX6_thing_X6_in
set_option maxRecDepth 20000 in
theorem ggX6_thing_X6_adds : GoodIn wsX6_thing wsX6_adds := goodIn_ca (goodIn_r _ [10, 11, 2, 12, 13, 14, 15, 16, 17, 18, 19, 20, 21, 22, 23, 24, 25, 26, 27, 28, 29, 30, 31, 32, 33, 34, 35, 36, 37, 38] (by decide +kernel) (by decide +kernel)) (goodIn_sub (fun _ h => List.mem_cons_of_mem _ (List.mem_append_right _ h)) (by decide +kernel))
set_option maxRecDepth 20000 in
theorem gX6_thing_X6_adds : GoodIn wsX6_thing (wsV RX6 74 RX6 yX6_adds wsX6_adds) := goodIn_app (goodIn_of _ (by decide +kernel)) ggX6_thing_X6_adds
theorem dX6_thing_0 : decode cX6_thing 0 = .ok (.aload_n 0, 1) := by decide +kernel
theorem dX6_thing_1 : decode cX6_thing 1 = .ok (.iconst 0, 1) := by decide +kernel
theorem dX6_thing_2 : decode cX6_thing 2 = .ok (.putfield 59, 3) := by decide +kernel
theorem dX6_thing_5 : decode cX6_thing 5 = .ok (.iload_n 1, 1) := by decide +kernel
theorem dX6_thing_6 : decode cX6_thing 6 = .ok (.iconst 0, 1) := by decide +kernel
theorem dX6_thing_7 : decode cX6_thing 7 = .ok (.iconst 3, 1) := by decide +kernel
theorem dX6_thing_8 : decode cX6_thing 8 = .ok (.invokestatic 66, 3) := by decide +kernel
theorem dX6_thing_11 : decode cX6_thing 11 = .ok (.ifCond .eq 16, 3) := by decide +kernel
theorem dX6_thing_14 : decode cX6_thing 14 = .ok (.iload_n 2, 1) := by decide +kernel
theorem dX6_thing_15 : decode cX6_thing 15 = .ok (.sipush (-1000), 3) := by decide +kernel
theorem dX6_thing_18 : decode cX6_thing 18 = .ok (.sipush 1000, 3) := by decide +kernel
theorem dX6_thing_21 : decode cX6_thing 21 = .ok (.invokestatic 66, 3) := by decide +kernel
theorem dX6_thing_24 : decode cX6_thing 24 = .ok (.ifCond .ne 6, 3) := by decide +kernel
theorem dX6_thing_27 : decode cX6_thing 27 = .ok (.bipush (-2), 2) := by decide +kernel
theorem dX6_thing_29 : decode cX6_thing 29 = .ok (.ireturn, 1) := by decide +kernel
theorem dX6_thing_30 : decode cX6_thing 30 = .ok (.aload_n 0, 1) := by decide +kernel
theorem dX6_thing_31 : decode cX6_thing 31 = .ok (.getfield 63, 3) := by decide +kernel
theorem dX6_thing_34 : decode cX6_thing 34 = .ok (.bipush 100, 2) := by decide +kernel
theorem dX6_thing_36 : decode cX6_thing 36 = .ok (.if_icmp .ne 8, 3) := by decide +kernel
theorem dX6_thing_39 : decode cX6_thing 39 = .ok (.bipush (-4), 2) := by decide +kernel
theorem dX6_thing_41 : decode cX6_thing 41 = .ok (.goto 10, 3) := by decide +kernel
theorem dX6_thing_44 : decode cX6_thing 44 = .ok (.aload_n 0, 1) := by decide +kernel
theorem dX6_thing_45 : decode cX6_thing 45 = .ok (.iload_n 1, 1) := by decide +kernel
theorem dX6_thing_46 : decode cX6_thing 46 = .ok (.iload_n 2, 1) := by decide +kernel
theorem dX6_thing_47 : decode cX6_thing 47 = .ok (.iconst 0, 1) := by decide +kernel
theorem dX6_thing_48 : decode cX6_thing 48 = .ok (.invokevirtual 74, 3) := by decide +kernel
theorem dX6_thing_51 : decode cX6_thing 51 = .ok (.ireturn, 1) := by decide +kernel
set_option maxRecDepth 20000 in
theorem ggX6_row_X6_in : GoodIn wsX6_row wsX6_in := goodIn_r _ [6] (by decide +kernel) (by decide +kernel)
set_option maxRecDepth 20000 in
theorem gX6_row_X6_in : GoodIn wsX6_row (va_wsS RX6 66 yX6_in wsX6_in) := goodIn_app (goodIn_of _ (by decide +kernel)) ggX6_row_X6_in
set_option maxRecDepth 20000 in
theorem ggX6_row_X6_found : GoodIn wsX6_row wsX6_found := goodIn_ca (goodIn_r _ [10, 11, 21, 22, 23, 24, 25, 26, 27, 28, 29, 30, 31, 32, 33, 34, 35, 36, 37, 38, 39, 40, 41, 42, 43] (by decide +kernel) (by decide +kernel)) (goodIn_sub (fun _ h => List.mem_cons_of_mem _ (List.mem_append_right _ h)) (by decide +kernel))
set_option maxRecDepth 20000 in
theorem gX6_row_X6_found : GoodIn wsX6_row (wsV RX6 78 RX6 yX6_found wsX6_found) := goodIn_app (goodIn_of _ (by decide +kernel)) ggX6_row_X6_found
set_option maxRecDepth 20000 in
theorem ggX6_row_X6_adds : GoodIn wsX6_row wsX6_adds := goodIn_ca (goodIn_r _ [15, 16, 2, 17, 18, 19, 20, 21, 22, 23, 24, 25, 26, 27, 28, 29, 30, 31, 32, 33, 34, 35, 36, 37, 38, 39, 40, 41, 42, 43] (by decide +kernel) (by decide +kernel)) (goodIn_sub (fun _ h => List.mem_cons_of_mem _ (List.mem_append_right _ h)) (by decide +kernel))
set_option maxRecDepth 20000 in
theorem gX6_row_X6_adds : GoodIn wsX6_row (wsV RX6 74 RX6 yX6_adds wsX6_adds) := goodIn_app (goodIn_of _ (by decide +kernel)) ggX6_row_X6_adds
theorem dX6_row_0 : decode cX6_row 0 = .ok (.aload_n 0, 1) := by decide +kernel
theorem dX6_row_1 : decode cX6_row 1 = .ok (.iconst 0, 1) := by decide +kernel
theorem dX6_row_2 : decode cX6_row 2 = .ok (.putfield 59, 3) := by decide +kernel
theorem dX6_row_5 : decode cX6_row 5 = .ok (.iload_n 1, 1) := by decide +kernel
theorem dX6_row_6 : decode cX6_row 6 = .ok (.iconst 4, 1) := by decide +kernel
theorem dX6_row_7 : decode cX6_row 7 = .ok (.bipush 15, 2) := by decide +kernel
theorem dX6_row_9 : decode cX6_row 9 = .ok (.invokestatic 66, 3) := by decide +kernel
theorem dX6_row_12 : decode cX6_row 12 = .ok (.ifCond .eq 9, 3) := by decide +kernel
theorem dX6_row_15 : decode cX6_row 15 = .ok (.iload_n 2, 1) := by decide +kernel
theorem dX6_row_16 : decode cX6_row 16 = .ok (.bipush 8, 2) := by decide +kernel
theorem dX6_row_18 : decode cX6_row 18 = .ok (.if_icmp .le 6, 3) := by decide +kernel
theorem dX6_row_21 : decode cX6_row 21 = .ok (.bipush (-2), 2) := by decide +kernel
theorem dX6_row_23 : decode cX6_row 23 = .ok (.ireturn, 1) := by decide +kernel
theorem dX6_row_24 : decode cX6_row 24 = .ok (.aload_n 0, 1) := by decide +kernel
theorem dX6_row_25 : decode cX6_row 25 = .ok (.getfield 63, 3) := by decide +kernel
theorem dX6_row_28 : decode cX6_row 28 = .ok (.bipush 100, 2) := by decide +kernel
theorem dX6_row_30 : decode cX6_row 30 = .ok (.if_icmp .ne 6, 3) := by decide +kernel
theorem dX6_row_33 : decode cX6_row 33 = .ok (.bipush (-4), 2) := by decide +kernel
theorem dX6_row_35 : decode cX6_row 35 = .ok (.ireturn, 1) := by decide +kernel
theorem dX6_row_36 : decode cX6_row 36 = .ok (.iload_n 2, 1) := by decide +kernel
theorem dX6_row_37 : decode cX6_row 37 = .ok (.ifCond .ge 11, 3) := by decide +kernel
theorem dX6_row_40 : decode cX6_row 40 = .ok (.aload_n 0, 1) := by decide +kernel
theorem dX6_row_41 : decode cX6_row 41 = .ok (.iconst 5, 1) := by decide +kernel
theorem dX6_row_42 : decode cX6_row 42 = .ok (.invokevirtual 78, 3) := by decide +kernel
theorem dX6_row_45 : decode cX6_row 45 = .ok (.goto 10, 3) := by decide +kernel
theorem dX6_row_48 : decode cX6_row 48 = .ok (.aload_n 0, 1) := by decide +kernel
theorem dX6_row_49 : decode cX6_row 49 = .ok (.iload_n 1, 1) := by decide +kernel
theorem dX6_row_50 : decode cX6_row 50 = .ok (.iconst 0, 1) := by decide +kernel
theorem dX6_row_51 : decode cX6_row 51 = .ok (.iload_n 2, 1) := by decide +kernel
theorem dX6_row_52 : decode cX6_row 52 = .ok (.invokevirtual 74, 3) := by decide +kernel
theorem dX6_row_55 : decode cX6_row 55 = .ok (.ireturn, 1) := by decide +kernel
set_option maxRecDepth 20000 in
theorem ggX6_is_X6_isThing : GoodIn wsX6_is wsX6_isThing := goodIn_r _ [6, 7, 8, 9, 5, 10, 17, 18, 19, 20, 21, 22, 23, 24, 25, 26, 27, 28, 29, 30, 31, 32, 33, 34, 35, 36, 37, 38, 39] (by decide +kernel) (by decide +kernel)
set_option maxRecDepth 20000 in
theorem gX6_is_X6_isThing : GoodIn wsX6_is (wsV RX6 82 RX6 yX6_isThing wsX6_isThing) := goodIn_app (goodIn_of _ (by decide +kernel)) ggX6_is_X6_isThing
set_option maxRecDepth 20000 in
theorem ggX6_is_X6_in : GoodIn wsX6_is wsX6_in := goodIn_r _ [10] (by decide +kernel) (by decide +kernel)
set_option maxRecDepth 20000 in
theorem gX6_is_X6_in : GoodIn wsX6_is (va_wsS RX6 66 yX6_in wsX6_in) := goodIn_app (goodIn_of _ (by decide +kernel)) ggX6_is_X6_in
set_option maxRecDepth 20000 in
theorem ggX6_is_X6_isOf : GoodIn wsX6_is wsX6_isOf := goodIn_ca (goodIn_r _ [14, 15, 16, 17, 18, 19, 20, 21, 22, 23, 24, 25, 26, 27, 28, 29, 30, 31, 32, 33, 34, 35, 36, 37, 38, 39] (by decide +kernel) (by decide +kernel)) (goodIn_sub (fun _ h => List.mem_cons_of_mem _ (List.mem_append_right _ h)) (by decide +kernel))
set_option maxRecDepth 20000 in
theorem gX6_is_X6_isOf : GoodIn wsX6_is (wsV RX6 70 RX6 yX6_isOf wsX6_isOf) := goodIn_app (goodIn_of _ (by decide +kernel)) ggX6_is_X6_isOf
theorem dX6_is_0 : decode cX6_is 0 = .ok (.aload_n 0, 1) := by decide +kernel
theorem dX6_is_1 : decode cX6_is 1 = .ok (.iconst 0, 1) := by decide +kernel
theorem dX6_is_2 : decode cX6_is 2 = .ok (.putfield 59, 3) := by decide +kernel
theorem dX6_is_5 : decode cX6_is 5 = .ok (.aload_n 0, 1) := by decide +kernel
theorem dX6_is_6 : decode cX6_is 6 = .ok (.iload_n 1, 1) := by decide +kernel
theorem dX6_is_7 : decode cX6_is 7 = .ok (.invokevirtual 82, 3) := by decide +kernel
theorem dX6_is_10 : decode cX6_is 10 = .ok (.ifCond .ne 7, 3) := by decide +kernel
theorem dX6_is_13 : decode cX6_is 13 = .ok (.iconst (-1), 1) := by decide +kernel
theorem dX6_is_14 : decode cX6_is 14 = .ok (.goto 32, 3) := by decide +kernel
theorem dX6_is_17 : decode cX6_is 17 = .ok (.iload_n 2, 1) := by decide +kernel
theorem dX6_is_18 : decode cX6_is 18 = .ok (.iconst 0, 1) := by decide +kernel
theorem dX6_is_19 : decode cX6_is 19 = .ok (.bipush 17, 2) := by decide +kernel
theorem dX6_is_21 : decode cX6_is 21 = .ok (.invokestatic 66, 3) := by decide +kernel
theorem dX6_is_24 : decode cX6_is 24 = .ok (.ifCond .ne 8, 3) := by decide +kernel
theorem dX6_is_27 : decode cX6_is 27 = .ok (.bipush (-2), 2) := by decide +kernel
theorem dX6_is_29 : decode cX6_is 29 = .ok (.goto 17, 3) := by decide +kernel
theorem dX6_is_32 : decode cX6_is 32 = .ok (.aload_n 0, 1) := by decide +kernel
theorem dX6_is_33 : decode cX6_is 33 = .ok (.iload_n 1, 1) := by decide +kernel
theorem dX6_is_34 : decode cX6_is 34 = .ok (.iload_n 2, 1) := by decide +kernel
theorem dX6_is_35 : decode cX6_is 35 = .ok (.invokevirtual 70, 3) := by decide +kernel
theorem dX6_is_38 : decode cX6_is 38 = .ok (.ifCond .eq 7, 3) := by decide +kernel
theorem dX6_is_41 : decode cX6_is 41 = .ok (.iconst 1, 1) := by decide +kernel
theorem dX6_is_42 : decode cX6_is 42 = .ok (.goto 4, 3) := by decide +kernel
theorem dX6_is_45 : decode cX6_is 45 = .ok (.iconst 0, 1) := by decide +kernel
theorem dX6_is_46 : decode cX6_is 46 = .ok (.ireturn, 1) := by decide +kernel
set_option maxRecDepth 20000 in
theorem ggX6_more_X6_isThing : GoodIn wsX6_more wsX6_isThing := goodIn_r _ [7, 8, 9, 10, 6, 11, 17, 18, 19, 20, 21, 22, 23, 24, 25, 26, 27, 28, 29, 30, 31, 32, 33, 34, 35, 36, 37, 38, 39] (by decide +kernel) (by decide +kernel)
set_option maxRecDepth 20000 in
theorem gX6_more_X6_isThing : GoodIn wsX6_more (wsV RX6 82 RX6 yX6_isThing wsX6_isThing) := goodIn_app (goodIn_of _ (by decide +kernel)) ggX6_more_X6_isThing
set_option maxRecDepth 20000 in
theorem ggX6_more_X6_isOf : GoodIn wsX6_more wsX6_isOf := goodIn_ca (goodIn_r _ [15, 16, 2, 17, 18, 19, 20, 21, 22, 23, 24, 25, 26, 27, 28, 29, 30, 31, 32, 33, 34, 35, 36, 37, 38, 39] (by decide +kernel) (by decide +kernel)) (goodIn_sub (fun _ h => List.mem_cons_of_mem _ (List.mem_append_right _ h)) (by decide +kernel))
set_option maxRecDepth 20000 in
theorem gX6_more_X6_isOf : GoodIn wsX6_more (wsV RX6 70 RX6 yX6_isOf wsX6_isOf) := goodIn_app (goodIn_of _ (by decide +kernel)) ggX6_more_X6_isOf
theorem dX6_more_0 : decode cX6_more 0 = .ok (.aload_n 0, 1) := by decide +kernel
theorem dX6_more_1 : decode cX6_more 1 = .ok (.iconst 0, 1) := by decide +kernel
theorem dX6_more_2 : decode cX6_more 2 = .ok (.putfield 59, 3) := by decide +kernel
theorem dX6_more_5 : decode cX6_more 5 = .ok (.aload_n 0, 1) := by decide +kernel
theorem dX6_more_6 : decode cX6_more 6 = .ok (.iload_n 1, 1) := by decide +kernel
theorem dX6_more_7 : decode cX6_more 7 = .ok (.invokevirtual 82, 3) := by decide +kernel
theorem dX6_more_10 : decode cX6_more 10 = .ok (.ifCond .ne 5, 3) := by decide +kernel
theorem dX6_more_13 : decode cX6_more 13 = .ok (.iconst (-1), 1) := by decide +kernel
theorem dX6_more_14 : decode cX6_more 14 = .ok (.ireturn, 1) := by decide +kernel
theorem dX6_more_15 : decode cX6_more 15 = .ok (.iconst 0, 1) := by decide +kernel
theorem dX6_more_16 : decode cX6_more 16 = .ok (.istore_n 2, 1) := by decide +kernel
theorem dX6_more_17 : decode cX6_more 17 = .ok (.iload_n 2, 1) := by decide +kernel
theorem dX6_more_18 : decode cX6_more 18 = .ok (.bipush 17, 2) := by decide +kernel
theorem dX6_more_20 : decode cX6_more 20 = .ok (.if_icmp .ge 30, 3) := by decide +kernel
theorem dX6_more_23 : decode cX6_more 23 = .ok (.iload_n 2, 1) := by decide +kernel
theorem dX6_more_24 : decode cX6_more 24 = .ok (.aload_n 0, 1) := by decide +kernel
theorem dX6_more_25 : decode cX6_more 25 = .ok (.getfield 7, 3) := by decide +kernel
theorem dX6_more_28 : decode cX6_more 28 = .ok (.iload_n 1, 1) := by decide +kernel
theorem dX6_more_29 : decode cX6_more 29 = .ok (.iaload, 1) := by decide +kernel
theorem dX6_more_30 : decode cX6_more 30 = .ok (.if_icmp .eq 14, 3) := by decide +kernel
theorem dX6_more_33 : decode cX6_more 33 = .ok (.aload_n 0, 1) := by decide +kernel
theorem dX6_more_34 : decode cX6_more 34 = .ok (.iload_n 1, 1) := by decide +kernel
theorem dX6_more_35 : decode cX6_more 35 = .ok (.iload_n 2, 1) := by decide +kernel
theorem dX6_more_36 : decode cX6_more 36 = .ok (.invokevirtual 70, 3) := by decide +kernel
theorem dX6_more_39 : decode cX6_more 39 = .ok (.ifCond .eq 5, 3) := by decide +kernel
theorem dX6_more_42 : decode cX6_more 42 = .ok (.iload_n 2, 1) := by decide +kernel
theorem dX6_more_43 : decode cX6_more 43 = .ok (.ireturn, 1) := by decide +kernel
theorem dX6_more_44 : decode cX6_more 44 = .ok (.iinc 2 1, 3) := by decide +kernel
theorem dX6_more_47 : decode cX6_more 47 = .ok (.goto (-30), 3) := by decide +kernel
theorem dX6_more_50 : decode cX6_more 50 = .ok (.bipush (-5), 2) := by decide +kernel
theorem dX6_more_52 : decode cX6_more 52 = .ok (.ireturn, 1) := by decide +kernel
set_option maxRecDepth 20000 in
theorem ggX6_weight_X6_isThing : GoodIn wsX6_weight wsX6_isThing := goodIn_r _ [10, 11, 12, 13, 9, 14, 26, 27, 28, 29, 30, 31, 32, 33, 34, 35, 36, 37, 38, 39, 40, 41, 42, 43, 44, 45, 46, 47, 48] (by decide +kernel) (by decide +kernel)
set_option maxRecDepth 20000 in
theorem gX6_weight_X6_isThing : GoodIn wsX6_weight (wsV RX6 82 RX6 yX6_isThing wsX6_isThing) := goodIn_app (goodIn_of _ (by decide +kernel)) ggX6_weight_X6_isThing
set_option maxRecDepth 20000 in
theorem ggX6_weight_X6_in : GoodIn wsX6_weight wsX6_in := goodIn_r _ [14] (by decide +kernel) (by decide +kernel)
set_option maxRecDepth 20000 in
theorem gX6_weight_X6_in : GoodIn wsX6_weight (va_wsS RX6 66 yX6_in wsX6_in) := goodIn_app (goodIn_of _ (by decide +kernel)) ggX6_weight_X6_in
set_option maxRecDepth 20000 in
theorem ggX6_weight_X6_isOf : GoodIn wsX6_weight wsX6_isOf := goodIn_ca (goodIn_r _ [18, 19, 20, 26, 27, 28, 29, 30, 31, 32, 33, 34, 35, 36, 37, 38, 39, 40, 41, 42, 43, 44, 45, 46, 47, 48] (by decide +kernel) (by decide +kernel)) (goodIn_sub (fun _ h => List.mem_cons_of_mem _ (List.mem_append_right _ h)) (by decide +kernel))
set_option maxRecDepth 20000 in
theorem gX6_weight_X6_isOf : GoodIn wsX6_weight (wsV RX6 70 RX6 yX6_isOf wsX6_isOf) := goodIn_app (goodIn_of _ (by decide +kernel)) ggX6_weight_X6_isOf
set_option maxRecDepth 20000 in
theorem ggX6_weight_X6_found : GoodIn wsX6_weight wsX6_found := goodIn_ca (goodIn_r _ [24, 25, 26, 27, 28, 29, 30, 31, 32, 33, 34, 35, 36, 37, 38, 39, 40, 41, 42, 43, 44, 45, 46, 47, 48] (by decide +kernel) (by decide +kernel)) (goodIn_sub (fun _ h => List.mem_cons_of_mem _ (List.mem_append_right _ h)) (by decide +kernel))
set_option maxRecDepth 20000 in
theorem gX6_weight_X6_found : GoodIn wsX6_weight (wsV RX6 78 RX6 yX6_found wsX6_found) := goodIn_app (goodIn_of _ (by decide +kernel)) ggX6_weight_X6_found
theorem dX6_weight_0 : decode cX6_weight 0 = .ok (.aload_n 0, 1) := by decide +kernel
theorem dX6_weight_1 : decode cX6_weight 1 = .ok (.iconst 0, 1) := by decide +kernel
theorem dX6_weight_2 : decode cX6_weight 2 = .ok (.putfield 59, 3) := by decide +kernel
theorem dX6_weight_5 : decode cX6_weight 5 = .ok (.aload_n 0, 1) := by decide +kernel
theorem dX6_weight_6 : decode cX6_weight 6 = .ok (.iload_n 1, 1) := by decide +kernel
theorem dX6_weight_7 : decode cX6_weight 7 = .ok (.invokevirtual 82, 3) := by decide +kernel
theorem dX6_weight_10 : decode cX6_weight 10 = .ok (.ifCond .ne 6, 3) := by decide +kernel
theorem dX6_weight_13 : decode cX6_weight 13 = .ok (.ldc 86, 2) := by decide +kernel
theorem dX6_weight_15 : decode cX6_weight 15 = .ok (.ireturn, 1) := by decide +kernel
theorem dX6_weight_16 : decode cX6_weight 16 = .ok (.iload_n 2, 1) := by decide +kernel
theorem dX6_weight_17 : decode cX6_weight 17 = .ok (.iconst 0, 1) := by decide +kernel
theorem dX6_weight_18 : decode cX6_weight 18 = .ok (.iconst 2, 1) := by decide +kernel
theorem dX6_weight_19 : decode cX6_weight 19 = .ok (.invokestatic 66, 3) := by decide +kernel
theorem dX6_weight_22 : decode cX6_weight 22 = .ok (.ifCond .ne 6, 3) := by decide +kernel
theorem dX6_weight_25 : decode cX6_weight 25 = .ok (.ldc 87, 2) := by decide +kernel
theorem dX6_weight_27 : decode cX6_weight 27 = .ok (.ireturn, 1) := by decide +kernel
theorem dX6_weight_28 : decode cX6_weight 28 = .ok (.aload_n 0, 1) := by decide +kernel
theorem dX6_weight_29 : decode cX6_weight 29 = .ok (.iload_n 1, 1) := by decide +kernel
theorem dX6_weight_30 : decode cX6_weight 30 = .ok (.iload_n 2, 1) := by decide +kernel
theorem dX6_weight_31 : decode cX6_weight 31 = .ok (.invokevirtual 70, 3) := by decide +kernel
theorem dX6_weight_34 : decode cX6_weight 34 = .ok (.ifCond .eq 12, 3) := by decide +kernel
theorem dX6_weight_37 : decode cX6_weight 37 = .ok (.aload_n 0, 1) := by decide +kernel
theorem dX6_weight_38 : decode cX6_weight 38 = .ok (.getfield 13, 3) := by decide +kernel
theorem dX6_weight_41 : decode cX6_weight 41 = .ok (.iload_n 1, 1) := by decide +kernel
theorem dX6_weight_42 : decode cX6_weight 42 = .ok (.iaload, 1) := by decide +kernel
theorem dX6_weight_43 : decode cX6_weight 43 = .ok (.goto 11, 3) := by decide +kernel
theorem dX6_weight_46 : decode cX6_weight 46 = .ok (.ldc 88, 2) := by decide +kernel
theorem dX6_weight_48 : decode cX6_weight 48 = .ok (.aload_n 0, 1) := by decide +kernel
theorem dX6_weight_49 : decode cX6_weight 49 = .ok (.iconst 1, 1) := by decide +kernel
theorem dX6_weight_50 : decode cX6_weight 50 = .ok (.invokevirtual 78, 3) := by decide +kernel
theorem dX6_weight_53 : decode cX6_weight 53 = .ok (.iadd, 1) := by decide +kernel
theorem dX6_weight_54 : decode cX6_weight 54 = .ok (.ireturn, 1) := by decide +kernel
set_option maxRecDepth 20000 in
theorem ggX6_refusal_X6_isThing : GoodIn wsX6_refusal wsX6_isThing := goodIn_r _ [5, 6, 7, 8, 4, 9, 10, 11, 12, 13, 14, 15, 16, 17, 18, 19, 20, 21, 22, 23, 24, 25, 26, 27, 28, 29, 30, 31, 32] (by decide +kernel) (by decide +kernel)
set_option maxRecDepth 20000 in
theorem gX6_refusal_X6_isThing : GoodIn wsX6_refusal (wsV RX6 82 RX6 yX6_isThing wsX6_isThing) := goodIn_app (goodIn_of _ (by decide +kernel)) ggX6_refusal_X6_isThing
set_option maxRecDepth 20000 in
theorem ggX6_refusal_X6_in : GoodIn wsX6_refusal wsX6_in := goodIn_r _ [9] (by decide +kernel) (by decide +kernel)
set_option maxRecDepth 20000 in
theorem gX6_refusal_X6_in : GoodIn wsX6_refusal (va_wsS RX6 66 yX6_in wsX6_in) := goodIn_app (goodIn_of _ (by decide +kernel)) ggX6_refusal_X6_in
theorem dX6_refusal_0 : decode cX6_refusal 0 = .ok (.aload_n 0, 1) := by decide +kernel
theorem dX6_refusal_1 : decode cX6_refusal 1 = .ok (.iload_n 1, 1) := by decide +kernel
theorem dX6_refusal_2 : decode cX6_refusal 2 = .ok (.invokevirtual 82, 3) := by decide +kernel
theorem dX6_refusal_5 : decode cX6_refusal 5 = .ok (.ifCond .ne 7, 3) := by decide +kernel
theorem dX6_refusal_8 : decode cX6_refusal 8 = .ok (.iconst (-1), 1) := by decide +kernel
theorem dX6_refusal_9 : decode cX6_refusal 9 = .ok (.goto 19, 3) := by decide +kernel
theorem dX6_refusal_12 : decode cX6_refusal 12 = .ok (.iload_n 2, 1) := by decide +kernel
theorem dX6_refusal_13 : decode cX6_refusal 13 = .ok (.iload_n 3, 1) := by decide +kernel
theorem dX6_refusal_14 : decode cX6_refusal 14 = .ok (.iload 4, 2) := by decide +kernel
theorem dX6_refusal_16 : decode cX6_refusal 16 = .ok (.invokestatic 66, 3) := by decide +kernel
theorem dX6_refusal_19 : decode cX6_refusal 19 = .ok (.ifCond .ne 8, 3) := by decide +kernel
theorem dX6_refusal_22 : decode cX6_refusal 22 = .ok (.bipush (-2), 2) := by decide +kernel
theorem dX6_refusal_24 : decode cX6_refusal 24 = .ok (.goto 4, 3) := by decide +kernel
theorem dX6_refusal_27 : decode cX6_refusal 27 = .ok (.iconst 0, 1) := by decide +kernel
theorem dX6_refusal_28 : decode cX6_refusal 28 = .ok (.ireturn, 1) := by decide +kernel
set_option maxRecDepth 20000 in
theorem ggX6_length_X6_refusal : GoodIn wsX6_length wsX6_refusal := goodIn_r _ [7, 8, 9, 10, 6, 11, 12, 13, 14, 15, 27, 28, 29, 30, 31, 32, 33, 34, 35, 36, 37, 38, 39, 40, 41, 42, 43, 44, 45, 46, 47, 48, 49] (by decide +kernel) (by decide +kernel)
set_option maxRecDepth 20000 in
theorem gX6_length_X6_refusal : GoodIn wsX6_length (wsV RX6 89 RX6 yX6_refusal wsX6_refusal) := goodIn_app (goodIn_of _ (by decide +kernel)) ggX6_length_X6_refusal
set_option maxRecDepth 20000 in
theorem ggX6_length_X6_isOf : GoodIn wsX6_length wsX6_isOf := goodIn_ca (goodIn_r _ [19, 20, 21, 27, 28, 29, 30, 31, 32, 33, 34, 35, 36, 37, 38, 39, 40, 41, 42, 43, 44, 45, 46, 47, 48, 49] (by decide +kernel) (by decide +kernel)) (goodIn_sub (fun _ h => List.mem_cons_of_mem _ (List.mem_append_right _ h)) (by decide +kernel))
set_option maxRecDepth 20000 in
theorem gX6_length_X6_isOf : GoodIn wsX6_length (wsV RX6 70 RX6 yX6_isOf wsX6_isOf) := goodIn_app (goodIn_of _ (by decide +kernel)) ggX6_length_X6_isOf
set_option maxRecDepth 20000 in
theorem ggX6_length_X6_found : GoodIn wsX6_length wsX6_found := goodIn_ca (goodIn_r _ [25, 26, 27, 28, 29, 30, 31, 32, 33, 34, 35, 36, 37, 38, 39, 40, 41, 42, 43, 44, 45, 46, 47, 48, 49] (by decide +kernel) (by decide +kernel)) (goodIn_sub (fun _ h => List.mem_cons_of_mem _ (List.mem_append_right _ h)) (by decide +kernel))
set_option maxRecDepth 20000 in
theorem gX6_length_X6_found : GoodIn wsX6_length (wsV RX6 78 RX6 yX6_found wsX6_found) := goodIn_app (goodIn_of _ (by decide +kernel)) ggX6_length_X6_found
theorem dX6_length_0 : decode cX6_length 0 = .ok (.aload_n 0, 1) := by decide +kernel
theorem dX6_length_1 : decode cX6_length 1 = .ok (.iconst 0, 1) := by decide +kernel
theorem dX6_length_2 : decode cX6_length 2 = .ok (.putfield 59, 3) := by decide +kernel
theorem dX6_length_5 : decode cX6_length 5 = .ok (.aload_n 0, 1) := by decide +kernel
theorem dX6_length_6 : decode cX6_length 6 = .ok (.iload_n 1, 1) := by decide +kernel
theorem dX6_length_7 : decode cX6_length 7 = .ok (.iload_n 2, 1) := by decide +kernel
theorem dX6_length_8 : decode cX6_length 8 = .ok (.iconst 4, 1) := by decide +kernel
theorem dX6_length_9 : decode cX6_length 9 = .ok (.bipush 15, 2) := by decide +kernel
theorem dX6_length_11 : decode cX6_length 11 = .ok (.invokevirtual 89, 3) := by decide +kernel
theorem dX6_length_14 : decode cX6_length 14 = .ok (.istore_n 3, 1) := by decide +kernel
theorem dX6_length_15 : decode cX6_length 15 = .ok (.iload_n 3, 1) := by decide +kernel
theorem dX6_length_16 : decode cX6_length 16 = .ok (.ifCond .ge 7, 3) := by decide +kernel
theorem dX6_length_19 : decode cX6_length 19 = .ok (.iload_n 3, 1) := by decide +kernel
theorem dX6_length_20 : decode cX6_length 20 = .ok (.goto 26, 3) := by decide +kernel
theorem dX6_length_23 : decode cX6_length 23 = .ok (.aload_n 0, 1) := by decide +kernel
theorem dX6_length_24 : decode cX6_length 24 = .ok (.iload_n 1, 1) := by decide +kernel
theorem dX6_length_25 : decode cX6_length 25 = .ok (.iload_n 2, 1) := by decide +kernel
theorem dX6_length_26 : decode cX6_length 26 = .ok (.invokevirtual 70, 3) := by decide +kernel
theorem dX6_length_29 : decode cX6_length 29 = .ok (.ifCond .eq 12, 3) := by decide +kernel
theorem dX6_length_32 : decode cX6_length 32 = .ok (.aload_n 0, 1) := by decide +kernel
theorem dX6_length_33 : decode cX6_length 33 = .ok (.getfield 16, 3) := by decide +kernel
theorem dX6_length_36 : decode cX6_length 36 = .ok (.iload_n 1, 1) := by decide +kernel
theorem dX6_length_37 : decode cX6_length 37 = .ok (.iaload, 1) := by decide +kernel
theorem dX6_length_38 : decode cX6_length 38 = .ok (.goto 8, 3) := by decide +kernel
theorem dX6_length_41 : decode cX6_length 41 = .ok (.aload_n 0, 1) := by decide +kernel
theorem dX6_length_42 : decode cX6_length 42 = .ok (.iconst 1, 1) := by decide +kernel
theorem dX6_length_43 : decode cX6_length 43 = .ok (.invokevirtual 78, 3) := by decide +kernel
theorem dX6_length_46 : decode cX6_length 46 = .ok (.ireturn, 1) := by decide +kernel
theorem dX6_low_0 : decode cX6_low 0 = .ok (.iload_n 0, 1) := by decide +kernel
theorem dX6_low_1 : decode cX6_low 1 = .ok (.iconst 4, 1) := by decide +kernel
theorem dX6_low_2 : decode cX6_low 2 = .ok (.if_icmp .ne 13, 3) := by decide +kernel
theorem dX6_low_5 : decode cX6_low 5 = .ok (.lload_n 1, 1) := by decide +kernel
theorem dX6_low_6 : decode cX6_low 6 = .ok (.bipush 56, 2) := by decide +kernel
theorem dX6_low_8 : decode cX6_low 8 = .ok (.lshl, 1) := by decide +kernel
theorem dX6_low_9 : decode cX6_low 9 = .ok (.bipush 56, 2) := by decide +kernel
theorem dX6_low_11 : decode cX6_low 11 = .ok (.lshr, 1) := by decide +kernel
theorem dX6_low_12 : decode cX6_low 12 = .ok (.goto 19, 3) := by decide +kernel
theorem dX6_low_15 : decode cX6_low 15 = .ok (.iload_n 0, 1) := by decide +kernel
theorem dX6_low_16 : decode cX6_low 16 = .ok (.iconst 5, 1) := by decide +kernel
theorem dX6_low_17 : decode cX6_low 17 = .ok (.if_icmp .ne 13, 3) := by decide +kernel
theorem dX6_low_20 : decode cX6_low 20 = .ok (.lload_n 1, 1) := by decide +kernel
theorem dX6_low_21 : decode cX6_low 21 = .ok (.bipush 32, 2) := by decide +kernel
theorem dX6_low_23 : decode cX6_low 23 = .ok (.lshl, 1) := by decide +kernel
theorem dX6_low_24 : decode cX6_low 24 = .ok (.bipush 32, 2) := by decide +kernel
theorem dX6_low_26 : decode cX6_low 26 = .ok (.lshr, 1) := by decide +kernel
theorem dX6_low_27 : decode cX6_low 27 = .ok (.goto 4, 3) := by decide +kernel
theorem dX6_low_30 : decode cX6_low 30 = .ok (.lload_n 1, 1) := by decide +kernel
theorem dX6_low_31 : decode cX6_low 31 = .ok (.lreturn, 1) := by decide +kernel
set_option maxRecDepth 20000 in
theorem ggX6_put_X6_refusal : GoodIn wsX6_put wsX6_refusal := goodIn_r _ [8, 9, 10, 11, 7, 12, 13, 14, 15, 16, 31, 32, 33, 34, 35, 36, 37, 38, 39, 40, 41, 42, 43, 44, 45, 46, 47, 48, 49, 50, 51, 52, 53] (by decide +kernel) (by decide +kernel)
set_option maxRecDepth 20000 in
theorem gX6_put_X6_refusal : GoodIn wsX6_put (wsV RX6 89 RX6 yX6_refusal wsX6_refusal) := goodIn_app (goodIn_of _ (by decide +kernel)) ggX6_put_X6_refusal
set_option maxRecDepth 20000 in
theorem ggX6_put_X6_isOf : GoodIn wsX6_put wsX6_isOf := goodIn_ca (goodIn_r _ [20, 21, 22, 31, 32, 33, 34, 35, 36, 37, 38, 39, 40, 41, 42, 43, 44, 45, 46, 47, 48, 49, 50, 51, 52, 53] (by decide +kernel) (by decide +kernel)) (goodIn_sub (fun _ h => List.mem_cons_of_mem _ (List.mem_append_right _ h)) (by decide +kernel))
set_option maxRecDepth 20000 in
theorem gX6_put_X6_isOf : GoodIn wsX6_put (wsV RX6 70 RX6 yX6_isOf wsX6_isOf) := goodIn_app (goodIn_of _ (by decide +kernel)) ggX6_put_X6_isOf
set_option maxRecDepth 20000 in
theorem ggX6_put_X6_found : GoodIn wsX6_put wsX6_found := goodIn_ca (goodIn_r _ [26, 27, 31, 32, 33, 34, 35, 36, 37, 38, 39, 40, 41, 42, 43, 44, 45, 46, 47, 48, 49, 50, 51, 52, 53] (by decide +kernel) (by decide +kernel)) (goodIn_sub (fun _ h => List.mem_cons_of_mem _ (List.mem_append_right _ h)) (by decide +kernel))
set_option maxRecDepth 20000 in
theorem gX6_put_X6_found : GoodIn wsX6_put (wsV RX6 78 RX6 yX6_found wsX6_found) := goodIn_app (goodIn_of _ (by decide +kernel)) ggX6_put_X6_found
set_option maxRecDepth 20000 in
theorem ggX6_put_X6_in : GoodIn wsX6_put wsX6_in := goodIn_r _ [16] (by decide +kernel) (by decide +kernel)
set_option maxRecDepth 20000 in
theorem gX6_put_X6_in : GoodIn wsX6_put (va_wsS RX6 66 yX6_in wsX6_in) := goodIn_app (goodIn_of _ (by decide +kernel)) ggX6_put_X6_in
set_option maxRecDepth 20000 in
theorem ggX6_put_X6_low : GoodIn wsX6_put wsX6_low := goodIn_r _ [30] (by decide +kernel) (by decide +kernel)
set_option maxRecDepth 20000 in
theorem gX6_put_X6_low : GoodIn wsX6_put (va_wsS RX6 93 yX6_low wsX6_low) := goodIn_app (goodIn_of _ (by decide +kernel)) ggX6_put_X6_low
theorem dX6_put_0 : decode cX6_put 0 = .ok (.aload_n 0, 1) := by decide +kernel
theorem dX6_put_1 : decode cX6_put 1 = .ok (.iconst 0, 1) := by decide +kernel
theorem dX6_put_2 : decode cX6_put 2 = .ok (.putfield 59, 3) := by decide +kernel
theorem dX6_put_5 : decode cX6_put 5 = .ok (.aload_n 0, 1) := by decide +kernel
theorem dX6_put_6 : decode cX6_put 6 = .ok (.iload_n 1, 1) := by decide +kernel
theorem dX6_put_7 : decode cX6_put 7 = .ok (.iload_n 2, 1) := by decide +kernel
theorem dX6_put_8 : decode cX6_put 8 = .ok (.iconst 4, 1) := by decide +kernel
theorem dX6_put_9 : decode cX6_put 9 = .ok (.bipush 6, 2) := by decide +kernel
theorem dX6_put_11 : decode cX6_put 11 = .ok (.invokevirtual 89, 3) := by decide +kernel
theorem dX6_put_14 : decode cX6_put 14 = .ok (.istore 6, 2) := by decide +kernel
theorem dX6_put_16 : decode cX6_put 16 = .ok (.iload 6, 2) := by decide +kernel
theorem dX6_put_18 : decode cX6_put 18 = .ok (.ifCond .ge 6, 3) := by decide +kernel
theorem dX6_put_21 : decode cX6_put 21 = .ok (.iload 6, 2) := by decide +kernel
theorem dX6_put_23 : decode cX6_put 23 = .ok (.ireturn, 1) := by decide +kernel
theorem dX6_put_24 : decode cX6_put 24 = .ok (.aload_n 0, 1) := by decide +kernel
theorem dX6_put_25 : decode cX6_put 25 = .ok (.iload_n 1, 1) := by decide +kernel
theorem dX6_put_26 : decode cX6_put 26 = .ok (.iload_n 2, 1) := by decide +kernel
theorem dX6_put_27 : decode cX6_put 27 = .ok (.invokevirtual 70, 3) := by decide +kernel
theorem dX6_put_30 : decode cX6_put 30 = .ok (.ifCond .ne 9, 3) := by decide +kernel
theorem dX6_put_33 : decode cX6_put 33 = .ok (.aload_n 0, 1) := by decide +kernel
theorem dX6_put_34 : decode cX6_put 34 = .ok (.iconst 1, 1) := by decide +kernel
theorem dX6_put_35 : decode cX6_put 35 = .ok (.invokevirtual 78, 3) := by decide +kernel
theorem dX6_put_38 : decode cX6_put 38 = .ok (.ireturn, 1) := by decide +kernel
theorem dX6_put_39 : decode cX6_put 39 = .ok (.iload_n 3, 1) := by decide +kernel
theorem dX6_put_40 : decode cX6_put 40 = .ok (.iconst 0, 1) := by decide +kernel
theorem dX6_put_41 : decode cX6_put 41 = .ok (.aload_n 0, 1) := by decide +kernel
theorem dX6_put_42 : decode cX6_put 42 = .ok (.getfield 16, 3) := by decide +kernel
theorem dX6_put_45 : decode cX6_put 45 = .ok (.iload_n 1, 1) := by decide +kernel
theorem dX6_put_46 : decode cX6_put 46 = .ok (.iaload, 1) := by decide +kernel
theorem dX6_put_47 : decode cX6_put 47 = .ok (.iconst 1, 1) := by decide +kernel
theorem dX6_put_48 : decode cX6_put 48 = .ok (.isub, 1) := by decide +kernel
theorem dX6_put_49 : decode cX6_put 49 = .ok (.invokestatic 66, 3) := by decide +kernel
theorem dX6_put_52 : decode cX6_put 52 = .ok (.ifCond .ne 9, 3) := by decide +kernel
theorem dX6_put_55 : decode cX6_put 55 = .ok (.aload_n 0, 1) := by decide +kernel
theorem dX6_put_56 : decode cX6_put 56 = .ok (.iconst 3, 1) := by decide +kernel
theorem dX6_put_57 : decode cX6_put 57 = .ok (.invokevirtual 78, 3) := by decide +kernel
theorem dX6_put_60 : decode cX6_put 60 = .ok (.ireturn, 1) := by decide +kernel
theorem dX6_put_61 : decode cX6_put 61 = .ok (.aload_n 0, 1) := by decide +kernel
theorem dX6_put_62 : decode cX6_put 62 = .ok (.getfield 19, 3) := by decide +kernel
theorem dX6_put_65 : decode cX6_put 65 = .ok (.bipush 8, 2) := by decide +kernel
theorem dX6_put_67 : decode cX6_put 67 = .ok (.iload_n 1, 1) := by decide +kernel
theorem dX6_put_68 : decode cX6_put 68 = .ok (.imul, 1) := by decide +kernel
theorem dX6_put_69 : decode cX6_put 69 = .ok (.iload_n 3, 1) := by decide +kernel
theorem dX6_put_70 : decode cX6_put 70 = .ok (.iadd, 1) := by decide +kernel
theorem dX6_put_71 : decode cX6_put 71 = .ok (.iload_n 2, 1) := by decide +kernel
theorem dX6_put_72 : decode cX6_put 72 = .ok (.lload 4, 2) := by decide +kernel
theorem dX6_put_74 : decode cX6_put 74 = .ok (.invokestatic 93, 3) := by decide +kernel
theorem dX6_put_77 : decode cX6_put 77 = .ok (.lastore, 1) := by decide +kernel
theorem dX6_put_78 : decode cX6_put 78 = .ok (.iconst 1, 1) := by decide +kernel
theorem dX6_put_79 : decode cX6_put 79 = .ok (.ireturn, 1) := by decide +kernel
set_option maxRecDepth 20000 in
theorem ggX6_number_X6_refusal : GoodIn wsX6_number wsX6_refusal := goodIn_r _ [8, 9, 10, 11, 7, 12, 13, 14, 15, 16, 23, 24, 25, 26, 27, 28, 29, 30, 31, 32, 33, 34, 35, 36, 37, 38, 39, 40, 41, 42, 43, 44, 45] (by decide +kernel) (by decide +kernel)
set_option maxRecDepth 20000 in
theorem gX6_number_X6_refusal : GoodIn wsX6_number (wsV RX6 89 RX6 yX6_refusal wsX6_refusal) := goodIn_app (goodIn_of _ (by decide +kernel)) ggX6_number_X6_refusal
set_option maxRecDepth 20000 in
theorem ggX6_number_X6_isOf : GoodIn wsX6_number wsX6_isOf := goodIn_ca (goodIn_r _ [20, 21, 22, 23, 24, 25, 26, 27, 28, 29, 30, 31, 32, 33, 34, 35, 36, 37, 38, 39, 40, 41, 42, 43, 44, 45] (by decide +kernel) (by decide +kernel)) (goodIn_sub (fun _ h => List.mem_cons_of_mem _ (List.mem_append_right _ h)) (by decide +kernel))
set_option maxRecDepth 20000 in
theorem gX6_number_X6_isOf : GoodIn wsX6_number (wsV RX6 70 RX6 yX6_isOf wsX6_isOf) := goodIn_app (goodIn_of _ (by decide +kernel)) ggX6_number_X6_isOf
set_option maxRecDepth 20000 in
theorem ggX6_number_X6_in : GoodIn wsX6_number wsX6_in := goodIn_r _ [16] (by decide +kernel) (by decide +kernel)
set_option maxRecDepth 20000 in
theorem gX6_number_X6_in : GoodIn wsX6_number (va_wsS RX6 66 yX6_in wsX6_in) := goodIn_app (goodIn_of _ (by decide +kernel)) ggX6_number_X6_in
theorem dX6_number_0 : decode cX6_number 0 = .ok (.aload_n 0, 1) := by decide +kernel
theorem dX6_number_1 : decode cX6_number 1 = .ok (.iconst 0, 1) := by decide +kernel
theorem dX6_number_2 : decode cX6_number 2 = .ok (.putfield 59, 3) := by decide +kernel
theorem dX6_number_5 : decode cX6_number 5 = .ok (.aload_n 0, 1) := by decide +kernel
theorem dX6_number_6 : decode cX6_number 6 = .ok (.iload_n 1, 1) := by decide +kernel
theorem dX6_number_7 : decode cX6_number 7 = .ok (.iload_n 2, 1) := by decide +kernel
theorem dX6_number_8 : decode cX6_number 8 = .ok (.iconst 4, 1) := by decide +kernel
theorem dX6_number_9 : decode cX6_number 9 = .ok (.bipush 6, 2) := by decide +kernel
theorem dX6_number_11 : decode cX6_number 11 = .ok (.invokevirtual 89, 3) := by decide +kernel
theorem dX6_number_14 : decode cX6_number 14 = .ok (.ifCond .ge 5, 3) := by decide +kernel
theorem dX6_number_17 : decode cX6_number 17 = .ok (.lconst 0, 1) := by decide +kernel
theorem dX6_number_18 : decode cX6_number 18 = .ok (.lreturn, 1) := by decide +kernel
theorem dX6_number_19 : decode cX6_number 19 = .ok (.aload_n 0, 1) := by decide +kernel
theorem dX6_number_20 : decode cX6_number 20 = .ok (.aload_n 0, 1) := by decide +kernel
theorem dX6_number_21 : decode cX6_number 21 = .ok (.iload_n 1, 1) := by decide +kernel
theorem dX6_number_22 : decode cX6_number 22 = .ok (.iload_n 2, 1) := by decide +kernel
theorem dX6_number_23 : decode cX6_number 23 = .ok (.invokevirtual 70, 3) := by decide +kernel
theorem dX6_number_26 : decode cX6_number 26 = .ok (.ifCond .ne 7, 3) := by decide +kernel
theorem dX6_number_29 : decode cX6_number 29 = .ok (.iconst 1, 1) := by decide +kernel
theorem dX6_number_30 : decode cX6_number 30 = .ok (.goto 24, 3) := by decide +kernel
theorem dX6_number_33 : decode cX6_number 33 = .ok (.iload_n 3, 1) := by decide +kernel
theorem dX6_number_34 : decode cX6_number 34 = .ok (.iconst 0, 1) := by decide +kernel
theorem dX6_number_35 : decode cX6_number 35 = .ok (.aload_n 0, 1) := by decide +kernel
theorem dX6_number_36 : decode cX6_number 36 = .ok (.getfield 16, 3) := by decide +kernel
theorem dX6_number_39 : decode cX6_number 39 = .ok (.iload_n 1, 1) := by decide +kernel
theorem dX6_number_40 : decode cX6_number 40 = .ok (.iaload, 1) := by decide +kernel
theorem dX6_number_41 : decode cX6_number 41 = .ok (.iconst 1, 1) := by decide +kernel
theorem dX6_number_42 : decode cX6_number 42 = .ok (.isub, 1) := by decide +kernel
theorem dX6_number_43 : decode cX6_number 43 = .ok (.invokestatic 66, 3) := by decide +kernel
theorem dX6_number_46 : decode cX6_number 46 = .ok (.ifCond .ne 7, 3) := by decide +kernel
theorem dX6_number_49 : decode cX6_number 49 = .ok (.iconst 2, 1) := by decide +kernel
theorem dX6_number_50 : decode cX6_number 50 = .ok (.goto 4, 3) := by decide +kernel
theorem dX6_number_53 : decode cX6_number 53 = .ok (.iconst 0, 1) := by decide +kernel
theorem dX6_number_54 : decode cX6_number 54 = .ok (.putfield 59, 3) := by decide +kernel
theorem dX6_number_57 : decode cX6_number 57 = .ok (.aload_n 0, 1) := by decide +kernel
theorem dX6_number_58 : decode cX6_number 58 = .ok (.getfield 59, 3) := by decide +kernel
theorem dX6_number_61 : decode cX6_number 61 = .ok (.ifCond .le 7, 3) := by decide +kernel
theorem dX6_number_64 : decode cX6_number 64 = .ok (.lconst 0, 1) := by decide +kernel
theorem dX6_number_65 : decode cX6_number 65 = .ok (.goto 14, 3) := by decide +kernel
theorem dX6_number_68 : decode cX6_number 68 = .ok (.aload_n 0, 1) := by decide +kernel
theorem dX6_number_69 : decode cX6_number 69 = .ok (.getfield 19, 3) := by decide +kernel
theorem dX6_number_72 : decode cX6_number 72 = .ok (.bipush 8, 2) := by decide +kernel
theorem dX6_number_74 : decode cX6_number 74 = .ok (.iload_n 1, 1) := by decide +kernel
theorem dX6_number_75 : decode cX6_number 75 = .ok (.imul, 1) := by decide +kernel
theorem dX6_number_76 : decode cX6_number 76 = .ok (.iload_n 3, 1) := by decide +kernel
theorem dX6_number_77 : decode cX6_number 77 = .ok (.iadd, 1) := by decide +kernel
theorem dX6_number_78 : decode cX6_number 78 = .ok (.laload, 1) := by decide +kernel
theorem dX6_number_79 : decode cX6_number 79 = .ok (.lreturn, 1) := by decide +kernel
set_option maxRecDepth 20000 in
theorem ggX6_lays_X6_isOf : GoodIn wsX6_lays wsX6_isOf := goodIn_ca (goodIn_r _ [9, 10, 3, 18, 19, 20, 21, 22, 23, 24, 25, 26, 27, 28, 29, 30, 31, 32, 33, 34, 35, 36, 37, 38, 39, 40] (by decide +kernel) (by decide +kernel)) (goodIn_sub (fun _ h => List.mem_cons_of_mem _ (List.mem_append_right _ h)) (by decide +kernel))
set_option maxRecDepth 20000 in
theorem gX6_lays_X6_isOf : GoodIn wsX6_lays (wsV RX6 70 RX6 yX6_isOf wsX6_isOf) := goodIn_app (goodIn_of _ (by decide +kernel)) ggX6_lays_X6_isOf
set_option maxRecDepth 20000 in
theorem ggX6_lays_X6_passes : GoodIn wsX6_lays wsX6_passes := goodIn_ca (goodIn_r _ [14, 5, 6, 7, 8, 9, 10, 3, 18, 19, 20, 21, 22, 23, 24, 25, 26, 27, 28, 29, 30, 31, 32, 33, 34, 35, 36, 37, 38, 39, 40] (by decide +kernel) (by decide +kernel)) (goodIn_sub (fun _ h => List.mem_cons_of_mem _ (List.mem_append_right _ h)) (by decide +kernel))
set_option maxRecDepth 20000 in
theorem gX6_lays_X6_passes : GoodIn wsX6_lays (wsV RX6 97 RX6 yX6_passes wsX6_passes) := goodIn_app (goodIn_of _ (by decide +kernel)) ggX6_lays_X6_passes
set_option maxRecDepth 20000 in
theorem ggX6_lays_X6_in : GoodIn wsX6_lays wsX6_in := goodIn_r _ [17] (by decide +kernel) (by decide +kernel)
set_option maxRecDepth 20000 in
theorem gX6_lays_X6_in : GoodIn wsX6_lays (va_wsS RX6 66 yX6_in wsX6_in) := goodIn_app (goodIn_of _ (by decide +kernel)) ggX6_lays_X6_in
theorem dX6_lays_0 : decode cX6_lays 0 = .ok (.aload_n 0, 1) := by decide +kernel
theorem dX6_lays_1 : decode cX6_lays 1 = .ok (.iload_n 1, 1) := by decide +kernel
theorem dX6_lays_2 : decode cX6_lays 2 = .ok (.iload_n 2, 1) := by decide +kernel
theorem dX6_lays_3 : decode cX6_lays 3 = .ok (.invokevirtual 70, 3) := by decide +kernel
theorem dX6_lays_6 : decode cX6_lays 6 = .ok (.ifCond .eq 18, 3) := by decide +kernel
theorem dX6_lays_9 : decode cX6_lays 9 = .ok (.aload_n 0, 1) := by decide +kernel
theorem dX6_lays_10 : decode cX6_lays 10 = .ok (.iload 4, 2) := by decide +kernel
theorem dX6_lays_12 : decode cX6_lays 12 = .ok (.aload_n 0, 1) := by decide +kernel
theorem dX6_lays_13 : decode cX6_lays 13 = .ok (.getfield 32, 3) := by decide +kernel
theorem dX6_lays_16 : decode cX6_lays 16 = .ok (.iload_n 2, 1) := by decide +kernel
theorem dX6_lays_17 : decode cX6_lays 17 = .ok (.iaload, 1) := by decide +kernel
theorem dX6_lays_18 : decode cX6_lays 18 = .ok (.invokevirtual 97, 3) := by decide +kernel
theorem dX6_lays_21 : decode cX6_lays 21 = .ok (.ifCond .ne 5, 3) := by decide +kernel
theorem dX6_lays_24 : decode cX6_lays 24 = .ok (.iconst 1, 1) := by decide +kernel
theorem dX6_lays_25 : decode cX6_lays 25 = .ok (.ireturn, 1) := by decide +kernel
theorem dX6_lays_26 : decode cX6_lays 26 = .ok (.iload_n 3, 1) := by decide +kernel
theorem dX6_lays_27 : decode cX6_lays 27 = .ok (.iconst 0, 1) := by decide +kernel
theorem dX6_lays_28 : decode cX6_lays 28 = .ok (.aload_n 0, 1) := by decide +kernel
theorem dX6_lays_29 : decode cX6_lays 29 = .ok (.getfield 16, 3) := by decide +kernel
theorem dX6_lays_32 : decode cX6_lays 32 = .ok (.iload_n 1, 1) := by decide +kernel
theorem dX6_lays_33 : decode cX6_lays 33 = .ok (.iaload, 1) := by decide +kernel
theorem dX6_lays_34 : decode cX6_lays 34 = .ok (.iconst 1, 1) := by decide +kernel
theorem dX6_lays_35 : decode cX6_lays 35 = .ok (.isub, 1) := by decide +kernel
theorem dX6_lays_36 : decode cX6_lays 36 = .ok (.invokestatic 66, 3) := by decide +kernel
theorem dX6_lays_39 : decode cX6_lays 39 = .ok (.ifCond .ne 5, 3) := by decide +kernel
theorem dX6_lays_42 : decode cX6_lays 42 = .ok (.iconst 3, 1) := by decide +kernel
theorem dX6_lays_43 : decode cX6_lays 43 = .ok (.ireturn, 1) := by decide +kernel
theorem dX6_lays_44 : decode cX6_lays 44 = .ok (.aload_n 0, 1) := by decide +kernel
theorem dX6_lays_45 : decode cX6_lays 45 = .ok (.iload 4, 2) := by decide +kernel
theorem dX6_lays_47 : decode cX6_lays 47 = .ok (.aload_n 0, 1) := by decide +kernel
theorem dX6_lays_48 : decode cX6_lays 48 = .ok (.getfield 32, 3) := by decide +kernel
theorem dX6_lays_51 : decode cX6_lays 51 = .ok (.aload_n 0, 1) := by decide +kernel
theorem dX6_lays_52 : decode cX6_lays 52 = .ok (.getfield 7, 3) := by decide +kernel
theorem dX6_lays_55 : decode cX6_lays 55 = .ok (.iload_n 1, 1) := by decide +kernel
theorem dX6_lays_56 : decode cX6_lays 56 = .ok (.iaload, 1) := by decide +kernel
theorem dX6_lays_57 : decode cX6_lays 57 = .ok (.iaload, 1) := by decide +kernel
theorem dX6_lays_58 : decode cX6_lays 58 = .ok (.invokevirtual 97, 3) := by decide +kernel
theorem dX6_lays_61 : decode cX6_lays 61 = .ok (.ifCond .ne 5, 3) := by decide +kernel
theorem dX6_lays_64 : decode cX6_lays 64 = .ok (.iconst 4, 1) := by decide +kernel
theorem dX6_lays_65 : decode cX6_lays 65 = .ok (.ireturn, 1) := by decide +kernel
theorem dX6_lays_66 : decode cX6_lays 66 = .ok (.aload_n 0, 1) := by decide +kernel
theorem dX6_lays_67 : decode cX6_lays 67 = .ok (.getfield 23, 3) := by decide +kernel
theorem dX6_lays_70 : decode cX6_lays 70 = .ok (.bipush 8, 2) := by decide +kernel
theorem dX6_lays_72 : decode cX6_lays 72 = .ok (.iload_n 1, 1) := by decide +kernel
theorem dX6_lays_73 : decode cX6_lays 73 = .ok (.imul, 1) := by decide +kernel
theorem dX6_lays_74 : decode cX6_lays 74 = .ok (.iload_n 3, 1) := by decide +kernel
theorem dX6_lays_75 : decode cX6_lays 75 = .ok (.iadd, 1) := by decide +kernel
theorem dX6_lays_76 : decode cX6_lays 76 = .ok (.iload 4, 2) := by decide +kernel
theorem dX6_lays_78 : decode cX6_lays 78 = .ok (.iastore, 1) := by decide +kernel
theorem dX6_lays_79 : decode cX6_lays 79 = .ok (.iconst 0, 1) := by decide +kernel
theorem dX6_lays_80 : decode cX6_lays 80 = .ok (.ireturn, 1) := by decide +kernel
set_option maxRecDepth 20000 in
theorem ggX6_lay_X6_isThing : GoodIn wsX6_lay wsX6_isThing := goodIn_r _ [6, 7, 8, 9, 5, 10, 33, 34, 35, 36, 37, 38, 39, 40, 41, 42, 43, 44, 45, 46, 47, 48, 49, 50, 51, 52, 53, 54, 55] (by decide +kernel) (by decide +kernel)
set_option maxRecDepth 20000 in
theorem gX6_lay_X6_isThing : GoodIn wsX6_lay (wsV RX6 82 RX6 yX6_isThing wsX6_isThing) := goodIn_app (goodIn_of _ (by decide +kernel)) ggX6_lay_X6_isThing
set_option maxRecDepth 20000 in
theorem ggX6_lay_X6_in : GoodIn wsX6_lay wsX6_in := goodIn_r _ [10] (by decide +kernel) (by decide +kernel)
set_option maxRecDepth 20000 in
theorem gX6_lay_X6_in : GoodIn wsX6_lay (va_wsS RX6 66 yX6_in wsX6_in) := goodIn_app (goodIn_of _ (by decide +kernel)) ggX6_lay_X6_in
set_option maxRecDepth 20000 in
theorem ggX6_lay_X6_lays : GoodIn wsX6_lay wsX6_lays := goodIn_ca (goodIn_r _ [14, 15, 16, 17, 18, 19, 20, 21, 5, 22, 23, 24, 25, 26, 27, 8, 9, 10, 33, 34, 35, 36, 37, 38, 39, 40, 41, 42, 43, 44, 45, 46, 47, 48, 49, 50, 51, 52, 53, 54, 55] (by decide +kernel) (by decide +kernel)) (goodIn_sub (fun _ h => List.mem_cons_of_mem _ (List.mem_append_right _ h)) (by decide +kernel))
set_option maxRecDepth 20000 in
theorem gX6_lay_X6_lays : GoodIn wsX6_lay (wsV RX6 100 RX6 yX6_lays wsX6_lays) := goodIn_app (goodIn_of _ (by decide +kernel)) ggX6_lay_X6_lays
set_option maxRecDepth 20000 in
theorem ggX6_lay_X6_found : GoodIn wsX6_lay wsX6_found := goodIn_ca (goodIn_r _ [31, 32, 33, 34, 35, 36, 37, 38, 39, 40, 41, 42, 43, 44, 45, 46, 47, 48, 49, 50, 51, 52, 53, 54, 55] (by decide +kernel) (by decide +kernel)) (goodIn_sub (fun _ h => List.mem_cons_of_mem _ (List.mem_append_right _ h)) (by decide +kernel))
set_option maxRecDepth 20000 in
theorem gX6_lay_X6_found : GoodIn wsX6_lay (wsV RX6 78 RX6 yX6_found wsX6_found) := goodIn_app (goodIn_of _ (by decide +kernel)) ggX6_lay_X6_found
theorem dX6_lay_0 : decode cX6_lay 0 = .ok (.aload_n 0, 1) := by decide +kernel
theorem dX6_lay_1 : decode cX6_lay 1 = .ok (.iconst 0, 1) := by decide +kernel
theorem dX6_lay_2 : decode cX6_lay 2 = .ok (.putfield 59, 3) := by decide +kernel
theorem dX6_lay_5 : decode cX6_lay 5 = .ok (.aload_n 0, 1) := by decide +kernel
theorem dX6_lay_6 : decode cX6_lay 6 = .ok (.iload_n 1, 1) := by decide +kernel
theorem dX6_lay_7 : decode cX6_lay 7 = .ok (.invokevirtual 82, 3) := by decide +kernel
theorem dX6_lay_10 : decode cX6_lay 10 = .ok (.ifCond .eq 19, 3) := by decide +kernel
theorem dX6_lay_13 : decode cX6_lay 13 = .ok (.iload 4, 2) := by decide +kernel
theorem dX6_lay_15 : decode cX6_lay 15 = .ok (.bipush (-5), 2) := by decide +kernel
theorem dX6_lay_17 : decode cX6_lay 17 = .ok (.if_icmp .eq 14, 3) := by decide +kernel
theorem dX6_lay_20 : decode cX6_lay 20 = .ok (.aload_n 0, 1) := by decide +kernel
theorem dX6_lay_21 : decode cX6_lay 21 = .ok (.iload 4, 2) := by decide +kernel
theorem dX6_lay_23 : decode cX6_lay 23 = .ok (.invokevirtual 82, 3) := by decide +kernel
theorem dX6_lay_26 : decode cX6_lay 26 = .ok (.ifCond .ne 5, 3) := by decide +kernel
theorem dX6_lay_29 : decode cX6_lay 29 = .ok (.iconst (-1), 1) := by decide +kernel
theorem dX6_lay_30 : decode cX6_lay 30 = .ok (.ireturn, 1) := by decide +kernel
theorem dX6_lay_31 : decode cX6_lay 31 = .ok (.iload_n 2, 1) := by decide +kernel
theorem dX6_lay_32 : decode cX6_lay 32 = .ok (.bipush 7, 2) := by decide +kernel
theorem dX6_lay_34 : decode cX6_lay 34 = .ok (.bipush 15, 2) := by decide +kernel
theorem dX6_lay_36 : decode cX6_lay 36 = .ok (.invokestatic 66, 3) := by decide +kernel
theorem dX6_lay_39 : decode cX6_lay 39 = .ok (.ifCond .ne 6, 3) := by decide +kernel
theorem dX6_lay_42 : decode cX6_lay 42 = .ok (.bipush (-2), 2) := by decide +kernel
theorem dX6_lay_44 : decode cX6_lay 44 = .ok (.ireturn, 1) := by decide +kernel
theorem dX6_lay_45 : decode cX6_lay 45 = .ok (.aload_n 0, 1) := by decide +kernel
theorem dX6_lay_46 : decode cX6_lay 46 = .ok (.iload_n 1, 1) := by decide +kernel
theorem dX6_lay_47 : decode cX6_lay 47 = .ok (.iload_n 2, 1) := by decide +kernel
theorem dX6_lay_48 : decode cX6_lay 48 = .ok (.iload_n 3, 1) := by decide +kernel
theorem dX6_lay_49 : decode cX6_lay 49 = .ok (.iload 4, 2) := by decide +kernel
theorem dX6_lay_51 : decode cX6_lay 51 = .ok (.bipush (-5), 2) := by decide +kernel
theorem dX6_lay_53 : decode cX6_lay 53 = .ok (.if_icmp .ne 7, 3) := by decide +kernel
theorem dX6_lay_56 : decode cX6_lay 56 = .ok (.iconst (-1), 1) := by decide +kernel
theorem dX6_lay_57 : decode cX6_lay 57 = .ok (.goto 5, 3) := by decide +kernel
theorem dX6_lay_60 : decode cX6_lay 60 = .ok (.iload 4, 2) := by decide +kernel
theorem dX6_lay_62 : decode cX6_lay 62 = .ok (.invokevirtual 100, 3) := by decide +kernel
theorem dX6_lay_65 : decode cX6_lay 65 = .ok (.istore 5, 2) := by decide +kernel
theorem dX6_lay_67 : decode cX6_lay 67 = .ok (.iload 5, 2) := by decide +kernel
theorem dX6_lay_69 : decode cX6_lay 69 = .ok (.ifCond .ne 7, 3) := by decide +kernel
theorem dX6_lay_72 : decode cX6_lay 72 = .ok (.iconst 1, 1) := by decide +kernel
theorem dX6_lay_73 : decode cX6_lay 73 = .ok (.goto 9, 3) := by decide +kernel
theorem dX6_lay_76 : decode cX6_lay 76 = .ok (.aload_n 0, 1) := by decide +kernel
theorem dX6_lay_77 : decode cX6_lay 77 = .ok (.iload 5, 2) := by decide +kernel
theorem dX6_lay_79 : decode cX6_lay 79 = .ok (.invokevirtual 78, 3) := by decide +kernel
theorem dX6_lay_82 : decode cX6_lay 82 = .ok (.ireturn, 1) := by decide +kernel
theorem dX6_told_0 : decode cX6_told 0 = .ok (.iload_n 0, 1) := by decide +kernel
theorem dX6_told_1 : decode cX6_told 1 = .ok (.ifCond .ge 8, 3) := by decide +kernel
theorem dX6_told_4 : decode cX6_told 4 = .ok (.bipush (-5), 2) := by decide +kernel
theorem dX6_told_6 : decode cX6_told 6 = .ok (.goto 4, 3) := by decide +kernel
theorem dX6_told_9 : decode cX6_told 9 = .ok (.iload_n 0, 1) := by decide +kernel
theorem dX6_told_10 : decode cX6_told 10 = .ok (.ireturn, 1) := by decide +kernel
set_option maxRecDepth 20000 in
theorem ggX6_place_X6_refusal : GoodIn wsX6_place wsX6_refusal := goodIn_r _ [8, 9, 10, 11, 7, 12, 13, 14, 15, 16, 31, 32, 33, 34, 35, 36, 37, 38, 39, 40, 41, 42, 43, 44, 45, 46, 47, 48, 49, 50, 51, 52, 53] (by decide +kernel) (by decide +kernel)
set_option maxRecDepth 20000 in
theorem gX6_place_X6_refusal : GoodIn wsX6_place (wsV RX6 89 RX6 yX6_refusal wsX6_refusal) := goodIn_app (goodIn_of _ (by decide +kernel)) ggX6_place_X6_refusal
set_option maxRecDepth 20000 in
theorem ggX6_place_X6_isOf : GoodIn wsX6_place wsX6_isOf := goodIn_ca (goodIn_r _ [20, 21, 22, 31, 32, 33, 34, 35, 36, 37, 38, 39, 40, 41, 42, 43, 44, 45, 46, 47, 48, 49, 50, 51, 52, 53] (by decide +kernel) (by decide +kernel)) (goodIn_sub (fun _ h => List.mem_cons_of_mem _ (List.mem_append_right _ h)) (by decide +kernel))
set_option maxRecDepth 20000 in
theorem gX6_place_X6_isOf : GoodIn wsX6_place (wsV RX6 70 RX6 yX6_isOf wsX6_isOf) := goodIn_app (goodIn_of _ (by decide +kernel)) ggX6_place_X6_isOf
set_option maxRecDepth 20000 in
theorem ggX6_place_X6_found : GoodIn wsX6_place wsX6_found := goodIn_ca (goodIn_r _ [26, 27, 31, 32, 33, 34, 35, 36, 37, 38, 39, 40, 41, 42, 43, 44, 45, 46, 47, 48, 49, 50, 51, 52, 53] (by decide +kernel) (by decide +kernel)) (goodIn_sub (fun _ h => List.mem_cons_of_mem _ (List.mem_append_right _ h)) (by decide +kernel))
set_option maxRecDepth 20000 in
theorem gX6_place_X6_found : GoodIn wsX6_place (wsV RX6 78 RX6 yX6_found wsX6_found) := goodIn_app (goodIn_of _ (by decide +kernel)) ggX6_place_X6_found
set_option maxRecDepth 20000 in
theorem ggX6_place_X6_in : GoodIn wsX6_place wsX6_in := goodIn_r _ [16] (by decide +kernel) (by decide +kernel)
set_option maxRecDepth 20000 in
theorem gX6_place_X6_in : GoodIn wsX6_place (va_wsS RX6 66 yX6_in wsX6_in) := goodIn_app (goodIn_of _ (by decide +kernel)) ggX6_place_X6_in
set_option maxRecDepth 20000 in
theorem ggX6_place_X6_told : GoodIn wsX6_place wsX6_told := goodIn_r _ [30] (by decide +kernel) (by decide +kernel)
set_option maxRecDepth 20000 in
theorem gX6_place_X6_told : GoodIn wsX6_place (va_wsS RX6 103 yX6_told wsX6_told) := goodIn_app (goodIn_of _ (by decide +kernel)) ggX6_place_X6_told
theorem dX6_place_0 : decode cX6_place 0 = .ok (.aload_n 0, 1) := by decide +kernel
theorem dX6_place_1 : decode cX6_place 1 = .ok (.iconst 0, 1) := by decide +kernel
theorem dX6_place_2 : decode cX6_place 2 = .ok (.putfield 59, 3) := by decide +kernel
theorem dX6_place_5 : decode cX6_place 5 = .ok (.aload_n 0, 1) := by decide +kernel
theorem dX6_place_6 : decode cX6_place 6 = .ok (.iload_n 1, 1) := by decide +kernel
theorem dX6_place_7 : decode cX6_place 7 = .ok (.iload_n 2, 1) := by decide +kernel
theorem dX6_place_8 : decode cX6_place 8 = .ok (.bipush 7, 2) := by decide +kernel
theorem dX6_place_10 : decode cX6_place 10 = .ok (.bipush 15, 2) := by decide +kernel
theorem dX6_place_12 : decode cX6_place 12 = .ok (.invokevirtual 89, 3) := by decide +kernel
theorem dX6_place_15 : decode cX6_place 15 = .ok (.istore 4, 2) := by decide +kernel
theorem dX6_place_17 : decode cX6_place 17 = .ok (.iload 4, 2) := by decide +kernel
theorem dX6_place_19 : decode cX6_place 19 = .ok (.ifCond .ge 6, 3) := by decide +kernel
theorem dX6_place_22 : decode cX6_place 22 = .ok (.iload 4, 2) := by decide +kernel
theorem dX6_place_24 : decode cX6_place 24 = .ok (.ireturn, 1) := by decide +kernel
theorem dX6_place_25 : decode cX6_place 25 = .ok (.aload_n 0, 1) := by decide +kernel
theorem dX6_place_26 : decode cX6_place 26 = .ok (.iload_n 1, 1) := by decide +kernel
theorem dX6_place_27 : decode cX6_place 27 = .ok (.iload_n 2, 1) := by decide +kernel
theorem dX6_place_28 : decode cX6_place 28 = .ok (.invokevirtual 70, 3) := by decide +kernel
theorem dX6_place_31 : decode cX6_place 31 = .ok (.ifCond .ne 9, 3) := by decide +kernel
theorem dX6_place_34 : decode cX6_place 34 = .ok (.aload_n 0, 1) := by decide +kernel
theorem dX6_place_35 : decode cX6_place 35 = .ok (.iconst 1, 1) := by decide +kernel
theorem dX6_place_36 : decode cX6_place 36 = .ok (.invokevirtual 78, 3) := by decide +kernel
theorem dX6_place_39 : decode cX6_place 39 = .ok (.ireturn, 1) := by decide +kernel
theorem dX6_place_40 : decode cX6_place 40 = .ok (.iload_n 3, 1) := by decide +kernel
theorem dX6_place_41 : decode cX6_place 41 = .ok (.iconst 0, 1) := by decide +kernel
theorem dX6_place_42 : decode cX6_place 42 = .ok (.aload_n 0, 1) := by decide +kernel
theorem dX6_place_43 : decode cX6_place 43 = .ok (.getfield 16, 3) := by decide +kernel
theorem dX6_place_46 : decode cX6_place 46 = .ok (.iload_n 1, 1) := by decide +kernel
theorem dX6_place_47 : decode cX6_place 47 = .ok (.iaload, 1) := by decide +kernel
theorem dX6_place_48 : decode cX6_place 48 = .ok (.iconst 1, 1) := by decide +kernel
theorem dX6_place_49 : decode cX6_place 49 = .ok (.isub, 1) := by decide +kernel
theorem dX6_place_50 : decode cX6_place 50 = .ok (.invokestatic 66, 3) := by decide +kernel
theorem dX6_place_53 : decode cX6_place 53 = .ok (.ifCond .eq 20, 3) := by decide +kernel
theorem dX6_place_56 : decode cX6_place 56 = .ok (.aload_n 0, 1) := by decide +kernel
theorem dX6_place_57 : decode cX6_place 57 = .ok (.getfield 23, 3) := by decide +kernel
theorem dX6_place_60 : decode cX6_place 60 = .ok (.bipush 8, 2) := by decide +kernel
theorem dX6_place_62 : decode cX6_place 62 = .ok (.iload_n 1, 1) := by decide +kernel
theorem dX6_place_63 : decode cX6_place 63 = .ok (.imul, 1) := by decide +kernel
theorem dX6_place_64 : decode cX6_place 64 = .ok (.iload_n 3, 1) := by decide +kernel
theorem dX6_place_65 : decode cX6_place 65 = .ok (.iadd, 1) := by decide +kernel
theorem dX6_place_66 : decode cX6_place 66 = .ok (.iaload, 1) := by decide +kernel
theorem dX6_place_67 : decode cX6_place 67 = .ok (.invokestatic 103, 3) := by decide +kernel
theorem dX6_place_70 : decode cX6_place 70 = .ok (.goto 8, 3) := by decide +kernel
theorem dX6_place_73 : decode cX6_place 73 = .ok (.aload_n 0, 1) := by decide +kernel
theorem dX6_place_74 : decode cX6_place 74 = .ok (.iconst 3, 1) := by decide +kernel
theorem dX6_place_75 : decode cX6_place 75 = .ok (.invokevirtual 78, 3) := by decide +kernel
theorem dX6_place_78 : decode cX6_place 78 = .ok (.ireturn, 1) := by decide +kernel
set_option maxRecDepth 20000 in
theorem ggX6_station_X6_in : GoodIn wsX6_station wsX6_in := goodIn_r _ [10] (by decide +kernel) (by decide +kernel)
set_option maxRecDepth 20000 in
theorem gX6_station_X6_in : GoodIn wsX6_station (va_wsS RX6 66 yX6_in wsX6_in) := goodIn_app (goodIn_of _ (by decide +kernel)) ggX6_station_X6_in
theorem dX6_station_0 : decode cX6_station 0 = .ok (.aload_n 0, 1) := by decide +kernel
theorem dX6_station_1 : decode cX6_station 1 = .ok (.iconst 0, 1) := by decide +kernel
theorem dX6_station_2 : decode cX6_station 2 = .ok (.putfield 59, 3) := by decide +kernel
theorem dX6_station_5 : decode cX6_station 5 = .ok (.iload_n 1, 1) := by decide +kernel
theorem dX6_station_6 : decode cX6_station 6 = .ok (.iconst 0, 1) := by decide +kernel
theorem dX6_station_7 : decode cX6_station 7 = .ok (.bipush 17, 2) := by decide +kernel
theorem dX6_station_9 : decode cX6_station 9 = .ok (.invokestatic 66, 3) := by decide +kernel
theorem dX6_station_12 : decode cX6_station 12 = .ok (.ifCond .eq 13, 3) := by decide +kernel
theorem dX6_station_15 : decode cX6_station 15 = .ok (.iload_n 2, 1) := by decide +kernel
theorem dX6_station_16 : decode cX6_station 16 = .ok (.iconst 0, 1) := by decide +kernel
theorem dX6_station_17 : decode cX6_station 17 = .ok (.bipush 12, 2) := by decide +kernel
theorem dX6_station_19 : decode cX6_station 19 = .ok (.invokestatic 66, 3) := by decide +kernel
theorem dX6_station_22 : decode cX6_station 22 = .ok (.ifCond .ne 6, 3) := by decide +kernel
theorem dX6_station_25 : decode cX6_station 25 = .ok (.bipush (-2), 2) := by decide +kernel
theorem dX6_station_27 : decode cX6_station 27 = .ok (.ireturn, 1) := by decide +kernel
theorem dX6_station_28 : decode cX6_station 28 = .ok (.aload_n 0, 1) := by decide +kernel
theorem dX6_station_29 : decode cX6_station 29 = .ok (.getfield 106, 3) := by decide +kernel
theorem dX6_station_32 : decode cX6_station 32 = .ok (.bipush 8, 2) := by decide +kernel
theorem dX6_station_34 : decode cX6_station 34 = .ok (.if_icmp .ne 6, 3) := by decide +kernel
theorem dX6_station_37 : decode cX6_station 37 = .ok (.bipush (-4), 2) := by decide +kernel
theorem dX6_station_39 : decode cX6_station 39 = .ok (.ireturn, 1) := by decide +kernel
theorem dX6_station_40 : decode cX6_station 40 = .ok (.aload_n 0, 1) := by decide +kernel
theorem dX6_station_41 : decode cX6_station 41 = .ok (.getfield 41, 3) := by decide +kernel
theorem dX6_station_44 : decode cX6_station 44 = .ok (.aload_n 0, 1) := by decide +kernel
theorem dX6_station_45 : decode cX6_station 45 = .ok (.getfield 106, 3) := by decide +kernel
theorem dX6_station_48 : decode cX6_station 48 = .ok (.iload_n 1, 1) := by decide +kernel
theorem dX6_station_49 : decode cX6_station 49 = .ok (.iastore, 1) := by decide +kernel
theorem dX6_station_50 : decode cX6_station 50 = .ok (.aload_n 0, 1) := by decide +kernel
theorem dX6_station_51 : decode cX6_station 51 = .ok (.getfield 44, 3) := by decide +kernel
theorem dX6_station_54 : decode cX6_station 54 = .ok (.aload_n 0, 1) := by decide +kernel
theorem dX6_station_55 : decode cX6_station 55 = .ok (.getfield 106, 3) := by decide +kernel
theorem dX6_station_58 : decode cX6_station 58 = .ok (.iload_n 2, 1) := by decide +kernel
theorem dX6_station_59 : decode cX6_station 59 = .ok (.iastore, 1) := by decide +kernel
theorem dX6_station_60 : decode cX6_station 60 = .ok (.aload_n 0, 1) := by decide +kernel
theorem dX6_station_61 : decode cX6_station 61 = .ok (.getfield 47, 3) := by decide +kernel
theorem dX6_station_64 : decode cX6_station 64 = .ok (.aload_n 0, 1) := by decide +kernel
theorem dX6_station_65 : decode cX6_station 65 = .ok (.getfield 106, 3) := by decide +kernel
theorem dX6_station_68 : decode cX6_station 68 = .ok (.lconst 0, 1) := by decide +kernel
theorem dX6_station_69 : decode cX6_station 69 = .ok (.lastore, 1) := by decide +kernel
theorem dX6_station_70 : decode cX6_station 70 = .ok (.aload_n 0, 1) := by decide +kernel
theorem dX6_station_71 : decode cX6_station 71 = .ok (.getfield 50, 3) := by decide +kernel
theorem dX6_station_74 : decode cX6_station 74 = .ok (.aload_n 0, 1) := by decide +kernel
theorem dX6_station_75 : decode cX6_station 75 = .ok (.getfield 106, 3) := by decide +kernel
theorem dX6_station_78 : decode cX6_station 78 = .ok (.iconst (-1), 1) := by decide +kernel
theorem dX6_station_79 : decode cX6_station 79 = .ok (.iastore, 1) := by decide +kernel
theorem dX6_station_80 : decode cX6_station 80 = .ok (.aload_n 0, 1) := by decide +kernel
theorem dX6_station_81 : decode cX6_station 81 = .ok (.dup, 1) := by decide +kernel
theorem dX6_station_82 : decode cX6_station 82 = .ok (.getfield 106, 3) := by decide +kernel
theorem dX6_station_85 : decode cX6_station 85 = .ok (.iconst 1, 1) := by decide +kernel
theorem dX6_station_86 : decode cX6_station 86 = .ok (.iadd, 1) := by decide +kernel
theorem dX6_station_87 : decode cX6_station 87 = .ok (.putfield 106, 3) := by decide +kernel
theorem dX6_station_90 : decode cX6_station 90 = .ok (.aload_n 0, 1) := by decide +kernel
theorem dX6_station_91 : decode cX6_station 91 = .ok (.getfield 106, 3) := by decide +kernel
theorem dX6_station_94 : decode cX6_station 94 = .ok (.iconst 1, 1) := by decide +kernel
theorem dX6_station_95 : decode cX6_station 95 = .ok (.isub, 1) := by decide +kernel
theorem dX6_station_96 : decode cX6_station 96 = .ok (.ireturn, 1) := by decide +kernel
theorem dX6_comes_0 : decode cX6_comes 0 = .ok (.aload_n 0, 1) := by decide +kernel
theorem dX6_comes_1 : decode cX6_comes 1 = .ok (.getfield 38, 3) := by decide +kernel
theorem dX6_comes_4 : decode cX6_comes 4 = .ok (.aload_n 0, 1) := by decide +kernel
theorem dX6_comes_5 : decode cX6_comes 5 = .ok (.getfield 109, 3) := by decide +kernel
theorem dX6_comes_8 : decode cX6_comes 8 = .ok (.iload_n 1, 1) := by decide +kernel
theorem dX6_comes_9 : decode cX6_comes 9 = .ok (.iastore, 1) := by decide +kernel
theorem dX6_comes_10 : decode cX6_comes 10 = .ok (.aload_n 0, 1) := by decide +kernel
theorem dX6_comes_11 : decode cX6_comes 11 = .ok (.dup, 1) := by decide +kernel
theorem dX6_comes_12 : decode cX6_comes 12 = .ok (.getfield 109, 3) := by decide +kernel
theorem dX6_comes_15 : decode cX6_comes 15 = .ok (.iconst 1, 1) := by decide +kernel
theorem dX6_comes_16 : decode cX6_comes 16 = .ok (.iadd, 1) := by decide +kernel
theorem dX6_comes_17 : decode cX6_comes 17 = .ok (.putfield 109, 3) := by decide +kernel
theorem dX6_comes_20 : decode cX6_comes 20 = .ok (.return_, 1) := by decide +kernel
set_option maxRecDepth 20000 in
theorem ggX6_send_X6_isThing : GoodIn wsX6_send wsX6_isThing := goodIn_r _ [7, 8, 9, 10, 6, 11, 17, 18, 19, 20, 21, 22, 23, 24, 25, 26, 27, 28, 29, 30, 31, 32, 33, 34, 35, 36, 37, 38, 39] (by decide +kernel) (by decide +kernel)
set_option maxRecDepth 20000 in
theorem gX6_send_X6_isThing : GoodIn wsX6_send (wsV RX6 82 RX6 yX6_isThing wsX6_isThing) := goodIn_app (goodIn_of _ (by decide +kernel)) ggX6_send_X6_isThing
set_option maxRecDepth 20000 in
theorem ggX6_send_X6_comes : GoodIn wsX6_send wsX6_comes := goodIn_ca (goodIn_r _ [15, 16, 2, 17, 18, 19, 20, 21, 22, 23, 24, 25, 26, 27, 28, 29, 30, 31, 32, 33, 34, 35, 36, 37, 38, 39] (by decide +kernel) (by decide +kernel)) (goodIn_sub (fun _ h => List.mem_cons_of_mem _ (List.mem_append_right _ h)) (by decide +kernel))
set_option maxRecDepth 20000 in
theorem gX6_send_X6_comes : GoodIn wsX6_send (wsV RX6 112 RX6 yX6_comes wsX6_comes) := goodIn_app (goodIn_of _ (by decide +kernel)) ggX6_send_X6_comes
theorem dX6_send_0 : decode cX6_send 0 = .ok (.aload_n 0, 1) := by decide +kernel
theorem dX6_send_1 : decode cX6_send 1 = .ok (.iconst 0, 1) := by decide +kernel
theorem dX6_send_2 : decode cX6_send 2 = .ok (.putfield 59, 3) := by decide +kernel
theorem dX6_send_5 : decode cX6_send 5 = .ok (.aload_n 0, 1) := by decide +kernel
theorem dX6_send_6 : decode cX6_send 6 = .ok (.iload_n 1, 1) := by decide +kernel
theorem dX6_send_7 : decode cX6_send 7 = .ok (.invokevirtual 82, 3) := by decide +kernel
theorem dX6_send_10 : decode cX6_send 10 = .ok (.ifCond .ne 5, 3) := by decide +kernel
theorem dX6_send_13 : decode cX6_send 13 = .ok (.iconst (-1), 1) := by decide +kernel
theorem dX6_send_14 : decode cX6_send 14 = .ok (.ireturn, 1) := by decide +kernel
theorem dX6_send_15 : decode cX6_send 15 = .ok (.aload_n 0, 1) := by decide +kernel
theorem dX6_send_16 : decode cX6_send 16 = .ok (.getfield 109, 3) := by decide +kernel
theorem dX6_send_19 : decode cX6_send 19 = .ok (.bipush 40, 2) := by decide +kernel
theorem dX6_send_21 : decode cX6_send 21 = .ok (.if_icmp .ne 6, 3) := by decide +kernel
theorem dX6_send_24 : decode cX6_send 24 = .ok (.bipush (-4), 2) := by decide +kernel
theorem dX6_send_26 : decode cX6_send 26 = .ok (.ireturn, 1) := by decide +kernel
theorem dX6_send_27 : decode cX6_send 27 = .ok (.aload_n 0, 1) := by decide +kernel
theorem dX6_send_28 : decode cX6_send 28 = .ok (.iload_n 1, 1) := by decide +kernel
theorem dX6_send_29 : decode cX6_send 29 = .ok (.invokevirtual 112, 3) := by decide +kernel
theorem dX6_send_32 : decode cX6_send 32 = .ok (.aload_n 0, 1) := by decide +kernel
theorem dX6_send_33 : decode cX6_send 33 = .ok (.getfield 109, 3) := by decide +kernel
theorem dX6_send_36 : decode cX6_send 36 = .ok (.ireturn, 1) := by decide +kernel
theorem dX6_keyOf_0 : decode cX6_keyOf 0 = .ok (.aload_n 0, 1) := by decide +kernel
theorem dX6_keyOf_1 : decode cX6_keyOf 1 = .ok (.getfield 7, 3) := by decide +kernel
theorem dX6_keyOf_4 : decode cX6_keyOf 4 = .ok (.iload_n 1, 1) := by decide +kernel
theorem dX6_keyOf_5 : decode cX6_keyOf 5 = .ok (.iaload, 1) := by decide +kernel
theorem dX6_keyOf_6 : decode cX6_keyOf 6 = .ok (.iconst 2, 1) := by decide +kernel
theorem dX6_keyOf_7 : decode cX6_keyOf 7 = .ok (.if_icmp .ne 16, 3) := by decide +kernel
theorem dX6_keyOf_10 : decode cX6_keyOf 10 = .ok (.iconst 3, 1) := by decide +kernel
theorem dX6_keyOf_11 : decode cX6_keyOf 11 = .ok (.aload_n 0, 1) := by decide +kernel
theorem dX6_keyOf_12 : decode cX6_keyOf 12 = .ok (.getfield 13, 3) := by decide +kernel
theorem dX6_keyOf_15 : decode cX6_keyOf 15 = .ok (.iload_n 1, 1) := by decide +kernel
theorem dX6_keyOf_16 : decode cX6_keyOf 16 = .ok (.iaload, 1) := by decide +kernel
theorem dX6_keyOf_17 : decode cX6_keyOf 17 = .ok (.imul, 1) := by decide +kernel
theorem dX6_keyOf_18 : decode cX6_keyOf 18 = .ok (.iconst 1, 1) := by decide +kernel
theorem dX6_keyOf_19 : decode cX6_keyOf 19 = .ok (.iadd, 1) := by decide +kernel
theorem dX6_keyOf_20 : decode cX6_keyOf 20 = .ok (.goto 12, 3) := by decide +kernel
theorem dX6_keyOf_23 : decode cX6_keyOf 23 = .ok (.aload_n 0, 1) := by decide +kernel
theorem dX6_keyOf_24 : decode cX6_keyOf 24 = .ok (.getfield 13, 3) := by decide +kernel
theorem dX6_keyOf_27 : decode cX6_keyOf 27 = .ok (.iload_n 1, 1) := by decide +kernel
theorem dX6_keyOf_28 : decode cX6_keyOf 28 = .ok (.iaload, 1) := by decide +kernel
theorem dX6_keyOf_29 : decode cX6_keyOf 29 = .ok (.bipush 7, 2) := by decide +kernel
theorem dX6_keyOf_31 : decode cX6_keyOf 31 = .ok (.isub, 1) := by decide +kernel
theorem dX6_keyOf_32 : decode cX6_keyOf 32 = .ok (.ireturn, 1) := by decide +kernel
set_option maxRecDepth 20000 in
theorem ggX6_heaps_X6_keyOf : GoodIn wsX6_heaps wsX6_keyOf := goodIn_ca (goodIn_r _ [9, 10, 3, 11, 12, 13, 14, 15, 16, 17, 18, 19, 20, 21, 22, 23, 24, 25, 26, 27, 28, 29, 30, 31, 32, 33] (by decide +kernel) (by decide +kernel)) (goodIn_sub (fun _ h => List.mem_cons_of_mem _ (List.mem_append_right _ h)) (by decide +kernel))
set_option maxRecDepth 20000 in
theorem gX6_heaps_X6_keyOf : GoodIn wsX6_heaps (wsV RX6 116 RX6 yX6_keyOf wsX6_keyOf) := goodIn_app (goodIn_of _ (by decide +kernel)) ggX6_heaps_X6_keyOf
theorem dX6_heaps_0 : decode cX6_heaps 0 = .ok (.lconst 0, 1) := by decide +kernel
theorem dX6_heaps_1 : decode cX6_heaps 1 = .ok (.lstore 4, 2) := by decide +kernel
theorem dX6_heaps_3 : decode cX6_heaps 3 = .ok (.iconst 0, 1) := by decide +kernel
theorem dX6_heaps_4 : decode cX6_heaps 4 = .ok (.istore 6, 2) := by decide +kernel
theorem dX6_heaps_6 : decode cX6_heaps 6 = .ok (.iload 6, 2) := by decide +kernel
theorem dX6_heaps_8 : decode cX6_heaps 8 = .ok (.aload_n 0, 1) := by decide +kernel
theorem dX6_heaps_9 : decode cX6_heaps 9 = .ok (.getfield 16, 3) := by decide +kernel
theorem dX6_heaps_12 : decode cX6_heaps 12 = .ok (.iload_n 2, 1) := by decide +kernel
theorem dX6_heaps_13 : decode cX6_heaps 13 = .ok (.iaload, 1) := by decide +kernel
theorem dX6_heaps_14 : decode cX6_heaps 14 = .ok (.if_icmp .ge 57, 3) := by decide +kernel
theorem dX6_heaps_17 : decode cX6_heaps 17 = .ok (.aload_n 0, 1) := by decide +kernel
theorem dX6_heaps_18 : decode cX6_heaps 18 = .ok (.getfield 23, 3) := by decide +kernel
theorem dX6_heaps_21 : decode cX6_heaps 21 = .ok (.bipush 8, 2) := by decide +kernel
theorem dX6_heaps_23 : decode cX6_heaps 23 = .ok (.iload_n 2, 1) := by decide +kernel
theorem dX6_heaps_24 : decode cX6_heaps 24 = .ok (.imul, 1) := by decide +kernel
theorem dX6_heaps_25 : decode cX6_heaps 25 = .ok (.iload 6, 2) := by decide +kernel
theorem dX6_heaps_27 : decode cX6_heaps 27 = .ok (.iadd, 1) := by decide +kernel
theorem dX6_heaps_28 : decode cX6_heaps 28 = .ok (.iaload, 1) := by decide +kernel
theorem dX6_heaps_29 : decode cX6_heaps 29 = .ok (.istore 7, 2) := by decide +kernel
theorem dX6_heaps_31 : decode cX6_heaps 31 = .ok (.iload 7, 2) := by decide +kernel
theorem dX6_heaps_33 : decode cX6_heaps 33 = .ok (.ifCond .ge 5, 3) := by decide +kernel
theorem dX6_heaps_36 : decode cX6_heaps 36 = .ok (.iconst 2, 1) := by decide +kernel
theorem dX6_heaps_37 : decode cX6_heaps 37 = .ok (.ireturn, 1) := by decide +kernel
theorem dX6_heaps_38 : decode cX6_heaps 38 = .ok (.lload 4, 2) := by decide +kernel
theorem dX6_heaps_40 : decode cX6_heaps 40 = .ok (.iload_n 3, 1) := by decide +kernel
theorem dX6_heaps_41 : decode cX6_heaps 41 = .ok (.ifCond .eq 13, 3) := by decide +kernel
theorem dX6_heaps_44 : decode cX6_heaps 44 = .ok (.aload_n 0, 1) := by decide +kernel
theorem dX6_heaps_45 : decode cX6_heaps 45 = .ok (.iload 7, 2) := by decide +kernel
theorem dX6_heaps_47 : decode cX6_heaps 47 = .ok (.invokevirtual 116, 3) := by decide +kernel
theorem dX6_heaps_50 : decode cX6_heaps 50 = .ok (.i2l, 1) := by decide +kernel
theorem dX6_heaps_51 : decode cX6_heaps 51 = .ok (.goto 11, 3) := by decide +kernel
theorem dX6_heaps_54 : decode cX6_heaps 54 = .ok (.aload_n 0, 1) := by decide +kernel
theorem dX6_heaps_55 : decode cX6_heaps 55 = .ok (.getfield 13, 3) := by decide +kernel
theorem dX6_heaps_58 : decode cX6_heaps 58 = .ok (.iload 7, 2) := by decide +kernel
theorem dX6_heaps_60 : decode cX6_heaps 60 = .ok (.iaload, 1) := by decide +kernel
theorem dX6_heaps_61 : decode cX6_heaps 61 = .ok (.i2l, 1) := by decide +kernel
theorem dX6_heaps_62 : decode cX6_heaps 62 = .ok (.ladd, 1) := by decide +kernel
theorem dX6_heaps_63 : decode cX6_heaps 63 = .ok (.lstore 4, 2) := by decide +kernel
theorem dX6_heaps_65 : decode cX6_heaps 65 = .ok (.iinc 6 1, 3) := by decide +kernel
theorem dX6_heaps_68 : decode cX6_heaps 68 = .ok (.goto (-62), 3) := by decide +kernel
theorem dX6_heaps_71 : decode cX6_heaps 71 = .ok (.aload_n 0, 1) := by decide +kernel
theorem dX6_heaps_72 : decode cX6_heaps 72 = .ok (.getfield 47, 3) := by decide +kernel
theorem dX6_heaps_75 : decode cX6_heaps 75 = .ok (.iload_n 1, 1) := by decide +kernel
theorem dX6_heaps_76 : decode cX6_heaps 76 = .ok (.dup2, 1) := by decide +kernel
theorem dX6_heaps_77 : decode cX6_heaps 77 = .ok (.laload, 1) := by decide +kernel
theorem dX6_heaps_78 : decode cX6_heaps 78 = .ok (.lload 4, 2) := by decide +kernel
theorem dX6_heaps_80 : decode cX6_heaps 80 = .ok (.ladd, 1) := by decide +kernel
theorem dX6_heaps_81 : decode cX6_heaps 81 = .ok (.lastore, 1) := by decide +kernel
theorem dX6_heaps_82 : decode cX6_heaps 82 = .ok (.iconst 0, 1) := by decide +kernel
theorem dX6_heaps_83 : decode cX6_heaps 83 = .ok (.ireturn, 1) := by decide +kernel
theorem dX6_corner_0 : decode cX6_corner 0 = .ok (.iload_n 1, 1) := by decide +kernel
theorem dX6_corner_1 : decode cX6_corner 1 = .ok (.istore_n 3, 1) := by decide +kernel
theorem dX6_corner_2 : decode cX6_corner 2 = .ok (.iconst 0, 1) := by decide +kernel
theorem dX6_corner_3 : decode cX6_corner 3 = .ok (.istore 4, 2) := by decide +kernel
theorem dX6_corner_5 : decode cX6_corner 5 = .ok (.iload 4, 2) := by decide +kernel
theorem dX6_corner_7 : decode cX6_corner 7 = .ok (.iload_n 2, 1) := by decide +kernel
theorem dX6_corner_8 : decode cX6_corner 8 = .ok (.if_icmp .ge 38, 3) := by decide +kernel
theorem dX6_corner_11 : decode cX6_corner 11 = .ok (.iload_n 3, 1) := by decide +kernel
theorem dX6_corner_12 : decode cX6_corner 12 = .ok (.ifCond .ge 6, 3) := by decide +kernel
theorem dX6_corner_15 : decode cX6_corner 15 = .ok (.bipush (-8), 2) := by decide +kernel
theorem dX6_corner_17 : decode cX6_corner 17 = .ok (.ireturn, 1) := by decide +kernel
theorem dX6_corner_18 : decode cX6_corner 18 = .ok (.aload_n 0, 1) := by decide +kernel
theorem dX6_corner_19 : decode cX6_corner 19 = .ok (.getfield 16, 3) := by decide +kernel
theorem dX6_corner_22 : decode cX6_corner 22 = .ok (.iload_n 3, 1) := by decide +kernel
theorem dX6_corner_23 : decode cX6_corner 23 = .ok (.iaload, 1) := by decide +kernel
theorem dX6_corner_24 : decode cX6_corner 24 = .ok (.ifCond .ne 6, 3) := by decide +kernel
theorem dX6_corner_27 : decode cX6_corner 27 = .ok (.bipush (-7), 2) := by decide +kernel
theorem dX6_corner_29 : decode cX6_corner 29 = .ok (.ireturn, 1) := by decide +kernel
theorem dX6_corner_30 : decode cX6_corner 30 = .ok (.aload_n 0, 1) := by decide +kernel
theorem dX6_corner_31 : decode cX6_corner 31 = .ok (.getfield 23, 3) := by decide +kernel
theorem dX6_corner_34 : decode cX6_corner 34 = .ok (.bipush 8, 2) := by decide +kernel
theorem dX6_corner_36 : decode cX6_corner 36 = .ok (.iload_n 3, 1) := by decide +kernel
theorem dX6_corner_37 : decode cX6_corner 37 = .ok (.imul, 1) := by decide +kernel
theorem dX6_corner_38 : decode cX6_corner 38 = .ok (.iaload, 1) := by decide +kernel
theorem dX6_corner_39 : decode cX6_corner 39 = .ok (.istore_n 3, 1) := by decide +kernel
theorem dX6_corner_40 : decode cX6_corner 40 = .ok (.iinc 4 1, 3) := by decide +kernel
theorem dX6_corner_43 : decode cX6_corner 43 = .ok (.goto (-38), 3) := by decide +kernel
theorem dX6_corner_46 : decode cX6_corner 46 = .ok (.iload_n 3, 1) := by decide +kernel
theorem dX6_corner_47 : decode cX6_corner 47 = .ok (.ifCond .ge 8, 3) := by decide +kernel
theorem dX6_corner_50 : decode cX6_corner 50 = .ok (.bipush (-8), 2) := by decide +kernel
theorem dX6_corner_52 : decode cX6_corner 52 = .ok (.goto 4, 3) := by decide +kernel
theorem dX6_corner_55 : decode cX6_corner 55 = .ok (.iload_n 3, 1) := by decide +kernel
theorem dX6_corner_56 : decode cX6_corner 56 = .ok (.ireturn, 1) := by decide +kernel
set_option maxRecDepth 20000 in
theorem ggX6_weighs_X6_corner : GoodIn wsX6_weighs wsX6_corner := goodIn_ca (goodIn_r _ [7, 8, 9, 10, 11, 12, 13, 14, 15, 16, 17, 18, 19, 20, 21, 22, 23, 24, 25, 26, 27, 28, 29, 30, 31, 32] (by decide +kernel) (by decide +kernel)) (goodIn_sub (fun _ h => List.mem_cons_of_mem _ (List.mem_append_right _ h)) (by decide +kernel))
set_option maxRecDepth 20000 in
theorem gX6_weighs_X6_corner : GoodIn wsX6_weighs (wsV RX6 119 RX6 yX6_corner wsX6_corner) := goodIn_app (goodIn_of _ (by decide +kernel)) ggX6_weighs_X6_corner
theorem dX6_weighs_0 : decode cX6_weighs 0 = .ok (.aload_n 0, 1) := by decide +kernel
theorem dX6_weighs_1 : decode cX6_weighs 1 = .ok (.iload_n 2, 1) := by decide +kernel
theorem dX6_weighs_2 : decode cX6_weighs 2 = .ok (.iload_n 3, 1) := by decide +kernel
theorem dX6_weighs_3 : decode cX6_weighs 3 = .ok (.invokevirtual 119, 3) := by decide +kernel
theorem dX6_weighs_6 : decode cX6_weighs 6 = .ok (.istore 4, 2) := by decide +kernel
theorem dX6_weighs_8 : decode cX6_weighs 8 = .ok (.aload_n 0, 1) := by decide +kernel
theorem dX6_weighs_9 : decode cX6_weighs 9 = .ok (.getfield 47, 3) := by decide +kernel
theorem dX6_weighs_12 : decode cX6_weighs 12 = .ok (.iload_n 1, 1) := by decide +kernel
theorem dX6_weighs_13 : decode cX6_weighs 13 = .ok (.dup2, 1) := by decide +kernel
theorem dX6_weighs_14 : decode cX6_weighs 14 = .ok (.laload, 1) := by decide +kernel
theorem dX6_weighs_15 : decode cX6_weighs 15 = .ok (.iload 4, 2) := by decide +kernel
theorem dX6_weighs_17 : decode cX6_weighs 17 = .ok (.ifCond .ge 7, 3) := by decide +kernel
theorem dX6_weighs_20 : decode cX6_weighs 20 = .ok (.lconst 0, 1) := by decide +kernel
theorem dX6_weighs_21 : decode cX6_weighs 21 = .ok (.goto 11, 3) := by decide +kernel
theorem dX6_weighs_24 : decode cX6_weighs 24 = .ok (.aload_n 0, 1) := by decide +kernel
theorem dX6_weighs_25 : decode cX6_weighs 25 = .ok (.getfield 13, 3) := by decide +kernel
theorem dX6_weighs_28 : decode cX6_weighs 28 = .ok (.iload 4, 2) := by decide +kernel
theorem dX6_weighs_30 : decode cX6_weighs 30 = .ok (.iaload, 1) := by decide +kernel
theorem dX6_weighs_31 : decode cX6_weighs 31 = .ok (.i2l, 1) := by decide +kernel
theorem dX6_weighs_32 : decode cX6_weighs 32 = .ok (.ladd, 1) := by decide +kernel
theorem dX6_weighs_33 : decode cX6_weighs 33 = .ok (.lastore, 1) := by decide +kernel
theorem dX6_weighs_34 : decode cX6_weighs 34 = .ok (.iload 4, 2) := by decide +kernel
theorem dX6_weighs_36 : decode cX6_weighs 36 = .ok (.ifCond .ge 11, 3) := by decide +kernel
theorem dX6_weighs_39 : decode cX6_weighs 39 = .ok (.iload 4, 2) := by decide +kernel
theorem dX6_weighs_41 : decode cX6_weighs 41 = .ok (.bipush 10, 2) := by decide +kernel
theorem dX6_weighs_43 : decode cX6_weighs 43 = .ok (.iadd, 1) := by decide +kernel
theorem dX6_weighs_44 : decode cX6_weighs 44 = .ok (.goto 4, 3) := by decide +kernel
theorem dX6_weighs_47 : decode cX6_weighs 47 = .ok (.iconst 0, 1) := by decide +kernel
theorem dX6_weighs_48 : decode cX6_weighs 48 = .ok (.ireturn, 1) := by decide +kernel
set_option maxRecDepth 20000 in
theorem ggX6_cell_X6_corner : GoodIn wsX6_cell wsX6_corner := goodIn_ca (goodIn_r _ [8, 1, 9, 10, 11, 12, 13, 14, 15, 16, 17, 18, 19, 20, 21, 22, 23, 24, 25, 26, 27, 28, 29, 30, 31, 32] (by decide +kernel) (by decide +kernel)) (goodIn_sub (fun _ h => List.mem_cons_of_mem _ (List.mem_append_right _ h)) (by decide +kernel))
set_option maxRecDepth 20000 in
theorem gX6_cell_X6_corner : GoodIn wsX6_cell (wsV RX6 119 RX6 yX6_corner wsX6_corner) := goodIn_app (goodIn_of _ (by decide +kernel)) ggX6_cell_X6_corner
theorem dX6_cell_0 : decode cX6_cell 0 = .ok (.aload_n 0, 1) := by decide +kernel
theorem dX6_cell_1 : decode cX6_cell 1 = .ok (.iload_n 2, 1) := by decide +kernel
theorem dX6_cell_2 : decode cX6_cell 2 = .ok (.iconst 1, 1) := by decide +kernel
theorem dX6_cell_3 : decode cX6_cell 3 = .ok (.invokevirtual 119, 3) := by decide +kernel
theorem dX6_cell_6 : decode cX6_cell 6 = .ok (.istore_n 3, 1) := by decide +kernel
theorem dX6_cell_7 : decode cX6_cell 7 = .ok (.iload_n 3, 1) := by decide +kernel
theorem dX6_cell_8 : decode cX6_cell 8 = .ok (.ifCond .ge 8, 3) := by decide +kernel
theorem dX6_cell_11 : decode cX6_cell 11 = .ok (.iload_n 3, 1) := by decide +kernel
theorem dX6_cell_12 : decode cX6_cell 12 = .ok (.bipush 10, 2) := by decide +kernel
theorem dX6_cell_14 : decode cX6_cell 14 = .ok (.iadd, 1) := by decide +kernel
theorem dX6_cell_15 : decode cX6_cell 15 = .ok (.ireturn, 1) := by decide +kernel
theorem dX6_cell_16 : decode cX6_cell 16 = .ok (.aload_n 0, 1) := by decide +kernel
theorem dX6_cell_17 : decode cX6_cell 17 = .ok (.getfield 16, 3) := by decide +kernel
theorem dX6_cell_20 : decode cX6_cell 20 = .ok (.iload_n 3, 1) := by decide +kernel
theorem dX6_cell_21 : decode cX6_cell 21 = .ok (.iaload, 1) := by decide +kernel
theorem dX6_cell_22 : decode cX6_cell 22 = .ok (.ifCond .ne 5, 3) := by decide +kernel
theorem dX6_cell_25 : decode cX6_cell 25 = .ok (.iconst 3, 1) := by decide +kernel
theorem dX6_cell_26 : decode cX6_cell 26 = .ok (.ireturn, 1) := by decide +kernel
theorem dX6_cell_27 : decode cX6_cell 27 = .ok (.aload_n 0, 1) := by decide +kernel
theorem dX6_cell_28 : decode cX6_cell 28 = .ok (.getfield 47, 3) := by decide +kernel
theorem dX6_cell_31 : decode cX6_cell 31 = .ok (.iload_n 1, 1) := by decide +kernel
theorem dX6_cell_32 : decode cX6_cell 32 = .ok (.dup2, 1) := by decide +kernel
theorem dX6_cell_33 : decode cX6_cell 33 = .ok (.laload, 1) := by decide +kernel
theorem dX6_cell_34 : decode cX6_cell 34 = .ok (.aload_n 0, 1) := by decide +kernel
theorem dX6_cell_35 : decode cX6_cell 35 = .ok (.getfield 19, 3) := by decide +kernel
theorem dX6_cell_38 : decode cX6_cell 38 = .ok (.bipush 8, 2) := by decide +kernel
theorem dX6_cell_40 : decode cX6_cell 40 = .ok (.iload_n 3, 1) := by decide +kernel
theorem dX6_cell_41 : decode cX6_cell 41 = .ok (.imul, 1) := by decide +kernel
theorem dX6_cell_42 : decode cX6_cell 42 = .ok (.laload, 1) := by decide +kernel
theorem dX6_cell_43 : decode cX6_cell 43 = .ok (.ladd, 1) := by decide +kernel
theorem dX6_cell_44 : decode cX6_cell 44 = .ok (.lastore, 1) := by decide +kernel
theorem dX6_cell_45 : decode cX6_cell 45 = .ok (.iconst 0, 1) := by decide +kernel
theorem dX6_cell_46 : decode cX6_cell 46 = .ok (.ireturn, 1) := by decide +kernel
set_option maxRecDepth 20000 in
theorem ggX6_packs_X6_lays : GoodIn wsX6_packs wsX6_lays := goodIn_ca (goodIn_r _ [6, 7, 8, 9, 10, 11, 12, 13, 5, 14, 15, 16, 17, 18, 19, 20, 21, 22, 23, 24, 25, 26, 27, 28, 29, 30, 31, 32, 33, 34, 35, 36, 37, 38, 39, 40, 41, 42, 43, 44, 45] (by decide +kernel) (by decide +kernel)) (goodIn_sub (fun _ h => List.mem_cons_of_mem _ (List.mem_append_right _ h)) (by decide +kernel))
set_option maxRecDepth 20000 in
theorem gX6_packs_X6_lays : GoodIn wsX6_packs (wsV RX6 100 RX6 yX6_lays wsX6_lays) := goodIn_app (goodIn_of _ (by decide +kernel)) ggX6_packs_X6_lays
theorem dX6_packs_0 : decode cX6_packs 0 = .ok (.aload_n 0, 1) := by decide +kernel
theorem dX6_packs_1 : decode cX6_packs 1 = .ok (.iload_n 2, 1) := by decide +kernel
theorem dX6_packs_2 : decode cX6_packs 2 = .ok (.bipush 8, 2) := by decide +kernel
theorem dX6_packs_4 : decode cX6_packs 4 = .ok (.iconst 0, 1) := by decide +kernel
theorem dX6_packs_5 : decode cX6_packs 5 = .ok (.aload_n 0, 1) := by decide +kernel
theorem dX6_packs_6 : decode cX6_packs 6 = .ok (.getfield 50, 3) := by decide +kernel
theorem dX6_packs_9 : decode cX6_packs 9 = .ok (.iload_n 1, 1) := by decide +kernel
theorem dX6_packs_10 : decode cX6_packs 10 = .ok (.iaload, 1) := by decide +kernel
theorem dX6_packs_11 : decode cX6_packs 11 = .ok (.invokevirtual 100, 3) := by decide +kernel
theorem dX6_packs_14 : decode cX6_packs 14 = .ok (.istore_n 3, 1) := by decide +kernel
theorem dX6_packs_15 : decode cX6_packs 15 = .ok (.aload_n 0, 1) := by decide +kernel
theorem dX6_packs_16 : decode cX6_packs 16 = .ok (.getfield 50, 3) := by decide +kernel
theorem dX6_packs_19 : decode cX6_packs 19 = .ok (.iload_n 1, 1) := by decide +kernel
theorem dX6_packs_20 : decode cX6_packs 20 = .ok (.iload_n 3, 1) := by decide +kernel
theorem dX6_packs_21 : decode cX6_packs 21 = .ok (.ifCond .ne 7, 3) := by decide +kernel
theorem dX6_packs_24 : decode cX6_packs 24 = .ok (.iconst (-1), 1) := by decide +kernel
theorem dX6_packs_25 : decode cX6_packs 25 = .ok (.goto 9, 3) := by decide +kernel
theorem dX6_packs_28 : decode cX6_packs 28 = .ok (.aload_n 0, 1) := by decide +kernel
theorem dX6_packs_29 : decode cX6_packs 29 = .ok (.getfield 50, 3) := by decide +kernel
theorem dX6_packs_32 : decode cX6_packs 32 = .ok (.iload_n 1, 1) := by decide +kernel
theorem dX6_packs_33 : decode cX6_packs 33 = .ok (.iaload, 1) := by decide +kernel
theorem dX6_packs_34 : decode cX6_packs 34 = .ok (.iastore, 1) := by decide +kernel
theorem dX6_packs_35 : decode cX6_packs 35 = .ok (.iload_n 3, 1) := by decide +kernel
theorem dX6_packs_36 : decode cX6_packs 36 = .ok (.ireturn, 1) := by decide +kernel
set_option maxRecDepth 20000 in
theorem ggX6_spills_X6_comes : GoodIn wsX6_spills wsX6_comes := goodIn_ca (goodIn_r _ [8, 9, 2, 10, 11, 12, 13, 14, 15, 16, 17, 18, 19, 20, 21, 22, 23, 24, 25, 26, 27, 28, 29, 30, 31, 32] (by decide +kernel) (by decide +kernel)) (goodIn_sub (fun _ h => List.mem_cons_of_mem _ (List.mem_append_right _ h)) (by decide +kernel))
set_option maxRecDepth 20000 in
theorem gX6_spills_X6_comes : GoodIn wsX6_spills (wsV RX6 112 RX6 yX6_comes wsX6_comes) := goodIn_app (goodIn_of _ (by decide +kernel)) ggX6_spills_X6_comes
theorem dX6_spills_0 : decode cX6_spills 0 = .ok (.iconst 0, 1) := by decide +kernel
theorem dX6_spills_1 : decode cX6_spills 1 = .ok (.istore_n 2, 1) := by decide +kernel
theorem dX6_spills_2 : decode cX6_spills 2 = .ok (.iload_n 2, 1) := by decide +kernel
theorem dX6_spills_3 : decode cX6_spills 3 = .ok (.aload_n 0, 1) := by decide +kernel
theorem dX6_spills_4 : decode cX6_spills 4 = .ok (.getfield 16, 3) := by decide +kernel
theorem dX6_spills_7 : decode cX6_spills 7 = .ok (.iload_n 1, 1) := by decide +kernel
theorem dX6_spills_8 : decode cX6_spills 8 = .ok (.iaload, 1) := by decide +kernel
theorem dX6_spills_9 : decode cX6_spills 9 = .ok (.if_icmp .ge 51, 3) := by decide +kernel
theorem dX6_spills_12 : decode cX6_spills 12 = .ok (.aload_n 0, 1) := by decide +kernel
theorem dX6_spills_13 : decode cX6_spills 13 = .ok (.getfield 109, 3) := by decide +kernel
theorem dX6_spills_16 : decode cX6_spills 16 = .ok (.bipush 40, 2) := by decide +kernel
theorem dX6_spills_18 : decode cX6_spills 18 = .ok (.if_icmp .ge 42, 3) := by decide +kernel
theorem dX6_spills_21 : decode cX6_spills 21 = .ok (.aload_n 0, 1) := by decide +kernel
theorem dX6_spills_22 : decode cX6_spills 22 = .ok (.getfield 23, 3) := by decide +kernel
theorem dX6_spills_25 : decode cX6_spills 25 = .ok (.bipush 8, 2) := by decide +kernel
theorem dX6_spills_27 : decode cX6_spills 27 = .ok (.iload_n 1, 1) := by decide +kernel
theorem dX6_spills_28 : decode cX6_spills 28 = .ok (.imul, 1) := by decide +kernel
theorem dX6_spills_29 : decode cX6_spills 29 = .ok (.iload_n 2, 1) := by decide +kernel
theorem dX6_spills_30 : decode cX6_spills 30 = .ok (.iadd, 1) := by decide +kernel
theorem dX6_spills_31 : decode cX6_spills 31 = .ok (.iaload, 1) := by decide +kernel
theorem dX6_spills_32 : decode cX6_spills 32 = .ok (.istore_n 3, 1) := by decide +kernel
theorem dX6_spills_33 : decode cX6_spills 33 = .ok (.iload_n 3, 1) := by decide +kernel
theorem dX6_spills_34 : decode cX6_spills 34 = .ok (.ifCond .lt 20, 3) := by decide +kernel
theorem dX6_spills_37 : decode cX6_spills 37 = .ok (.aload_n 0, 1) := by decide +kernel
theorem dX6_spills_38 : decode cX6_spills 38 = .ok (.iload_n 3, 1) := by decide +kernel
theorem dX6_spills_39 : decode cX6_spills 39 = .ok (.invokevirtual 112, 3) := by decide +kernel
theorem dX6_spills_42 : decode cX6_spills 42 = .ok (.aload_n 0, 1) := by decide +kernel
theorem dX6_spills_43 : decode cX6_spills 43 = .ok (.getfield 23, 3) := by decide +kernel
theorem dX6_spills_46 : decode cX6_spills 46 = .ok (.bipush 8, 2) := by decide +kernel
theorem dX6_spills_48 : decode cX6_spills 48 = .ok (.iload_n 1, 1) := by decide +kernel
theorem dX6_spills_49 : decode cX6_spills 49 = .ok (.imul, 1) := by decide +kernel
theorem dX6_spills_50 : decode cX6_spills 50 = .ok (.iload_n 2, 1) := by decide +kernel
theorem dX6_spills_51 : decode cX6_spills 51 = .ok (.iadd, 1) := by decide +kernel
theorem dX6_spills_52 : decode cX6_spills 52 = .ok (.iconst (-1), 1) := by decide +kernel
theorem dX6_spills_53 : decode cX6_spills 53 = .ok (.iastore, 1) := by decide +kernel
theorem dX6_spills_54 : decode cX6_spills 54 = .ok (.iinc 2 1, 3) := by decide +kernel
theorem dX6_spills_57 : decode cX6_spills 57 = .ok (.goto (-55), 3) := by decide +kernel
theorem dX6_spills_60 : decode cX6_spills 60 = .ok (.iconst 0, 1) := by decide +kernel
theorem dX6_spills_61 : decode cX6_spills 61 = .ok (.ireturn, 1) := by decide +kernel
set_option maxRecDepth 20000 in
theorem ggX6_works_X6_isOf : GoodIn wsX6_works wsX6_isOf := goodIn_ca (goodIn_r _ [12, 13, 14, 62, 63, 64, 65, 66, 67, 68, 69, 70, 71, 72, 73, 74, 75, 76, 77, 78, 79, 80, 81, 82, 83, 84] (by decide +kernel) (by decide +kernel)) (goodIn_sub (fun _ h => List.mem_cons_of_mem _ (List.mem_append_right _ h)) (by decide +kernel))
set_option maxRecDepth 20000 in
theorem gX6_works_X6_isOf : GoodIn wsX6_works (wsV RX6 70 RX6 yX6_isOf wsX6_isOf) := goodIn_app (goodIn_of _ (by decide +kernel)) ggX6_works_X6_isOf
set_option maxRecDepth 20000 in
theorem ggX6_works_X6_keyOf : GoodIn wsX6_works wsX6_keyOf := goodIn_ca (goodIn_r _ [18, 14, 4, 62, 63, 64, 65, 66, 67, 68, 69, 70, 71, 72, 73, 74, 75, 76, 77, 78, 79, 80, 81, 82, 83, 84] (by decide +kernel) (by decide +kernel)) (goodIn_sub (fun _ h => List.mem_cons_of_mem _ (List.mem_append_right _ h)) (by decide +kernel))
set_option maxRecDepth 20000 in
theorem gX6_works_X6_keyOf : GoodIn wsX6_works (wsV RX6 116 RX6 yX6_keyOf wsX6_keyOf) := goodIn_app (goodIn_of _ (by decide +kernel)) ggX6_works_X6_keyOf
set_option maxRecDepth 20000 in
theorem ggX6_works_X6_heaps : GoodIn wsX6_works wsX6_heaps := goodIn_ca (goodIn_r _ [22, 6, 23, 4, 3, 15, 16, 17, 11, 18, 14, 62, 63, 64, 65, 66, 67, 68, 69, 70, 71, 72, 73, 74, 75, 76, 77, 78, 79, 80, 81, 82, 83, 84] (by decide +kernel) (by decide +kernel)) (goodIn_sub (fun _ h => List.mem_cons_of_mem _ (List.mem_append_right _ h)) (by decide +kernel))
set_option maxRecDepth 20000 in
theorem gX6_works_X6_heaps : GoodIn wsX6_works (wsV RX6 123 RX6 yX6_heaps wsX6_heaps) := goodIn_app (goodIn_of _ (by decide +kernel)) ggX6_works_X6_heaps
set_option maxRecDepth 20000 in
theorem ggX6_works_X6_packs : GoodIn wsX6_works wsX6_packs := goodIn_ca (goodIn_r _ [27, 5, 28, 29, 30, 11, 31, 32, 6, 14, 23, 8, 9, 10, 12, 13, 33, 34, 35, 36, 37, 38, 39, 62, 63, 64, 65, 66, 67, 68, 69, 70, 71, 72, 73, 74, 75, 76, 77, 78, 79, 80, 81, 82, 83, 84] (by decide +kernel) (by decide +kernel)) (goodIn_sub (fun _ h => List.mem_cons_of_mem _ (List.mem_append_right _ h)) (by decide +kernel))
set_option maxRecDepth 20000 in
theorem gX6_works_X6_packs : GoodIn wsX6_works (wsV RX6 127 RX6 yX6_packs wsX6_packs) := goodIn_app (goodIn_of _ (by decide +kernel)) ggX6_works_X6_packs
set_option maxRecDepth 20000 in
theorem ggX6_works_X6_weighs : GoodIn wsX6_works wsX6_weighs := goodIn_ca (goodIn_r _ [43, 3, 4, 44, 45, 46, 11, 47, 6, 23, 62, 63, 64, 65, 66, 67, 68, 69, 70, 71, 72, 73, 74, 75, 76, 77, 78, 79, 80, 81, 82, 83, 84] (by decide +kernel) (by decide +kernel)) (goodIn_sub (fun _ h => List.mem_cons_of_mem _ (List.mem_append_right _ h)) (by decide +kernel))
set_option maxRecDepth 20000 in
theorem gX6_works_X6_weighs : GoodIn wsX6_works (wsV RX6 130 RX6 yX6_weighs wsX6_weighs) := goodIn_app (goodIn_of _ (by decide +kernel)) ggX6_works_X6_weighs
set_option maxRecDepth 20000 in
theorem ggX6_works_X6_cell : GoodIn wsX6_works wsX6_cell := goodIn_ca (goodIn_r _ [51, 6, 3, 7, 44, 45, 46, 11, 47, 23, 62, 63, 64, 65, 66, 67, 68, 69, 70, 71, 72, 73, 74, 75, 76, 77, 78, 79, 80, 81, 82, 83, 84] (by decide +kernel) (by decide +kernel)) (goodIn_sub (fun _ h => List.mem_cons_of_mem _ (List.mem_append_right _ h)) (by decide +kernel))
set_option maxRecDepth 20000 in
theorem gX6_works_X6_cell : GoodIn wsX6_works (wsV RX6 133 RX6 yX6_cell wsX6_cell) := goodIn_app (goodIn_of _ (by decide +kernel)) ggX6_works_X6_cell
set_option maxRecDepth 20000 in
theorem ggX6_works_X6_spills : GoodIn wsX6_works wsX6_spills := goodIn_ca (goodIn_r _ [55, 6, 56, 23, 57, 58, 59, 11, 60, 61, 62, 63, 64, 65, 66, 67, 68, 69, 70, 71, 72, 73, 74, 75, 76, 77, 78, 79, 80, 81, 82, 83, 84] (by decide +kernel) (by decide +kernel)) (goodIn_sub (fun _ h => List.mem_cons_of_mem _ (List.mem_append_right _ h)) (by decide +kernel))
set_option maxRecDepth 20000 in
theorem gX6_works_X6_spills : GoodIn wsX6_works (wsV RX6 136 RX6 yX6_spills wsX6_spills) := goodIn_app (goodIn_of _ (by decide +kernel)) ggX6_works_X6_spills
theorem dX6_works_0 : decode cX6_works 0 = .ok (.aload_n 0, 1) := by decide +kernel
theorem dX6_works_1 : decode cX6_works 1 = .ok (.getfield 44, 3) := by decide +kernel
theorem dX6_works_4 : decode cX6_works 4 = .ok (.iload_n 1, 1) := by decide +kernel
theorem dX6_works_5 : decode cX6_works 5 = .ok (.iaload, 1) := by decide +kernel
theorem dX6_works_6 : decode cX6_works 6 = .ok (.istore_n 3, 1) := by decide +kernel
theorem dX6_works_7 : decode cX6_works 7 = .ok (.aload_n 0, 1) := by decide +kernel
theorem dX6_works_8 : decode cX6_works 8 = .ok (.iload_n 2, 1) := by decide +kernel
theorem dX6_works_9 : decode cX6_works 9 = .ok (.aload_n 0, 1) := by decide +kernel
theorem dX6_works_10 : decode cX6_works 10 = .ok (.getfield 35, 3) := by decide +kernel
theorem dX6_works_13 : decode cX6_works 13 = .ok (.iload_n 3, 1) := by decide +kernel
theorem dX6_works_14 : decode cX6_works 14 = .ok (.iaload, 1) := by decide +kernel
theorem dX6_works_15 : decode cX6_works 15 = .ok (.invokevirtual 70, 3) := by decide +kernel
theorem dX6_works_18 : decode cX6_works 18 = .ok (.ifCond .ne 5, 3) := by decide +kernel
theorem dX6_works_21 : decode cX6_works 21 = .ok (.iconst 1, 1) := by decide +kernel
theorem dX6_works_22 : decode cX6_works 22 = .ok (.ireturn, 1) := by decide +kernel
theorem dX6_works_23 : decode cX6_works 23 = .ok (.iload_n 3, 1) := by decide +kernel
theorem dX6_works_24 : decode cX6_works 24 = .ok (.tableswitch 173 0 12 #[68, 93, 173, 173, 173, 110, 128, 135, 143, 150, 110, 158, 164], 68) := by decide +kernel
theorem dX6_works_92 : decode cX6_works 92 = .ok (.aload_n 0, 1) := by decide +kernel
theorem dX6_works_93 : decode cX6_works 93 = .ok (.getfield 47, 3) := by decide +kernel
theorem dX6_works_96 : decode cX6_works 96 = .ok (.iload_n 1, 1) := by decide +kernel
theorem dX6_works_97 : decode cX6_works 97 = .ok (.dup2, 1) := by decide +kernel
theorem dX6_works_98 : decode cX6_works 98 = .ok (.laload, 1) := by decide +kernel
theorem dX6_works_99 : decode cX6_works 99 = .ok (.aload_n 0, 1) := by decide +kernel
theorem dX6_works_100 : decode cX6_works 100 = .ok (.getfield 13, 3) := by decide +kernel
theorem dX6_works_103 : decode cX6_works 103 = .ok (.iload_n 2, 1) := by decide +kernel
theorem dX6_works_104 : decode cX6_works 104 = .ok (.iaload, 1) := by decide +kernel
theorem dX6_works_105 : decode cX6_works 105 = .ok (.i2l, 1) := by decide +kernel
theorem dX6_works_106 : decode cX6_works 106 = .ok (.ladd, 1) := by decide +kernel
theorem dX6_works_107 : decode cX6_works 107 = .ok (.lastore, 1) := by decide +kernel
theorem dX6_works_108 : decode cX6_works 108 = .ok (.aload_n 0, 1) := by decide +kernel
theorem dX6_works_109 : decode cX6_works 109 = .ok (.getfield 50, 3) := by decide +kernel
theorem dX6_works_112 : decode cX6_works 112 = .ok (.iload_n 1, 1) := by decide +kernel
theorem dX6_works_113 : decode cX6_works 113 = .ok (.iload_n 2, 1) := by decide +kernel
theorem dX6_works_114 : decode cX6_works 114 = .ok (.iastore, 1) := by decide +kernel
theorem dX6_works_115 : decode cX6_works 115 = .ok (.iconst 0, 1) := by decide +kernel
theorem dX6_works_116 : decode cX6_works 116 = .ok (.ireturn, 1) := by decide +kernel
theorem dX6_works_117 : decode cX6_works 117 = .ok (.aload_n 0, 1) := by decide +kernel
theorem dX6_works_118 : decode cX6_works 118 = .ok (.getfield 47, 3) := by decide +kernel
theorem dX6_works_121 : decode cX6_works 121 = .ok (.iload_n 1, 1) := by decide +kernel
theorem dX6_works_122 : decode cX6_works 122 = .ok (.dup2, 1) := by decide +kernel
theorem dX6_works_123 : decode cX6_works 123 = .ok (.laload, 1) := by decide +kernel
theorem dX6_works_124 : decode cX6_works 124 = .ok (.aload_n 0, 1) := by decide +kernel
theorem dX6_works_125 : decode cX6_works 125 = .ok (.iload_n 2, 1) := by decide +kernel
theorem dX6_works_126 : decode cX6_works 126 = .ok (.invokevirtual 116, 3) := by decide +kernel
theorem dX6_works_129 : decode cX6_works 129 = .ok (.i2l, 1) := by decide +kernel
theorem dX6_works_130 : decode cX6_works 130 = .ok (.ladd, 1) := by decide +kernel
theorem dX6_works_131 : decode cX6_works 131 = .ok (.lastore, 1) := by decide +kernel
theorem dX6_works_132 : decode cX6_works 132 = .ok (.iconst 0, 1) := by decide +kernel
theorem dX6_works_133 : decode cX6_works 133 = .ok (.ireturn, 1) := by decide +kernel
theorem dX6_works_134 : decode cX6_works 134 = .ok (.aload_n 0, 1) := by decide +kernel
theorem dX6_works_135 : decode cX6_works 135 = .ok (.iload_n 1, 1) := by decide +kernel
theorem dX6_works_136 : decode cX6_works 136 = .ok (.iload_n 2, 1) := by decide +kernel
theorem dX6_works_137 : decode cX6_works 137 = .ok (.iload_n 3, 1) := by decide +kernel
theorem dX6_works_138 : decode cX6_works 138 = .ok (.bipush 10, 2) := by decide +kernel
theorem dX6_works_140 : decode cX6_works 140 = .ok (.if_icmp .ne 7, 3) := by decide +kernel
theorem dX6_works_143 : decode cX6_works 143 = .ok (.iconst 1, 1) := by decide +kernel
theorem dX6_works_144 : decode cX6_works 144 = .ok (.goto 4, 3) := by decide +kernel
theorem dX6_works_147 : decode cX6_works 147 = .ok (.iconst 0, 1) := by decide +kernel
theorem dX6_works_148 : decode cX6_works 148 = .ok (.invokevirtual 123, 3) := by decide +kernel
theorem dX6_works_151 : decode cX6_works 151 = .ok (.ireturn, 1) := by decide +kernel
theorem dX6_works_152 : decode cX6_works 152 = .ok (.aload_n 0, 1) := by decide +kernel
theorem dX6_works_153 : decode cX6_works 153 = .ok (.iload_n 1, 1) := by decide +kernel
theorem dX6_works_154 : decode cX6_works 154 = .ok (.iload_n 2, 1) := by decide +kernel
theorem dX6_works_155 : decode cX6_works 155 = .ok (.invokevirtual 127, 3) := by decide +kernel
theorem dX6_works_158 : decode cX6_works 158 = .ok (.ireturn, 1) := by decide +kernel
theorem dX6_works_159 : decode cX6_works 159 = .ok (.aload_n 0, 1) := by decide +kernel
theorem dX6_works_160 : decode cX6_works 160 = .ok (.iload_n 1, 1) := by decide +kernel
theorem dX6_works_161 : decode cX6_works 161 = .ok (.iload_n 2, 1) := by decide +kernel
theorem dX6_works_162 : decode cX6_works 162 = .ok (.iconst 2, 1) := by decide +kernel
theorem dX6_works_163 : decode cX6_works 163 = .ok (.invokevirtual 130, 3) := by decide +kernel
theorem dX6_works_166 : decode cX6_works 166 = .ok (.ireturn, 1) := by decide +kernel
theorem dX6_works_167 : decode cX6_works 167 = .ok (.aload_n 0, 1) := by decide +kernel
theorem dX6_works_168 : decode cX6_works 168 = .ok (.iload_n 1, 1) := by decide +kernel
theorem dX6_works_169 : decode cX6_works 169 = .ok (.iload_n 2, 1) := by decide +kernel
theorem dX6_works_170 : decode cX6_works 170 = .ok (.invokevirtual 133, 3) := by decide +kernel
theorem dX6_works_173 : decode cX6_works 173 = .ok (.ireturn, 1) := by decide +kernel
theorem dX6_works_174 : decode cX6_works 174 = .ok (.aload_n 0, 1) := by decide +kernel
theorem dX6_works_175 : decode cX6_works 175 = .ok (.iload_n 1, 1) := by decide +kernel
theorem dX6_works_176 : decode cX6_works 176 = .ok (.iload_n 2, 1) := by decide +kernel
theorem dX6_works_177 : decode cX6_works 177 = .ok (.iconst 3, 1) := by decide +kernel
theorem dX6_works_178 : decode cX6_works 178 = .ok (.invokevirtual 130, 3) := by decide +kernel
theorem dX6_works_181 : decode cX6_works 181 = .ok (.ireturn, 1) := by decide +kernel
theorem dX6_works_182 : decode cX6_works 182 = .ok (.aload_n 0, 1) := by decide +kernel
theorem dX6_works_183 : decode cX6_works 183 = .ok (.iload_n 2, 1) := by decide +kernel
theorem dX6_works_184 : decode cX6_works 184 = .ok (.invokevirtual 136, 3) := by decide +kernel
theorem dX6_works_187 : decode cX6_works 187 = .ok (.ireturn, 1) := by decide +kernel
theorem dX6_works_188 : decode cX6_works 188 = .ok (.aload_n 0, 1) := by decide +kernel
theorem dX6_works_189 : decode cX6_works 189 = .ok (.getfield 50, 3) := by decide +kernel
theorem dX6_works_192 : decode cX6_works 192 = .ok (.iload_n 1, 1) := by decide +kernel
theorem dX6_works_193 : decode cX6_works 193 = .ok (.iload_n 2, 1) := by decide +kernel
theorem dX6_works_194 : decode cX6_works 194 = .ok (.iastore, 1) := by decide +kernel
theorem dX6_works_195 : decode cX6_works 195 = .ok (.iconst 0, 1) := by decide +kernel
theorem dX6_works_196 : decode cX6_works 196 = .ok (.ireturn, 1) := by decide +kernel
theorem dX6_works_197 : decode cX6_works 197 = .ok (.iconst 0, 1) := by decide +kernel
theorem dX6_works_198 : decode cX6_works 198 = .ok (.istore 4, 2) := by decide +kernel
theorem dX6_works_200 : decode cX6_works 200 = .ok (.iload 4, 2) := by decide +kernel
theorem dX6_works_202 : decode cX6_works 202 = .ok (.aload_n 0, 1) := by decide +kernel
theorem dX6_works_203 : decode cX6_works 203 = .ok (.getfield 16, 3) := by decide +kernel
theorem dX6_works_206 : decode cX6_works 206 = .ok (.iload_n 2, 1) := by decide +kernel
theorem dX6_works_207 : decode cX6_works 207 = .ok (.iaload, 1) := by decide +kernel
theorem dX6_works_208 : decode cX6_works 208 = .ok (.if_icmp .ge 30, 3) := by decide +kernel
theorem dX6_works_211 : decode cX6_works 211 = .ok (.aload_n 0, 1) := by decide +kernel
theorem dX6_works_212 : decode cX6_works 212 = .ok (.getfield 47, 3) := by decide +kernel
theorem dX6_works_215 : decode cX6_works 215 = .ok (.iload_n 1, 1) := by decide +kernel
theorem dX6_works_216 : decode cX6_works 216 = .ok (.dup2, 1) := by decide +kernel
theorem dX6_works_217 : decode cX6_works 217 = .ok (.laload, 1) := by decide +kernel
theorem dX6_works_218 : decode cX6_works 218 = .ok (.aload_n 0, 1) := by decide +kernel
theorem dX6_works_219 : decode cX6_works 219 = .ok (.getfield 19, 3) := by decide +kernel
theorem dX6_works_222 : decode cX6_works 222 = .ok (.bipush 8, 2) := by decide +kernel
theorem dX6_works_224 : decode cX6_works 224 = .ok (.iload_n 2, 1) := by decide +kernel
theorem dX6_works_225 : decode cX6_works 225 = .ok (.imul, 1) := by decide +kernel
theorem dX6_works_226 : decode cX6_works 226 = .ok (.iload 4, 2) := by decide +kernel
theorem dX6_works_228 : decode cX6_works 228 = .ok (.iadd, 1) := by decide +kernel
theorem dX6_works_229 : decode cX6_works 229 = .ok (.laload, 1) := by decide +kernel
theorem dX6_works_230 : decode cX6_works 230 = .ok (.ladd, 1) := by decide +kernel
theorem dX6_works_231 : decode cX6_works 231 = .ok (.lastore, 1) := by decide +kernel
theorem dX6_works_232 : decode cX6_works 232 = .ok (.iinc 4 1, 3) := by decide +kernel
theorem dX6_works_235 : decode cX6_works 235 = .ok (.goto (-35), 3) := by decide +kernel
theorem dX6_works_238 : decode cX6_works 238 = .ok (.iconst 0, 1) := by decide +kernel
theorem dX6_works_239 : decode cX6_works 239 = .ok (.ireturn, 1) := by decide +kernel
theorem dX6_goesAside_0 : decode cX6_goesAside 0 = .ok (.bipush 59, 2) := by decide +kernel
theorem dX6_goesAside_2 : decode cX6_goesAside 2 = .ok (.istore 4, 2) := by decide +kernel
theorem dX6_goesAside_4 : decode cX6_goesAside 4 = .ok (.iload 4, 2) := by decide +kernel
theorem dX6_goesAside_6 : decode cX6_goesAside 6 = .ok (.iconst 2, 1) := by decide +kernel
theorem dX6_goesAside_7 : decode cX6_goesAside 7 = .ok (.if_icmp .le 25, 3) := by decide +kernel
theorem dX6_goesAside_10 : decode cX6_goesAside 10 = .ok (.aload_n 0, 1) := by decide +kernel
theorem dX6_goesAside_11 : decode cX6_goesAside 11 = .ok (.getfield 53, 3) := by decide +kernel
theorem dX6_goesAside_14 : decode cX6_goesAside 14 = .ok (.iload 4, 2) := by decide +kernel
theorem dX6_goesAside_16 : decode cX6_goesAside 16 = .ok (.aload_n 0, 1) := by decide +kernel
theorem dX6_goesAside_17 : decode cX6_goesAside 17 = .ok (.getfield 53, 3) := by decide +kernel
theorem dX6_goesAside_20 : decode cX6_goesAside 20 = .ok (.iload 4, 2) := by decide +kernel
theorem dX6_goesAside_22 : decode cX6_goesAside 22 = .ok (.iconst 3, 1) := by decide +kernel
theorem dX6_goesAside_23 : decode cX6_goesAside 23 = .ok (.isub, 1) := by decide +kernel
theorem dX6_goesAside_24 : decode cX6_goesAside 24 = .ok (.iaload, 1) := by decide +kernel
theorem dX6_goesAside_25 : decode cX6_goesAside 25 = .ok (.iastore, 1) := by decide +kernel
theorem dX6_goesAside_26 : decode cX6_goesAside 26 = .ok (.iinc 4 (-1), 3) := by decide +kernel
theorem dX6_goesAside_29 : decode cX6_goesAside 29 = .ok (.goto (-25), 3) := by decide +kernel
theorem dX6_goesAside_32 : decode cX6_goesAside 32 = .ok (.aload_n 0, 1) := by decide +kernel
theorem dX6_goesAside_33 : decode cX6_goesAside 33 = .ok (.getfield 53, 3) := by decide +kernel
theorem dX6_goesAside_36 : decode cX6_goesAside 36 = .ok (.iconst 0, 1) := by decide +kernel
theorem dX6_goesAside_37 : decode cX6_goesAside 37 = .ok (.iload_n 1, 1) := by decide +kernel
theorem dX6_goesAside_38 : decode cX6_goesAside 38 = .ok (.iastore, 1) := by decide +kernel
theorem dX6_goesAside_39 : decode cX6_goesAside 39 = .ok (.aload_n 0, 1) := by decide +kernel
theorem dX6_goesAside_40 : decode cX6_goesAside 40 = .ok (.getfield 53, 3) := by decide +kernel
theorem dX6_goesAside_43 : decode cX6_goesAside 43 = .ok (.iconst 1, 1) := by decide +kernel
theorem dX6_goesAside_44 : decode cX6_goesAside 44 = .ok (.iload_n 2, 1) := by decide +kernel
theorem dX6_goesAside_45 : decode cX6_goesAside 45 = .ok (.iastore, 1) := by decide +kernel
theorem dX6_goesAside_46 : decode cX6_goesAside 46 = .ok (.aload_n 0, 1) := by decide +kernel
theorem dX6_goesAside_47 : decode cX6_goesAside 47 = .ok (.getfield 53, 3) := by decide +kernel
theorem dX6_goesAside_50 : decode cX6_goesAside 50 = .ok (.iconst 2, 1) := by decide +kernel
theorem dX6_goesAside_51 : decode cX6_goesAside 51 = .ok (.iload_n 3, 1) := by decide +kernel
theorem dX6_goesAside_52 : decode cX6_goesAside 52 = .ok (.iastore, 1) := by decide +kernel
theorem dX6_goesAside_53 : decode cX6_goesAside 53 = .ok (.aload_n 0, 1) := by decide +kernel
theorem dX6_goesAside_54 : decode cX6_goesAside 54 = .ok (.aload_n 0, 1) := by decide +kernel
theorem dX6_goesAside_55 : decode cX6_goesAside 55 = .ok (.getfield 139, 3) := by decide +kernel
theorem dX6_goesAside_58 : decode cX6_goesAside 58 = .ok (.bipush 20, 2) := by decide +kernel
theorem dX6_goesAside_60 : decode cX6_goesAside 60 = .ok (.if_icmp .ge 12, 3) := by decide +kernel
theorem dX6_goesAside_63 : decode cX6_goesAside 63 = .ok (.aload_n 0, 1) := by decide +kernel
theorem dX6_goesAside_64 : decode cX6_goesAside 64 = .ok (.getfield 139, 3) := by decide +kernel
theorem dX6_goesAside_67 : decode cX6_goesAside 67 = .ok (.iconst 1, 1) := by decide +kernel
theorem dX6_goesAside_68 : decode cX6_goesAside 68 = .ok (.iadd, 1) := by decide +kernel
theorem dX6_goesAside_69 : decode cX6_goesAside 69 = .ok (.goto 5, 3) := by decide +kernel
theorem dX6_goesAside_72 : decode cX6_goesAside 72 = .ok (.bipush 20, 2) := by decide +kernel
theorem dX6_goesAside_74 : decode cX6_goesAside 74 = .ok (.putfield 139, 3) := by decide +kernel
theorem dX6_goesAside_77 : decode cX6_goesAside 77 = .ok (.return_, 1) := by decide +kernel
set_option maxRecDepth 20000 in
theorem ggX6_steps_X6_isOf : GoodIn wsX6_steps wsX6_isOf := goodIn_ca (goodIn_r _ [12, 13, 14, 82, 83, 84, 85, 86, 87, 88, 89, 90, 91, 92, 93, 94, 95, 96, 97, 98, 99, 100, 101, 102, 103, 104] (by decide +kernel) (by decide +kernel)) (goodIn_sub (fun _ h => List.mem_cons_of_mem _ (List.mem_append_right _ h)) (by decide +kernel))
set_option maxRecDepth 20000 in
theorem gX6_steps_X6_isOf : GoodIn wsX6_steps (wsV RX6 70 RX6 yX6_isOf wsX6_isOf) := goodIn_app (goodIn_of _ (by decide +kernel)) ggX6_steps_X6_isOf
set_option maxRecDepth 20000 in
theorem ggX6_steps_X6_works : GoodIn wsX6_steps wsX6_works := goodIn_ca (goodIn_r _ [18, 19, 20, 21, 22, 23, 24, 25, 8, 9, 10, 11, 12, 13, 14, 26, 27, 28, 29, 30, 31, 32, 33, 34, 35, 36, 37, 38, 39, 40, 41, 42, 43, 44, 45, 46, 47, 48, 49, 50, 51, 52, 53, 54, 55, 56, 57, 58, 59, 60, 61, 62, 63, 64, 65, 66, 2, 67, 68, 69, 70, 1, 82, 83, 84, 85, 86, 87, 88, 89, 90, 91, 92, 93, 94, 95, 96, 97, 98, 99, 100, 101, 102, 103, 104] (by decide +kernel) (by decide +kernel)) (goodIn_sub (fun _ h => List.mem_cons_of_mem _ (List.mem_append_right _ h)) (by decide +kernel))
set_option maxRecDepth 20000 in
theorem gX6_steps_X6_works : GoodIn wsX6_steps (wsV RX6 145 RX6 yX6_works wsX6_works) := goodIn_app (goodIn_of _ (by decide +kernel)) ggX6_steps_X6_works
set_option maxRecDepth 20000 in
theorem ggX6_steps_X6_goesAside : GoodIn wsX6_steps wsX6_goesAside := goodIn_ca (goodIn_r _ [74, 75, 76, 82, 83, 84, 85, 86, 87, 88, 89, 90, 91, 92, 93, 94, 95, 96, 97, 98, 99, 100, 101, 102, 103, 104] (by decide +kernel) (by decide +kernel)) (goodIn_sub (fun _ h => List.mem_cons_of_mem _ (List.mem_append_right _ h)) (by decide +kernel))
set_option maxRecDepth 20000 in
theorem gX6_steps_X6_goesAside : GoodIn wsX6_steps (wsV RX6 153 RX6 yX6_goesAside wsX6_goesAside) := goodIn_app (goodIn_of _ (by decide +kernel)) ggX6_steps_X6_goesAside
set_option maxRecDepth 20000 in
theorem ggX6_steps_X6_found : GoodIn wsX6_steps wsX6_found := goodIn_ca (goodIn_r _ [80, 81, 82, 83, 84, 85, 86, 87, 88, 89, 90, 91, 92, 93, 94, 95, 96, 97, 98, 99, 100, 101, 102, 103, 104] (by decide +kernel) (by decide +kernel)) (goodIn_sub (fun _ h => List.mem_cons_of_mem _ (List.mem_append_right _ h)) (by decide +kernel))
set_option maxRecDepth 20000 in
theorem gX6_steps_X6_found : GoodIn wsX6_steps (wsV RX6 78 RX6 yX6_found wsX6_found) := goodIn_app (goodIn_of _ (by decide +kernel)) ggX6_steps_X6_found
theorem dX6_steps_0 : decode cX6_steps 0 = .ok (.aload_n 0, 1) := by decide +kernel
theorem dX6_steps_1 : decode cX6_steps 1 = .ok (.getfield 38, 3) := by decide +kernel
theorem dX6_steps_4 : decode cX6_steps 4 = .ok (.iconst 0, 1) := by decide +kernel
theorem dX6_steps_5 : decode cX6_steps 5 = .ok (.iaload, 1) := by decide +kernel
theorem dX6_steps_6 : decode cX6_steps 6 = .ok (.istore_n 1, 1) := by decide +kernel
theorem dX6_steps_7 : decode cX6_steps 7 = .ok (.aload_n 0, 1) := by decide +kernel
theorem dX6_steps_8 : decode cX6_steps 8 = .ok (.dup, 1) := by decide +kernel
theorem dX6_steps_9 : decode cX6_steps 9 = .ok (.getfield 109, 3) := by decide +kernel
theorem dX6_steps_12 : decode cX6_steps 12 = .ok (.iconst 1, 1) := by decide +kernel
theorem dX6_steps_13 : decode cX6_steps 13 = .ok (.isub, 1) := by decide +kernel
theorem dX6_steps_14 : decode cX6_steps 14 = .ok (.putfield 109, 3) := by decide +kernel
theorem dX6_steps_17 : decode cX6_steps 17 = .ok (.iconst 0, 1) := by decide +kernel
theorem dX6_steps_18 : decode cX6_steps 18 = .ok (.istore_n 2, 1) := by decide +kernel
theorem dX6_steps_19 : decode cX6_steps 19 = .ok (.iload_n 2, 1) := by decide +kernel
theorem dX6_steps_20 : decode cX6_steps 20 = .ok (.aload_n 0, 1) := by decide +kernel
theorem dX6_steps_21 : decode cX6_steps 21 = .ok (.getfield 109, 3) := by decide +kernel
theorem dX6_steps_24 : decode cX6_steps 24 = .ok (.if_icmp .ge 23, 3) := by decide +kernel
theorem dX6_steps_27 : decode cX6_steps 27 = .ok (.aload_n 0, 1) := by decide +kernel
theorem dX6_steps_28 : decode cX6_steps 28 = .ok (.getfield 38, 3) := by decide +kernel
theorem dX6_steps_31 : decode cX6_steps 31 = .ok (.iload_n 2, 1) := by decide +kernel
theorem dX6_steps_32 : decode cX6_steps 32 = .ok (.aload_n 0, 1) := by decide +kernel
theorem dX6_steps_33 : decode cX6_steps 33 = .ok (.getfield 38, 3) := by decide +kernel
theorem dX6_steps_36 : decode cX6_steps 36 = .ok (.iload_n 2, 1) := by decide +kernel
theorem dX6_steps_37 : decode cX6_steps 37 = .ok (.iconst 1, 1) := by decide +kernel
theorem dX6_steps_38 : decode cX6_steps 38 = .ok (.iadd, 1) := by decide +kernel
theorem dX6_steps_39 : decode cX6_steps 39 = .ok (.iaload, 1) := by decide +kernel
theorem dX6_steps_40 : decode cX6_steps 40 = .ok (.iastore, 1) := by decide +kernel
theorem dX6_steps_41 : decode cX6_steps 41 = .ok (.iinc 2 1, 3) := by decide +kernel
theorem dX6_steps_44 : decode cX6_steps 44 = .ok (.goto (-25), 3) := by decide +kernel
theorem dX6_steps_47 : decode cX6_steps 47 = .ok (.iconst 0, 1) := by decide +kernel
theorem dX6_steps_48 : decode cX6_steps 48 = .ok (.istore_n 2, 1) := by decide +kernel
theorem dX6_steps_49 : decode cX6_steps 49 = .ok (.iload_n 2, 1) := by decide +kernel
theorem dX6_steps_50 : decode cX6_steps 50 = .ok (.aload_n 0, 1) := by decide +kernel
theorem dX6_steps_51 : decode cX6_steps 51 = .ok (.getfield 106, 3) := by decide +kernel
theorem dX6_steps_54 : decode cX6_steps 54 = .ok (.if_icmp .ge 23, 3) := by decide +kernel
theorem dX6_steps_57 : decode cX6_steps 57 = .ok (.aload_n 0, 1) := by decide +kernel
theorem dX6_steps_58 : decode cX6_steps 58 = .ok (.iload_n 1, 1) := by decide +kernel
theorem dX6_steps_59 : decode cX6_steps 59 = .ok (.aload_n 0, 1) := by decide +kernel
theorem dX6_steps_60 : decode cX6_steps 60 = .ok (.getfield 41, 3) := by decide +kernel
theorem dX6_steps_63 : decode cX6_steps 63 = .ok (.iload_n 2, 1) := by decide +kernel
theorem dX6_steps_64 : decode cX6_steps 64 = .ok (.iaload, 1) := by decide +kernel
theorem dX6_steps_65 : decode cX6_steps 65 = .ok (.invokevirtual 70, 3) := by decide +kernel
theorem dX6_steps_68 : decode cX6_steps 68 = .ok (.ifCond .ne 9, 3) := by decide +kernel
theorem dX6_steps_71 : decode cX6_steps 71 = .ok (.iinc 2 1, 3) := by decide +kernel
theorem dX6_steps_74 : decode cX6_steps 74 = .ok (.goto (-25), 3) := by decide +kernel
theorem dX6_steps_77 : decode cX6_steps 77 = .ok (.iload_n 2, 1) := by decide +kernel
theorem dX6_steps_78 : decode cX6_steps 78 = .ok (.aload_n 0, 1) := by decide +kernel
theorem dX6_steps_79 : decode cX6_steps 79 = .ok (.getfield 106, 3) := by decide +kernel
theorem dX6_steps_82 : decode cX6_steps 82 = .ok (.if_icmp .ne 16, 3) := by decide +kernel
theorem dX6_steps_85 : decode cX6_steps 85 = .ok (.aload_n 0, 1) := by decide +kernel
theorem dX6_steps_86 : decode cX6_steps 86 = .ok (.dup, 1) := by decide +kernel
theorem dX6_steps_87 : decode cX6_steps 87 = .ok (.getfield 142, 3) := by decide +kernel
theorem dX6_steps_90 : decode cX6_steps 90 = .ok (.iconst 1, 1) := by decide +kernel
theorem dX6_steps_91 : decode cX6_steps 91 = .ok (.iadd, 1) := by decide +kernel
theorem dX6_steps_92 : decode cX6_steps 92 = .ok (.putfield 142, 3) := by decide +kernel
theorem dX6_steps_95 : decode cX6_steps 95 = .ok (.bipush (-6), 2) := by decide +kernel
theorem dX6_steps_97 : decode cX6_steps 97 = .ok (.ireturn, 1) := by decide +kernel
theorem dX6_steps_98 : decode cX6_steps 98 = .ok (.aload_n 0, 1) := by decide +kernel
theorem dX6_steps_99 : decode cX6_steps 99 = .ok (.iload_n 2, 1) := by decide +kernel
theorem dX6_steps_100 : decode cX6_steps 100 = .ok (.iload_n 1, 1) := by decide +kernel
theorem dX6_steps_101 : decode cX6_steps 101 = .ok (.invokevirtual 145, 3) := by decide +kernel
theorem dX6_steps_104 : decode cX6_steps 104 = .ok (.istore_n 3, 1) := by decide +kernel
theorem dX6_steps_105 : decode cX6_steps 105 = .ok (.iload_n 3, 1) := by decide +kernel
theorem dX6_steps_106 : decode cX6_steps 106 = .ok (.ifCond .ne 15, 3) := by decide +kernel
theorem dX6_steps_109 : decode cX6_steps 109 = .ok (.aload_n 0, 1) := by decide +kernel
theorem dX6_steps_110 : decode cX6_steps 110 = .ok (.dup, 1) := by decide +kernel
theorem dX6_steps_111 : decode cX6_steps 111 = .ok (.getfield 147, 3) := by decide +kernel
theorem dX6_steps_114 : decode cX6_steps 114 = .ok (.iconst 1, 1) := by decide +kernel
theorem dX6_steps_115 : decode cX6_steps 115 = .ok (.iadd, 1) := by decide +kernel
theorem dX6_steps_116 : decode cX6_steps 116 = .ok (.putfield 147, 3) := by decide +kernel
theorem dX6_steps_119 : decode cX6_steps 119 = .ok (.iload_n 2, 1) := by decide +kernel
theorem dX6_steps_120 : decode cX6_steps 120 = .ok (.ireturn, 1) := by decide +kernel
theorem dX6_steps_121 : decode cX6_steps 121 = .ok (.aload_n 0, 1) := by decide +kernel
theorem dX6_steps_122 : decode cX6_steps 122 = .ok (.dup, 1) := by decide +kernel
theorem dX6_steps_123 : decode cX6_steps 123 = .ok (.getfield 150, 3) := by decide +kernel
theorem dX6_steps_126 : decode cX6_steps 126 = .ok (.iconst 1, 1) := by decide +kernel
theorem dX6_steps_127 : decode cX6_steps 127 = .ok (.iadd, 1) := by decide +kernel
theorem dX6_steps_128 : decode cX6_steps 128 = .ok (.putfield 150, 3) := by decide +kernel
theorem dX6_steps_131 : decode cX6_steps 131 = .ok (.aload_n 0, 1) := by decide +kernel
theorem dX6_steps_132 : decode cX6_steps 132 = .ok (.iload_n 1, 1) := by decide +kernel
theorem dX6_steps_133 : decode cX6_steps 133 = .ok (.iload_n 2, 1) := by decide +kernel
theorem dX6_steps_134 : decode cX6_steps 134 = .ok (.iload_n 3, 1) := by decide +kernel
theorem dX6_steps_135 : decode cX6_steps 135 = .ok (.invokevirtual 153, 3) := by decide +kernel
theorem dX6_steps_138 : decode cX6_steps 138 = .ok (.aload_n 0, 1) := by decide +kernel
theorem dX6_steps_139 : decode cX6_steps 139 = .ok (.iload_n 3, 1) := by decide +kernel
theorem dX6_steps_140 : decode cX6_steps 140 = .ok (.invokevirtual 78, 3) := by decide +kernel
theorem dX6_steps_143 : decode cX6_steps 143 = .ok (.ireturn, 1) := by decide +kernel
set_option maxRecDepth 20000 in
theorem ggX6_step_X6_steps : GoodIn wsX6_step wsX6_steps := goodIn_ca (goodIn_r _ [7, 8, 2, 9, 10, 11, 12, 13, 14, 15, 16, 6, 17, 18, 19, 20, 21, 22, 23, 24, 25, 26, 27, 28, 29, 30, 31, 32, 33, 34, 35, 36, 37, 38, 39, 40, 41, 42, 43, 44, 45, 46, 47, 48, 49, 50, 51, 52, 53, 54, 55, 56, 57, 58, 59, 60, 61, 62, 63, 64, 65, 66, 67, 68, 69, 70, 71, 72, 73, 74, 75, 76, 77, 78, 79, 80, 81, 82, 83, 84, 85, 86, 87, 88, 89, 90, 91, 92, 93, 94, 95, 96, 97, 98, 99, 100, 101, 102, 103, 104, 105, 106, 107, 108, 109] (by decide +kernel) (by decide +kernel)) (goodIn_sub (fun _ h => List.mem_cons_of_mem _ (List.mem_append_right _ h)) (by decide +kernel))
set_option maxRecDepth 20000 in
theorem gX6_step_X6_steps : GoodIn wsX6_step (wsV RX6 157 RX6 yX6_steps wsX6_steps) := goodIn_app (goodIn_of _ (by decide +kernel)) ggX6_step_X6_steps
theorem dX6_step_0 : decode cX6_step 0 = .ok (.aload_n 0, 1) := by decide +kernel
theorem dX6_step_1 : decode cX6_step 1 = .ok (.iconst 0, 1) := by decide +kernel
theorem dX6_step_2 : decode cX6_step 2 = .ok (.putfield 59, 3) := by decide +kernel
theorem dX6_step_5 : decode cX6_step 5 = .ok (.aload_n 0, 1) := by decide +kernel
theorem dX6_step_6 : decode cX6_step 6 = .ok (.getfield 109, 3) := by decide +kernel
theorem dX6_step_9 : decode cX6_step 9 = .ok (.ifCond .ne 8, 3) := by decide +kernel
theorem dX6_step_12 : decode cX6_step 12 = .ok (.bipush (-5), 2) := by decide +kernel
theorem dX6_step_14 : decode cX6_step 14 = .ok (.goto 7, 3) := by decide +kernel
theorem dX6_step_17 : decode cX6_step 17 = .ok (.aload_n 0, 1) := by decide +kernel
theorem dX6_step_18 : decode cX6_step 18 = .ok (.invokevirtual 157, 3) := by decide +kernel
theorem dX6_step_21 : decode cX6_step 21 = .ok (.ireturn, 1) := by decide +kernel
set_option maxRecDepth 20000 in
theorem ggX6_run_X6_in : GoodIn wsX6_run wsX6_in := goodIn_r _ [6] (by decide +kernel) (by decide +kernel)
set_option maxRecDepth 20000 in
theorem gX6_run_X6_in : GoodIn wsX6_run (va_wsS RX6 66 yX6_in wsX6_in) := goodIn_app (goodIn_of _ (by decide +kernel)) ggX6_run_X6_in
set_option maxRecDepth 20000 in
theorem ggX6_run_X6_steps : GoodIn wsX6_run wsX6_steps := goodIn_ca (goodIn_r _ [10, 11, 2, 12, 13, 14, 15, 16, 17, 18, 19, 5, 20, 21, 22, 23, 24, 25, 26, 27, 28, 29, 30, 31, 32, 33, 34, 35, 36, 37, 38, 39, 40, 41, 42, 43, 44, 45, 46, 47, 48, 49, 50, 51, 52, 53, 54, 55, 3, 4, 6, 56, 57, 58, 59, 60, 61, 62, 63, 64, 65, 66, 67, 68, 69, 70, 71, 72, 73, 74, 75, 76, 77, 78, 79, 80, 81, 82, 83, 84, 85, 86, 87, 88, 89, 90, 91, 92, 93, 94, 95, 96, 97, 98, 99, 100, 101, 102, 103, 104, 105, 106, 107, 108, 109] (by decide +kernel) (by decide +kernel)) (goodIn_sub (fun _ h => List.mem_cons_of_mem _ (List.mem_append_right _ h)) (by decide +kernel))
set_option maxRecDepth 20000 in
theorem gX6_run_X6_steps : GoodIn wsX6_run (wsV RX6 157 RX6 yX6_steps wsX6_steps) := goodIn_app (goodIn_of _ (by decide +kernel)) ggX6_run_X6_steps
theorem dX6_run_0 : decode cX6_run 0 = .ok (.aload_n 0, 1) := by decide +kernel
theorem dX6_run_1 : decode cX6_run 1 = .ok (.iconst 0, 1) := by decide +kernel
theorem dX6_run_2 : decode cX6_run 2 = .ok (.putfield 59, 3) := by decide +kernel
theorem dX6_run_5 : decode cX6_run 5 = .ok (.iload_n 1, 1) := by decide +kernel
theorem dX6_run_6 : decode cX6_run 6 = .ok (.iconst 0, 1) := by decide +kernel
theorem dX6_run_7 : decode cX6_run 7 = .ok (.bipush 100, 2) := by decide +kernel
theorem dX6_run_9 : decode cX6_run 9 = .ok (.invokestatic 66, 3) := by decide +kernel
theorem dX6_run_12 : decode cX6_run 12 = .ok (.ifCond .ne 6, 3) := by decide +kernel
theorem dX6_run_15 : decode cX6_run 15 = .ok (.bipush (-2), 2) := by decide +kernel
theorem dX6_run_17 : decode cX6_run 17 = .ok (.ireturn, 1) := by decide +kernel
theorem dX6_run_18 : decode cX6_run 18 = .ok (.iconst 0, 1) := by decide +kernel
theorem dX6_run_19 : decode cX6_run 19 = .ok (.istore_n 2, 1) := by decide +kernel
theorem dX6_run_20 : decode cX6_run 20 = .ok (.iconst 0, 1) := by decide +kernel
theorem dX6_run_21 : decode cX6_run 21 = .ok (.istore_n 3, 1) := by decide +kernel
theorem dX6_run_22 : decode cX6_run 22 = .ok (.iload_n 3, 1) := by decide +kernel
theorem dX6_run_23 : decode cX6_run 23 = .ok (.iload_n 1, 1) := by decide +kernel
theorem dX6_run_24 : decode cX6_run 24 = .ok (.if_icmp .ge 35, 3) := by decide +kernel
theorem dX6_run_27 : decode cX6_run 27 = .ok (.aload_n 0, 1) := by decide +kernel
theorem dX6_run_28 : decode cX6_run 28 = .ok (.getfield 109, 3) := by decide +kernel
theorem dX6_run_31 : decode cX6_run 31 = .ok (.ifCond .le 28, 3) := by decide +kernel
theorem dX6_run_34 : decode cX6_run 34 = .ok (.iload_n 2, 1) := by decide +kernel
theorem dX6_run_35 : decode cX6_run 35 = .ok (.aload_n 0, 1) := by decide +kernel
theorem dX6_run_36 : decode cX6_run 36 = .ok (.invokevirtual 157, 3) := by decide +kernel
theorem dX6_run_39 : decode cX6_run 39 = .ok (.bipush (-20), 2) := by decide +kernel
theorem dX6_run_41 : decode cX6_run 41 = .ok (.if_icmp .gt 9, 3) := by decide +kernel
theorem dX6_run_44 : decode cX6_run 44 = .ok (.sipush 1000, 3) := by decide +kernel
theorem dX6_run_47 : decode cX6_run 47 = .ok (.goto 4, 3) := by decide +kernel
theorem dX6_run_50 : decode cX6_run 50 = .ok (.iconst 1, 1) := by decide +kernel
theorem dX6_run_51 : decode cX6_run 51 = .ok (.iadd, 1) := by decide +kernel
theorem dX6_run_52 : decode cX6_run 52 = .ok (.istore_n 2, 1) := by decide +kernel
theorem dX6_run_53 : decode cX6_run 53 = .ok (.iinc 3 1, 3) := by decide +kernel
theorem dX6_run_56 : decode cX6_run 56 = .ok (.goto (-34), 3) := by decide +kernel
theorem dX6_run_59 : decode cX6_run 59 = .ok (.iload_n 2, 1) := by decide +kernel
theorem dX6_run_60 : decode cX6_run 60 = .ok (.ireturn, 1) := by decide +kernel
set_option maxRecDepth 20000 in
theorem ggX6_total_X6_in : GoodIn wsX6_total wsX6_in := goodIn_r _ [7] (by decide +kernel) (by decide +kernel)
set_option maxRecDepth 20000 in
theorem gX6_total_X6_in : GoodIn wsX6_total (va_wsS RX6 66 yX6_in wsX6_in) := goodIn_app (goodIn_of _ (by decide +kernel)) ggX6_total_X6_in
theorem dX6_total_0 : decode cX6_total 0 = .ok (.aload_n 0, 1) := by decide +kernel
theorem dX6_total_1 : decode cX6_total 1 = .ok (.iconst 0, 1) := by decide +kernel
theorem dX6_total_2 : decode cX6_total 2 = .ok (.putfield 59, 3) := by decide +kernel
theorem dX6_total_5 : decode cX6_total 5 = .ok (.iload_n 1, 1) := by decide +kernel
theorem dX6_total_6 : decode cX6_total 6 = .ok (.iconst 0, 1) := by decide +kernel
theorem dX6_total_7 : decode cX6_total 7 = .ok (.aload_n 0, 1) := by decide +kernel
theorem dX6_total_8 : decode cX6_total 8 = .ok (.getfield 106, 3) := by decide +kernel
theorem dX6_total_11 : decode cX6_total 11 = .ok (.iconst 1, 1) := by decide +kernel
theorem dX6_total_12 : decode cX6_total 12 = .ok (.isub, 1) := by decide +kernel
theorem dX6_total_13 : decode cX6_total 13 = .ok (.invokestatic 66, 3) := by decide +kernel
theorem dX6_total_16 : decode cX6_total 16 = .ok (.ifCond .eq 12, 3) := by decide +kernel
theorem dX6_total_19 : decode cX6_total 19 = .ok (.aload_n 0, 1) := by decide +kernel
theorem dX6_total_20 : decode cX6_total 20 = .ok (.getfield 47, 3) := by decide +kernel
theorem dX6_total_23 : decode cX6_total 23 = .ok (.iload_n 1, 1) := by decide +kernel
theorem dX6_total_24 : decode cX6_total 24 = .ok (.laload, 1) := by decide +kernel
theorem dX6_total_25 : decode cX6_total 25 = .ok (.goto 4, 3) := by decide +kernel
theorem dX6_total_28 : decode cX6_total 28 = .ok (.lconst 0, 1) := by decide +kernel
theorem dX6_total_29 : decode cX6_total 29 = .ok (.lreturn, 1) := by decide +kernel
set_option maxRecDepth 20000 in
theorem ggX6_slot_X6_in : GoodIn wsX6_slot wsX6_in := goodIn_r _ [7] (by decide +kernel) (by decide +kernel)
set_option maxRecDepth 20000 in
theorem gX6_slot_X6_in : GoodIn wsX6_slot (va_wsS RX6 66 yX6_in wsX6_in) := goodIn_app (goodIn_of _ (by decide +kernel)) ggX6_slot_X6_in
set_option maxRecDepth 20000 in
theorem ggX6_slot_X6_told : GoodIn wsX6_slot wsX6_told := goodIn_r _ [10] (by decide +kernel) (by decide +kernel)
set_option maxRecDepth 20000 in
theorem gX6_slot_X6_told : GoodIn wsX6_slot (va_wsS RX6 103 yX6_told wsX6_told) := goodIn_app (goodIn_of _ (by decide +kernel)) ggX6_slot_X6_told
theorem dX6_slot_0 : decode cX6_slot 0 = .ok (.aload_n 0, 1) := by decide +kernel
theorem dX6_slot_1 : decode cX6_slot 1 = .ok (.iconst 0, 1) := by decide +kernel
theorem dX6_slot_2 : decode cX6_slot 2 = .ok (.putfield 59, 3) := by decide +kernel
theorem dX6_slot_5 : decode cX6_slot 5 = .ok (.iload_n 1, 1) := by decide +kernel
theorem dX6_slot_6 : decode cX6_slot 6 = .ok (.iconst 0, 1) := by decide +kernel
theorem dX6_slot_7 : decode cX6_slot 7 = .ok (.aload_n 0, 1) := by decide +kernel
theorem dX6_slot_8 : decode cX6_slot 8 = .ok (.getfield 106, 3) := by decide +kernel
theorem dX6_slot_11 : decode cX6_slot 11 = .ok (.iconst 1, 1) := by decide +kernel
theorem dX6_slot_12 : decode cX6_slot 12 = .ok (.isub, 1) := by decide +kernel
theorem dX6_slot_13 : decode cX6_slot 13 = .ok (.invokestatic 66, 3) := by decide +kernel
theorem dX6_slot_16 : decode cX6_slot 16 = .ok (.ifCond .eq 15, 3) := by decide +kernel
theorem dX6_slot_19 : decode cX6_slot 19 = .ok (.aload_n 0, 1) := by decide +kernel
theorem dX6_slot_20 : decode cX6_slot 20 = .ok (.getfield 50, 3) := by decide +kernel
theorem dX6_slot_23 : decode cX6_slot 23 = .ok (.iload_n 1, 1) := by decide +kernel
theorem dX6_slot_24 : decode cX6_slot 24 = .ok (.iaload, 1) := by decide +kernel
theorem dX6_slot_25 : decode cX6_slot 25 = .ok (.invokestatic 103, 3) := by decide +kernel
theorem dX6_slot_28 : decode cX6_slot 28 = .ok (.goto 4, 3) := by decide +kernel
theorem dX6_slot_31 : decode cX6_slot 31 = .ok (.iconst (-1), 1) := by decide +kernel
theorem dX6_slot_32 : decode cX6_slot 32 = .ok (.ireturn, 1) := by decide +kernel
set_option maxRecDepth 20000 in
theorem ggX6_belt_X6_in : GoodIn wsX6_belt wsX6_in := goodIn_r _ [7] (by decide +kernel) (by decide +kernel)
set_option maxRecDepth 20000 in
theorem gX6_belt_X6_in : GoodIn wsX6_belt (va_wsS RX6 66 yX6_in wsX6_in) := goodIn_app (goodIn_of _ (by decide +kernel)) ggX6_belt_X6_in
theorem dX6_belt_0 : decode cX6_belt 0 = .ok (.aload_n 0, 1) := by decide +kernel
theorem dX6_belt_1 : decode cX6_belt 1 = .ok (.iconst 0, 1) := by decide +kernel
theorem dX6_belt_2 : decode cX6_belt 2 = .ok (.putfield 59, 3) := by decide +kernel
theorem dX6_belt_5 : decode cX6_belt 5 = .ok (.iload_n 1, 1) := by decide +kernel
theorem dX6_belt_6 : decode cX6_belt 6 = .ok (.iconst 0, 1) := by decide +kernel
theorem dX6_belt_7 : decode cX6_belt 7 = .ok (.aload_n 0, 1) := by decide +kernel
theorem dX6_belt_8 : decode cX6_belt 8 = .ok (.getfield 109, 3) := by decide +kernel
theorem dX6_belt_11 : decode cX6_belt 11 = .ok (.iconst 1, 1) := by decide +kernel
theorem dX6_belt_12 : decode cX6_belt 12 = .ok (.isub, 1) := by decide +kernel
theorem dX6_belt_13 : decode cX6_belt 13 = .ok (.invokestatic 66, 3) := by decide +kernel
theorem dX6_belt_16 : decode cX6_belt 16 = .ok (.ifCond .eq 12, 3) := by decide +kernel
theorem dX6_belt_19 : decode cX6_belt 19 = .ok (.aload_n 0, 1) := by decide +kernel
theorem dX6_belt_20 : decode cX6_belt 20 = .ok (.getfield 38, 3) := by decide +kernel
theorem dX6_belt_23 : decode cX6_belt 23 = .ok (.iload_n 1, 1) := by decide +kernel
theorem dX6_belt_24 : decode cX6_belt 24 = .ok (.iaload, 1) := by decide +kernel
theorem dX6_belt_25 : decode cX6_belt 25 = .ok (.goto 5, 3) := by decide +kernel
theorem dX6_belt_28 : decode cX6_belt 28 = .ok (.bipush (-5), 2) := by decide +kernel
theorem dX6_belt_30 : decode cX6_belt 30 = .ok (.ireturn, 1) := by decide +kernel
set_option maxRecDepth 20000 in
theorem ggX6_side_X6_in : GoodIn wsX6_side wsX6_in := goodIn_r _ [7] (by decide +kernel) (by decide +kernel)
set_option maxRecDepth 20000 in
theorem gX6_side_X6_in : GoodIn wsX6_side (va_wsS RX6 66 yX6_in wsX6_in) := goodIn_app (goodIn_of _ (by decide +kernel)) ggX6_side_X6_in
theorem dX6_side_0 : decode cX6_side 0 = .ok (.aload_n 0, 1) := by decide +kernel
theorem dX6_side_1 : decode cX6_side 1 = .ok (.iconst 0, 1) := by decide +kernel
theorem dX6_side_2 : decode cX6_side 2 = .ok (.putfield 59, 3) := by decide +kernel
theorem dX6_side_5 : decode cX6_side 5 = .ok (.iload_n 2, 1) := by decide +kernel
theorem dX6_side_6 : decode cX6_side 6 = .ok (.iconst 0, 1) := by decide +kernel
theorem dX6_side_7 : decode cX6_side 7 = .ok (.iconst 2, 1) := by decide +kernel
theorem dX6_side_8 : decode cX6_side 8 = .ok (.invokestatic 66, 3) := by decide +kernel
theorem dX6_side_11 : decode cX6_side 11 = .ok (.ifCond .ne 8, 3) := by decide +kernel
theorem dX6_side_14 : decode cX6_side 14 = .ok (.bipush (-2), 2) := by decide +kernel
theorem dX6_side_16 : decode cX6_side 16 = .ok (.goto 32, 3) := by decide +kernel
theorem dX6_side_19 : decode cX6_side 19 = .ok (.iload_n 1, 1) := by decide +kernel
theorem dX6_side_20 : decode cX6_side 20 = .ok (.iconst 0, 1) := by decide +kernel
theorem dX6_side_21 : decode cX6_side 21 = .ok (.aload_n 0, 1) := by decide +kernel
theorem dX6_side_22 : decode cX6_side 22 = .ok (.getfield 139, 3) := by decide +kernel
theorem dX6_side_25 : decode cX6_side 25 = .ok (.iconst 1, 1) := by decide +kernel
theorem dX6_side_26 : decode cX6_side 26 = .ok (.isub, 1) := by decide +kernel
theorem dX6_side_27 : decode cX6_side 27 = .ok (.invokestatic 66, 3) := by decide +kernel
theorem dX6_side_30 : decode cX6_side 30 = .ok (.ifCond .eq 16, 3) := by decide +kernel
theorem dX6_side_33 : decode cX6_side 33 = .ok (.aload_n 0, 1) := by decide +kernel
theorem dX6_side_34 : decode cX6_side 34 = .ok (.getfield 53, 3) := by decide +kernel
theorem dX6_side_37 : decode cX6_side 37 = .ok (.iconst 3, 1) := by decide +kernel
theorem dX6_side_38 : decode cX6_side 38 = .ok (.iload_n 1, 1) := by decide +kernel
theorem dX6_side_39 : decode cX6_side 39 = .ok (.imul, 1) := by decide +kernel
theorem dX6_side_40 : decode cX6_side 40 = .ok (.iload_n 2, 1) := by decide +kernel
theorem dX6_side_41 : decode cX6_side 41 = .ok (.iadd, 1) := by decide +kernel
theorem dX6_side_42 : decode cX6_side 42 = .ok (.iaload, 1) := by decide +kernel
theorem dX6_side_43 : decode cX6_side 43 = .ok (.goto 5, 3) := by decide +kernel
theorem dX6_side_46 : decode cX6_side 46 = .ok (.bipush (-5), 2) := by decide +kernel
theorem dX6_side_48 : decode cX6_side 48 = .ok (.ireturn, 1) := by decide +kernel
set_option maxRecDepth 20000 in
theorem ggX6_count_X6_in : GoodIn wsX6_count wsX6_in := goodIn_r _ [12] (by decide +kernel) (by decide +kernel)
set_option maxRecDepth 20000 in
theorem gX6_count_X6_in : GoodIn wsX6_count (va_wsS RX6 66 yX6_in wsX6_in) := goodIn_app (goodIn_of _ (by decide +kernel)) ggX6_count_X6_in
theorem dX6_count_0 : decode cX6_count 0 = .ok (.aload_n 0, 1) := by decide +kernel
theorem dX6_count_1 : decode cX6_count 1 = .ok (.iconst 0, 1) := by decide +kernel
theorem dX6_count_2 : decode cX6_count 2 = .ok (.putfield 59, 3) := by decide +kernel
theorem dX6_count_5 : decode cX6_count 5 = .ok (.iload_n 1, 1) := by decide +kernel
theorem dX6_count_6 : decode cX6_count 6 = .ok (.tableswitch 68 0 5 #[38, 43, 48, 53, 58, 63], 38) := by decide +kernel
theorem dX6_count_44 : decode cX6_count 44 = .ok (.aload_n 0, 1) := by decide +kernel
theorem dX6_count_45 : decode cX6_count 45 = .ok (.getfield 63, 3) := by decide +kernel
theorem dX6_count_48 : decode cX6_count 48 = .ok (.ireturn, 1) := by decide +kernel
theorem dX6_count_49 : decode cX6_count 49 = .ok (.aload_n 0, 1) := by decide +kernel
theorem dX6_count_50 : decode cX6_count 50 = .ok (.getfield 106, 3) := by decide +kernel
theorem dX6_count_53 : decode cX6_count 53 = .ok (.ireturn, 1) := by decide +kernel
theorem dX6_count_54 : decode cX6_count 54 = .ok (.aload_n 0, 1) := by decide +kernel
theorem dX6_count_55 : decode cX6_count 55 = .ok (.getfield 109, 3) := by decide +kernel
theorem dX6_count_58 : decode cX6_count 58 = .ok (.ireturn, 1) := by decide +kernel
theorem dX6_count_59 : decode cX6_count 59 = .ok (.aload_n 0, 1) := by decide +kernel
theorem dX6_count_60 : decode cX6_count 60 = .ok (.getfield 147, 3) := by decide +kernel
theorem dX6_count_63 : decode cX6_count 63 = .ok (.ireturn, 1) := by decide +kernel
theorem dX6_count_64 : decode cX6_count 64 = .ok (.aload_n 0, 1) := by decide +kernel
theorem dX6_count_65 : decode cX6_count 65 = .ok (.getfield 142, 3) := by decide +kernel
theorem dX6_count_68 : decode cX6_count 68 = .ok (.ireturn, 1) := by decide +kernel
theorem dX6_count_69 : decode cX6_count 69 = .ok (.aload_n 0, 1) := by decide +kernel
theorem dX6_count_70 : decode cX6_count 70 = .ok (.getfield 150, 3) := by decide +kernel
theorem dX6_count_73 : decode cX6_count 73 = .ok (.ireturn, 1) := by decide +kernel
theorem dX6_count_74 : decode cX6_count 74 = .ok (.iload_n 1, 1) := by decide +kernel
theorem dX6_count_75 : decode cX6_count 75 = .ok (.bipush 6, 2) := by decide +kernel
theorem dX6_count_77 : decode cX6_count 77 = .ok (.bipush 10, 2) := by decide +kernel
theorem dX6_count_79 : decode cX6_count 79 = .ok (.invokestatic 66, 3) := by decide +kernel
theorem dX6_count_82 : decode cX6_count 82 = .ok (.ifCond .eq 14, 3) := by decide +kernel
theorem dX6_count_85 : decode cX6_count 85 = .ok (.aload_n 0, 1) := by decide +kernel
theorem dX6_count_86 : decode cX6_count 86 = .ok (.getfield 56, 3) := by decide +kernel
theorem dX6_count_89 : decode cX6_count 89 = .ok (.iload_n 1, 1) := by decide +kernel
theorem dX6_count_90 : decode cX6_count 90 = .ok (.iconst 5, 1) := by decide +kernel
theorem dX6_count_91 : decode cX6_count 91 = .ok (.isub, 1) := by decide +kernel
theorem dX6_count_92 : decode cX6_count 92 = .ok (.iaload, 1) := by decide +kernel
theorem dX6_count_93 : decode cX6_count 93 = .ok (.goto 5, 3) := by decide +kernel
theorem dX6_count_96 : decode cX6_count 96 = .ok (.bipush (-2), 2) := by decide +kernel
theorem dX6_count_98 : decode cX6_count 98 = .ok (.ireturn, 1) := by decide +kernel
theorem dX6_clear_0 : decode cX6_clear 0 = .ok (.aload_n 0, 1) := by decide +kernel
theorem dX6_clear_1 : decode cX6_clear 1 = .ok (.iconst 0, 1) := by decide +kernel
theorem dX6_clear_2 : decode cX6_clear 2 = .ok (.putfield 59, 3) := by decide +kernel
theorem dX6_clear_5 : decode cX6_clear 5 = .ok (.aload_n 0, 1) := by decide +kernel
theorem dX6_clear_6 : decode cX6_clear 6 = .ok (.getfield 63, 3) := by decide +kernel
theorem dX6_clear_9 : decode cX6_clear 9 = .ok (.istore_n 1, 1) := by decide +kernel
theorem dX6_clear_10 : decode cX6_clear 10 = .ok (.aload_n 0, 1) := by decide +kernel
theorem dX6_clear_11 : decode cX6_clear 11 = .ok (.iconst 0, 1) := by decide +kernel
theorem dX6_clear_12 : decode cX6_clear 12 = .ok (.putfield 63, 3) := by decide +kernel
theorem dX6_clear_15 : decode cX6_clear 15 = .ok (.aload_n 0, 1) := by decide +kernel
theorem dX6_clear_16 : decode cX6_clear 16 = .ok (.iconst 0, 1) := by decide +kernel
theorem dX6_clear_17 : decode cX6_clear 17 = .ok (.putfield 106, 3) := by decide +kernel
theorem dX6_clear_20 : decode cX6_clear 20 = .ok (.aload_n 0, 1) := by decide +kernel
theorem dX6_clear_21 : decode cX6_clear 21 = .ok (.iconst 0, 1) := by decide +kernel
theorem dX6_clear_22 : decode cX6_clear 22 = .ok (.putfield 109, 3) := by decide +kernel
theorem dX6_clear_25 : decode cX6_clear 25 = .ok (.aload_n 0, 1) := by decide +kernel
theorem dX6_clear_26 : decode cX6_clear 26 = .ok (.iconst 0, 1) := by decide +kernel
theorem dX6_clear_27 : decode cX6_clear 27 = .ok (.putfield 139, 3) := by decide +kernel
theorem dX6_clear_30 : decode cX6_clear 30 = .ok (.aload_n 0, 1) := by decide +kernel
theorem dX6_clear_31 : decode cX6_clear 31 = .ok (.iconst 0, 1) := by decide +kernel
theorem dX6_clear_32 : decode cX6_clear 32 = .ok (.putfield 147, 3) := by decide +kernel
theorem dX6_clear_35 : decode cX6_clear 35 = .ok (.aload_n 0, 1) := by decide +kernel
theorem dX6_clear_36 : decode cX6_clear 36 = .ok (.iconst 0, 1) := by decide +kernel
theorem dX6_clear_37 : decode cX6_clear 37 = .ok (.putfield 142, 3) := by decide +kernel
theorem dX6_clear_40 : decode cX6_clear 40 = .ok (.aload_n 0, 1) := by decide +kernel
theorem dX6_clear_41 : decode cX6_clear 41 = .ok (.iconst 0, 1) := by decide +kernel
theorem dX6_clear_42 : decode cX6_clear 42 = .ok (.putfield 150, 3) := by decide +kernel
theorem dX6_clear_45 : decode cX6_clear 45 = .ok (.iconst 0, 1) := by decide +kernel
theorem dX6_clear_46 : decode cX6_clear 46 = .ok (.istore_n 2, 1) := by decide +kernel
theorem dX6_clear_47 : decode cX6_clear 47 = .ok (.iload_n 2, 1) := by decide +kernel
theorem dX6_clear_48 : decode cX6_clear 48 = .ok (.bipush 6, 2) := by decide +kernel
theorem dX6_clear_50 : decode cX6_clear 50 = .ok (.if_icmp .ge 16, 3) := by decide +kernel
theorem dX6_clear_53 : decode cX6_clear 53 = .ok (.aload_n 0, 1) := by decide +kernel
theorem dX6_clear_54 : decode cX6_clear 54 = .ok (.getfield 56, 3) := by decide +kernel
theorem dX6_clear_57 : decode cX6_clear 57 = .ok (.iload_n 2, 1) := by decide +kernel
theorem dX6_clear_58 : decode cX6_clear 58 = .ok (.iconst 0, 1) := by decide +kernel
theorem dX6_clear_59 : decode cX6_clear 59 = .ok (.iastore, 1) := by decide +kernel
theorem dX6_clear_60 : decode cX6_clear 60 = .ok (.iinc 2 1, 3) := by decide +kernel
theorem dX6_clear_63 : decode cX6_clear 63 = .ok (.goto (-16), 3) := by decide +kernel
theorem dX6_clear_66 : decode cX6_clear 66 = .ok (.iload_n 1, 1) := by decide +kernel
theorem dX6_clear_67 : decode cX6_clear 67 = .ok (.ireturn, 1) := by decide +kernel
