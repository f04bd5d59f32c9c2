theorem dX10_init_0 : decode cX10_init 0 = .ok (.aload_n 0, 1) := by decide +kernel
theorem dX10_init_1 : decode cX10_init 1 = .ok (.invokespecial 1, 3) := by decide +kernel
theorem dX10_init_4 : decode cX10_init 4 = .ok (.aload_n 0, 1) := by decide +kernel
theorem dX10_init_5 : decode cX10_init 5 = .ok (.sipush 700, 3) := by decide +kernel
theorem dX10_init_8 : decode cX10_init 8 = .ok (.newarray .int, 2) := by decide +kernel
theorem dX10_init_10 : decode cX10_init 10 = .ok (.putfield 7, 3) := by decide +kernel
theorem dX10_init_13 : decode cX10_init 13 = .ok (.aload_n 0, 1) := by decide +kernel
theorem dX10_init_14 : decode cX10_init 14 = .ok (.bipush 97, 2) := by decide +kernel
theorem dX10_init_16 : decode cX10_init 16 = .ok (.newarray .int, 2) := by decide +kernel
theorem dX10_init_18 : decode cX10_init 18 = .ok (.dup, 1) := by decide +kernel
theorem dX10_init_19 : decode cX10_init 19 = .ok (.iconst 0, 1) := by decide +kernel
theorem dX10_init_20 : decode cX10_init 20 = .ok (.bipush 104, 2) := by decide +kernel
theorem dX10_init_22 : decode cX10_init 22 = .ok (.iastore, 1) := by decide +kernel
theorem dX10_init_23 : decode cX10_init 23 = .ok (.dup, 1) := by decide +kernel
theorem dX10_init_24 : decode cX10_init 24 = .ok (.iconst 1, 1) := by decide +kernel
theorem dX10_init_25 : decode cX10_init 25 = .ok (.bipush 111, 2) := by decide +kernel
theorem dX10_init_27 : decode cX10_init 27 = .ok (.iastore, 1) := by decide +kernel
theorem dX10_init_28 : decode cX10_init 28 = .ok (.dup, 1) := by decide +kernel
theorem dX10_init_29 : decode cX10_init 29 = .ok (.iconst 2, 1) := by decide +kernel
theorem dX10_init_30 : decode cX10_init 30 = .ok (.bipush 117, 2) := by decide +kernel
theorem dX10_init_32 : decode cX10_init 32 = .ok (.iastore, 1) := by decide +kernel
theorem dX10_init_33 : decode cX10_init 33 = .ok (.dup, 1) := by decide +kernel
theorem dX10_init_34 : decode cX10_init 34 = .ok (.iconst 3, 1) := by decide +kernel
theorem dX10_init_35 : decode cX10_init 35 = .ok (.bipush 115, 2) := by decide +kernel
theorem dX10_init_37 : decode cX10_init 37 = .ok (.iastore, 1) := by decide +kernel
theorem dX10_init_38 : decode cX10_init 38 = .ok (.dup, 1) := by decide +kernel
theorem dX10_init_39 : decode cX10_init 39 = .ok (.iconst 4, 1) := by decide +kernel
theorem dX10_init_40 : decode cX10_init 40 = .ok (.bipush 101, 2) := by decide +kernel
theorem dX10_init_42 : decode cX10_init 42 = .ok (.iastore, 1) := by decide +kernel
theorem dX10_init_43 : decode cX10_init 43 = .ok (.dup, 1) := by decide +kernel
theorem dX10_init_44 : decode cX10_init 44 = .ok (.iconst 5, 1) := by decide +kernel
theorem dX10_init_45 : decode cX10_init 45 = .ok (.bipush 32, 2) := by decide +kernel
theorem dX10_init_47 : decode cX10_init 47 = .ok (.iastore, 1) := by decide +kernel
theorem dX10_init_48 : decode cX10_init 48 = .ok (.dup, 1) := by decide +kernel
theorem dX10_init_49 : decode cX10_init 49 = .ok (.bipush 6, 2) := by decide +kernel
theorem dX10_init_51 : decode cX10_init 51 = .ok (.bipush 112, 2) := by decide +kernel
theorem dX10_init_53 : decode cX10_init 53 = .ok (.iastore, 1) := by decide +kernel
theorem dX10_init_54 : decode cX10_init 54 = .ok (.dup, 1) := by decide +kernel
theorem dX10_init_55 : decode cX10_init 55 = .ok (.bipush 7, 2) := by decide +kernel
theorem dX10_init_57 : decode cX10_init 57 = .ok (.bipush 97, 2) := by decide +kernel
theorem dX10_init_59 : decode cX10_init 59 = .ok (.iastore, 1) := by decide +kernel
theorem dX10_init_60 : decode cX10_init 60 = .ok (.dup, 1) := by decide +kernel
theorem dX10_init_61 : decode cX10_init 61 = .ok (.bipush 8, 2) := by decide +kernel
theorem dX10_init_63 : decode cX10_init 63 = .ok (.bipush 114, 2) := by decide +kernel
theorem dX10_init_65 : decode cX10_init 65 = .ok (.iastore, 1) := by decide +kernel
theorem dX10_init_66 : decode cX10_init 66 = .ok (.dup, 1) := by decide +kernel
theorem dX10_init_67 : decode cX10_init 67 = .ok (.bipush 9, 2) := by decide +kernel
theorem dX10_init_69 : decode cX10_init 69 = .ok (.bipush 116, 2) := by decide +kernel
theorem dX10_init_71 : decode cX10_init 71 = .ok (.iastore, 1) := by decide +kernel
theorem dX10_init_72 : decode cX10_init 72 = .ok (.dup, 1) := by decide +kernel
theorem dX10_init_73 : decode cX10_init 73 = .ok (.bipush 10, 2) := by decide +kernel
theorem dX10_init_75 : decode cX10_init 75 = .ok (.bipush 32, 2) := by decide +kernel
theorem dX10_init_77 : decode cX10_init 77 = .ok (.iastore, 1) := by decide +kernel
theorem dX10_init_78 : decode cX10_init 78 = .ok (.dup, 1) := by decide +kernel
theorem dX10_init_79 : decode cX10_init 79 = .ok (.bipush 11, 2) := by decide +kernel
theorem dX10_init_81 : decode cX10_init 81 = .ok (.bipush 99, 2) := by decide +kernel
theorem dX10_init_83 : decode cX10_init 83 = .ok (.iastore, 1) := by decide +kernel
theorem dX10_init_84 : decode cX10_init 84 = .ok (.dup, 1) := by decide +kernel
theorem dX10_init_85 : decode cX10_init 85 = .ok (.bipush 12, 2) := by decide +kernel
theorem dX10_init_87 : decode cX10_init 87 = .ok (.bipush 97, 2) := by decide +kernel
theorem dX10_init_89 : decode cX10_init 89 = .ok (.iastore, 1) := by decide +kernel
theorem dX10_init_90 : decode cX10_init 90 = .ok (.dup, 1) := by decide +kernel
theorem dX10_init_91 : decode cX10_init 91 = .ok (.bipush 13, 2) := by decide +kernel
theorem dX10_init_93 : decode cX10_init 93 = .ok (.bipush 108, 2) := by decide +kernel
theorem dX10_init_95 : decode cX10_init 95 = .ok (.iastore, 1) := by decide +kernel
theorem dX10_init_96 : decode cX10_init 96 = .ok (.dup, 1) := by decide +kernel
theorem dX10_init_97 : decode cX10_init 97 = .ok (.bipush 14, 2) := by decide +kernel
theorem dX10_init_99 : decode cX10_init 99 = .ok (.bipush 108, 2) := by decide +kernel
theorem dX10_init_101 : decode cX10_init 101 = .ok (.iastore, 1) := by decide +kernel
theorem dX10_init_102 : decode cX10_init 102 = .ok (.dup, 1) := by decide +kernel
theorem dX10_init_103 : decode cX10_init 103 = .ok (.bipush 15, 2) := by decide +kernel
theorem dX10_init_105 : decode cX10_init 105 = .ok (.bipush 115, 2) := by decide +kernel
theorem dX10_init_107 : decode cX10_init 107 = .ok (.iastore, 1) := by decide +kernel
theorem dX10_init_108 : decode cX10_init 108 = .ok (.dup, 1) := by decide +kernel
theorem dX10_init_109 : decode cX10_init 109 = .ok (.bipush 16, 2) := by decide +kernel
theorem dX10_init_111 : decode cX10_init 111 = .ok (.bipush 32, 2) := by decide +kernel
theorem dX10_init_113 : decode cX10_init 113 = .ok (.iastore, 1) := by decide +kernel
theorem dX10_init_114 : decode cX10_init 114 = .ok (.dup, 1) := by decide +kernel
theorem dX10_init_115 : decode cX10_init 115 = .ok (.bipush 17, 2) := by decide +kernel
theorem dX10_init_117 : decode cX10_init 117 = .ok (.bipush 111, 2) := by decide +kernel
theorem dX10_init_119 : decode cX10_init 119 = .ok (.iastore, 1) := by decide +kernel
theorem dX10_init_120 : decode cX10_init 120 = .ok (.dup, 1) := by decide +kernel
theorem dX10_init_121 : decode cX10_init 121 = .ok (.bipush 18, 2) := by decide +kernel
theorem dX10_init_123 : decode cX10_init 123 = .ok (.bipush 112, 2) := by decide +kernel
theorem dX10_init_125 : decode cX10_init 125 = .ok (.iastore, 1) := by decide +kernel
theorem dX10_init_126 : decode cX10_init 126 = .ok (.dup, 1) := by decide +kernel
theorem dX10_init_127 : decode cX10_init 127 = .ok (.bipush 19, 2) := by decide +kernel
theorem dX10_init_129 : decode cX10_init 129 = .ok (.bipush 101, 2) := by decide +kernel
theorem dX10_init_131 : decode cX10_init 131 = .ok (.iastore, 1) := by decide +kernel
theorem dX10_init_132 : decode cX10_init 132 = .ok (.dup, 1) := by decide +kernel
theorem dX10_init_133 : decode cX10_init 133 = .ok (.bipush 20, 2) := by decide +kernel
theorem dX10_init_135 : decode cX10_init 135 = .ok (.bipush 110, 2) := by decide +kernel
theorem dX10_init_137 : decode cX10_init 137 = .ok (.iastore, 1) := by decide +kernel
theorem dX10_init_138 : decode cX10_init 138 = .ok (.dup, 1) := by decide +kernel
theorem dX10_init_139 : decode cX10_init 139 = .ok (.bipush 21, 2) := by decide +kernel
theorem dX10_init_141 : decode cX10_init 141 = .ok (.bipush 32, 2) := by decide +kernel
theorem dX10_init_143 : decode cX10_init 143 = .ok (.iastore, 1) := by decide +kernel
theorem dX10_init_144 : decode cX10_init 144 = .ok (.dup, 1) := by decide +kernel
theorem dX10_init_145 : decode cX10_init 145 = .ok (.bipush 22, 2) := by decide +kernel
theorem dX10_init_147 : decode cX10_init 147 = .ok (.bipush 115, 2) := by decide +kernel
theorem dX10_init_149 : decode cX10_init 149 = .ok (.iastore, 1) := by decide +kernel
theorem dX10_init_150 : decode cX10_init 150 = .ok (.dup, 1) := by decide +kernel
theorem dX10_init_151 : decode cX10_init 151 = .ok (.bipush 23, 2) := by decide +kernel
theorem dX10_init_153 : decode cX10_init 153 = .ok (.bipush 101, 2) := by decide +kernel
theorem dX10_init_155 : decode cX10_init 155 = .ok (.iastore, 1) := by decide +kernel
theorem dX10_init_156 : decode cX10_init 156 = .ok (.dup, 1) := by decide +kernel
theorem dX10_init_157 : decode cX10_init 157 = .ok (.bipush 24, 2) := by decide +kernel
theorem dX10_init_159 : decode cX10_init 159 = .ok (.bipush 101, 2) := by decide +kernel
theorem dX10_init_161 : decode cX10_init 161 = .ok (.iastore, 1) := by decide +kernel
theorem dX10_init_162 : decode cX10_init 162 = .ok (.dup, 1) := by decide +kernel
theorem dX10_init_163 : decode cX10_init 163 = .ok (.bipush 25, 2) := by decide +kernel
theorem dX10_init_165 : decode cX10_init 165 = .ok (.bipush 100, 2) := by decide +kernel
theorem dX10_init_167 : decode cX10_init 167 = .ok (.iastore, 1) := by decide +kernel
theorem dX10_init_168 : decode cX10_init 168 = .ok (.dup, 1) := by decide +kernel
theorem dX10_init_169 : decode cX10_init 169 = .ok (.bipush 26, 2) := by decide +kernel
theorem dX10_init_171 : decode cX10_init 171 = .ok (.bipush 32, 2) := by decide +kernel
theorem dX10_init_173 : decode cX10_init 173 = .ok (.iastore, 1) := by decide +kernel
theorem dX10_init_174 : decode cX10_init 174 = .ok (.dup, 1) := by decide +kernel
theorem dX10_init_175 : decode cX10_init 175 = .ok (.bipush 27, 2) := by decide +kernel
theorem dX10_init_177 : decode cX10_init 177 = .ok (.bipush 108, 2) := by decide +kernel
theorem dX10_init_179 : decode cX10_init 179 = .ok (.iastore, 1) := by decide +kernel
theorem dX10_init_180 : decode cX10_init 180 = .ok (.dup, 1) := by decide +kernel
theorem dX10_init_181 : decode cX10_init 181 = .ok (.bipush 28, 2) := by decide +kernel
theorem dX10_init_183 : decode cX10_init 183 = .ok (.bipush 97, 2) := by decide +kernel
theorem dX10_init_185 : decode cX10_init 185 = .ok (.iastore, 1) := by decide +kernel
theorem dX10_init_186 : decode cX10_init 186 = .ok (.dup, 1) := by decide +kernel
theorem dX10_init_187 : decode cX10_init 187 = .ok (.bipush 29, 2) := by decide +kernel
theorem dX10_init_189 : decode cX10_init 189 = .ok (.bipush 119, 2) := by decide +kernel
theorem dX10_init_191 : decode cX10_init 191 = .ok (.iastore, 1) := by decide +kernel
theorem dX10_init_192 : decode cX10_init 192 = .ok (.dup, 1) := by decide +kernel
theorem dX10_init_193 : decode cX10_init 193 = .ok (.bipush 30, 2) := by decide +kernel
theorem dX10_init_195 : decode cX10_init 195 = .ok (.bipush 32, 2) := by decide +kernel
theorem dX10_init_197 : decode cX10_init 197 = .ok (.iastore, 1) := by decide +kernel
theorem dX10_init_198 : decode cX10_init 198 = .ok (.dup, 1) := by decide +kernel
theorem dX10_init_199 : decode cX10_init 199 = .ok (.bipush 31, 2) := by decide +kernel
theorem dX10_init_201 : decode cX10_init 201 = .ok (.bipush 100, 2) := by decide +kernel
theorem dX10_init_203 : decode cX10_init 203 = .ok (.iastore, 1) := by decide +kernel
theorem dX10_init_204 : decode cX10_init 204 = .ok (.dup, 1) := by decide +kernel
theorem dX10_init_205 : decode cX10_init 205 = .ok (.bipush 32, 2) := by decide +kernel
theorem dX10_init_207 : decode cX10_init 207 = .ok (.bipush 101, 2) := by decide +kernel
theorem dX10_init_209 : decode cX10_init 209 = .ok (.iastore, 1) := by decide +kernel
theorem dX10_init_210 : decode cX10_init 210 = .ok (.dup, 1) := by decide +kernel
theorem dX10_init_211 : decode cX10_init 211 = .ok (.bipush 33, 2) := by decide +kernel
theorem dX10_init_213 : decode cX10_init 213 = .ok (.bipush 97, 2) := by decide +kernel
theorem dX10_init_215 : decode cX10_init 215 = .ok (.iastore, 1) := by decide +kernel
theorem dX10_init_216 : decode cX10_init 216 = .ok (.dup, 1) := by decide +kernel
theorem dX10_init_217 : decode cX10_init 217 = .ok (.bipush 34, 2) := by decide +kernel
theorem dX10_init_219 : decode cX10_init 219 = .ok (.bipush 116, 2) := by decide +kernel
theorem dX10_init_221 : decode cX10_init 221 = .ok (.iastore, 1) := by decide +kernel
theorem dX10_init_222 : decode cX10_init 222 = .ok (.dup, 1) := by decide +kernel
theorem dX10_init_223 : decode cX10_init 223 = .ok (.bipush 35, 2) := by decide +kernel
theorem dX10_init_225 : decode cX10_init 225 = .ok (.bipush 104, 2) := by decide +kernel
theorem dX10_init_227 : decode cX10_init 227 = .ok (.iastore, 1) := by decide +kernel
theorem dX10_init_228 : decode cX10_init 228 = .ok (.dup, 1) := by decide +kernel
theorem dX10_init_229 : decode cX10_init 229 = .ok (.bipush 36, 2) := by decide +kernel
theorem dX10_init_231 : decode cX10_init 231 = .ok (.bipush 32, 2) := by decide +kernel
theorem dX10_init_233 : decode cX10_init 233 = .ok (.iastore, 1) := by decide +kernel
theorem dX10_init_234 : decode cX10_init 234 = .ok (.dup, 1) := by decide +kernel
theorem dX10_init_235 : decode cX10_init 235 = .ok (.bipush 37, 2) := by decide +kernel
theorem dX10_init_237 : decode cX10_init 237 = .ok (.bipush 119, 2) := by decide +kernel
theorem dX10_init_239 : decode cX10_init 239 = .ok (.iastore, 1) := by decide +kernel
theorem dX10_init_240 : decode cX10_init 240 = .ok (.dup, 1) := by decide +kernel
theorem dX10_init_241 : decode cX10_init 241 = .ok (.bipush 38, 2) := by decide +kernel
theorem dX10_init_243 : decode cX10_init 243 = .ok (.bipush 105, 2) := by decide +kernel
theorem dX10_init_245 : decode cX10_init 245 = .ok (.iastore, 1) := by decide +kernel
theorem dX10_init_246 : decode cX10_init 246 = .ok (.dup, 1) := by decide +kernel
theorem dX10_init_247 : decode cX10_init 247 = .ok (.bipush 39, 2) := by decide +kernel
theorem dX10_init_249 : decode cX10_init 249 = .ok (.bipush 108, 2) := by decide +kernel
theorem dX10_init_251 : decode cX10_init 251 = .ok (.iastore, 1) := by decide +kernel
theorem dX10_init_252 : decode cX10_init 252 = .ok (.dup, 1) := by decide +kernel
theorem dX10_init_253 : decode cX10_init 253 = .ok (.bipush 40, 2) := by decide +kernel
theorem dX10_init_255 : decode cX10_init 255 = .ok (.bipush 108, 2) := by decide +kernel
theorem dX10_init_257 : decode cX10_init 257 = .ok (.iastore, 1) := by decide +kernel
theorem dX10_init_258 : decode cX10_init 258 = .ok (.dup, 1) := by decide +kernel
theorem dX10_init_259 : decode cX10_init 259 = .ok (.bipush 41, 2) := by decide +kernel
theorem dX10_init_261 : decode cX10_init 261 = .ok (.bipush 32, 2) := by decide +kernel
theorem dX10_init_263 : decode cX10_init 263 = .ok (.iastore, 1) := by decide +kernel
theorem dX10_init_264 : decode cX10_init 264 = .ok (.dup, 1) := by decide +kernel
theorem dX10_init_265 : decode cX10_init 265 = .ok (.bipush 42, 2) := by decide +kernel
theorem dX10_init_267 : decode cX10_init 267 = .ok (.bipush 114, 2) := by decide +kernel
theorem dX10_init_269 : decode cX10_init 269 = .ok (.iastore, 1) := by decide +kernel
theorem dX10_init_270 : decode cX10_init 270 = .ok (.dup, 1) := by decide +kernel
theorem dX10_init_271 : decode cX10_init 271 = .ok (.bipush 43, 2) := by decide +kernel
theorem dX10_init_273 : decode cX10_init 273 = .ok (.bipush 97, 2) := by decide +kernel
theorem dX10_init_275 : decode cX10_init 275 = .ok (.iastore, 1) := by decide +kernel
theorem dX10_init_276 : decode cX10_init 276 = .ok (.dup, 1) := by decide +kernel
theorem dX10_init_277 : decode cX10_init 277 = .ok (.bipush 44, 2) := by decide +kernel
theorem dX10_init_279 : decode cX10_init 279 = .ok (.bipush 105, 2) := by decide +kernel
theorem dX10_init_281 : decode cX10_init 281 = .ok (.iastore, 1) := by decide +kernel
theorem dX10_init_282 : decode cX10_init 282 = .ok (.dup, 1) := by decide +kernel
theorem dX10_init_283 : decode cX10_init 283 = .ok (.bipush 45, 2) := by decide +kernel
theorem dX10_init_285 : decode cX10_init 285 = .ok (.bipush 115, 2) := by decide +kernel
theorem dX10_init_287 : decode cX10_init 287 = .ok (.iastore, 1) := by decide +kernel
theorem dX10_init_288 : decode cX10_init 288 = .ok (.dup, 1) := by decide +kernel
theorem dX10_init_289 : decode cX10_init 289 = .ok (.bipush 46, 2) := by decide +kernel
theorem dX10_init_291 : decode cX10_init 291 = .ok (.bipush 101, 2) := by decide +kernel
theorem dX10_init_293 : decode cX10_init 293 = .ok (.iastore, 1) := by decide +kernel
theorem dX10_init_294 : decode cX10_init 294 = .ok (.dup, 1) := by decide +kernel
theorem dX10_init_295 : decode cX10_init 295 = .ok (.bipush 47, 2) := by decide +kernel
theorem dX10_init_297 : decode cX10_init 297 = .ok (.bipush 32, 2) := by decide +kernel
theorem dX10_init_299 : decode cX10_init 299 = .ok (.iastore, 1) := by decide +kernel
theorem dX10_init_300 : decode cX10_init 300 = .ok (.dup, 1) := by decide +kernel
theorem dX10_init_301 : decode cX10_init 301 = .ok (.bipush 48, 2) := by decide +kernel
theorem dX10_init_303 : decode cX10_init 303 = .ok (.bipush 97, 2) := by decide +kernel
theorem dX10_init_305 : decode cX10_init 305 = .ok (.iastore, 1) := by decide +kernel
theorem dX10_init_306 : decode cX10_init 306 = .ok (.dup, 1) := by decide +kernel
theorem dX10_init_307 : decode cX10_init 307 = .ok (.bipush 49, 2) := by decide +kernel
theorem dX10_init_309 : decode cX10_init 309 = .ok (.bipush 110, 2) := by decide +kernel
theorem dX10_init_311 : decode cX10_init 311 = .ok (.iastore, 1) := by decide +kernel
theorem dX10_init_312 : decode cX10_init 312 = .ok (.dup, 1) := by decide +kernel
theorem dX10_init_313 : decode cX10_init 313 = .ok (.bipush 50, 2) := by decide +kernel
theorem dX10_init_315 : decode cX10_init 315 = .ok (.bipush 100, 2) := by decide +kernel
theorem dX10_init_317 : decode cX10_init 317 = .ok (.iastore, 1) := by decide +kernel
theorem dX10_init_318 : decode cX10_init 318 = .ok (.dup, 1) := by decide +kernel
theorem dX10_init_319 : decode cX10_init 319 = .ok (.bipush 51, 2) := by decide +kernel
theorem dX10_init_321 : decode cX10_init 321 = .ok (.bipush 32, 2) := by decide +kernel
theorem dX10_init_323 : decode cX10_init 323 = .ok (.iastore, 1) := by decide +kernel
theorem dX10_init_324 : decode cX10_init 324 = .ok (.dup, 1) := by decide +kernel
theorem dX10_init_325 : decode cX10_init 325 = .ok (.bipush 52, 2) := by decide +kernel
theorem dX10_init_327 : decode cX10_init 327 = .ok (.bipush 111, 2) := by decide +kernel
theorem dX10_init_329 : decode cX10_init 329 = .ok (.iastore, 1) := by decide +kernel
theorem dX10_init_330 : decode cX10_init 330 = .ok (.dup, 1) := by decide +kernel
theorem dX10_init_331 : decode cX10_init 331 = .ok (.bipush 53, 2) := by decide +kernel
theorem dX10_init_333 : decode cX10_init 333 = .ok (.bipush 114, 2) := by decide +kernel
theorem dX10_init_335 : decode cX10_init 335 = .ok (.iastore, 1) := by decide +kernel
theorem dX10_init_336 : decode cX10_init 336 = .ok (.dup, 1) := by decide +kernel
theorem dX10_init_337 : decode cX10_init 337 = .ok (.bipush 54, 2) := by decide +kernel
theorem dX10_init_339 : decode cX10_init 339 = .ok (.bipush 32, 2) := by decide +kernel
theorem dX10_init_341 : decode cX10_init 341 = .ok (.iastore, 1) := by decide +kernel
theorem dX10_init_342 : decode cX10_init 342 = .ok (.dup, 1) := by decide +kernel
theorem dX10_init_343 : decode cX10_init 343 = .ok (.bipush 55, 2) := by decide +kernel
theorem dX10_init_345 : decode cX10_init 345 = .ok (.bipush 110, 2) := by decide +kernel
theorem dX10_init_347 : decode cX10_init 347 = .ok (.iastore, 1) := by decide +kernel
theorem dX10_init_348 : decode cX10_init 348 = .ok (.dup, 1) := by decide +kernel
theorem dX10_init_349 : decode cX10_init 349 = .ok (.bipush 56, 2) := by decide +kernel
theorem dX10_init_351 : decode cX10_init 351 = .ok (.bipush 111, 2) := by decide +kernel
theorem dX10_init_353 : decode cX10_init 353 = .ok (.iastore, 1) := by decide +kernel
theorem dX10_init_354 : decode cX10_init 354 = .ok (.dup, 1) := by decide +kernel
theorem dX10_init_355 : decode cX10_init 355 = .ok (.bipush 57, 2) := by decide +kernel
theorem dX10_init_357 : decode cX10_init 357 = .ok (.bipush 116, 2) := by decide +kernel
theorem dX10_init_359 : decode cX10_init 359 = .ok (.iastore, 1) := by decide +kernel
theorem dX10_init_360 : decode cX10_init 360 = .ok (.dup, 1) := by decide +kernel
theorem dX10_init_361 : decode cX10_init 361 = .ok (.bipush 58, 2) := by decide +kernel
theorem dX10_init_363 : decode cX10_init 363 = .ok (.bipush 32, 2) := by decide +kernel
theorem dX10_init_365 : decode cX10_init 365 = .ok (.iastore, 1) := by decide +kernel
theorem dX10_init_366 : decode cX10_init 366 = .ok (.dup, 1) := by decide +kernel
theorem dX10_init_367 : decode cX10_init 367 = .ok (.bipush 59, 2) := by decide +kernel
theorem dX10_init_369 : decode cX10_init 369 = .ok (.bipush 98, 2) := by decide +kernel
theorem dX10_init_371 : decode cX10_init 371 = .ok (.iastore, 1) := by decide +kernel
theorem dX10_init_372 : decode cX10_init 372 = .ok (.dup, 1) := by decide +kernel
theorem dX10_init_373 : decode cX10_init 373 = .ok (.bipush 60, 2) := by decide +kernel
theorem dX10_init_375 : decode cX10_init 375 = .ok (.bipush 105, 2) := by decide +kernel
theorem dX10_init_377 : decode cX10_init 377 = .ok (.iastore, 1) := by decide +kernel
theorem dX10_init_378 : decode cX10_init 378 = .ok (.dup, 1) := by decide +kernel
theorem dX10_init_379 : decode cX10_init 379 = .ok (.bipush 61, 2) := by decide +kernel
theorem dX10_init_381 : decode cX10_init 381 = .ok (.bipush 100, 2) := by decide +kernel
theorem dX10_init_383 : decode cX10_init 383 = .ok (.iastore, 1) := by decide +kernel
theorem dX10_init_384 : decode cX10_init 384 = .ok (.dup, 1) := by decide +kernel
theorem dX10_init_385 : decode cX10_init 385 = .ok (.bipush 62, 2) := by decide +kernel
theorem dX10_init_387 : decode cX10_init 387 = .ok (.bipush 32, 2) := by decide +kernel
theorem dX10_init_389 : decode cX10_init 389 = .ok (.iastore, 1) := by decide +kernel
theorem dX10_init_390 : decode cX10_init 390 = .ok (.dup, 1) := by decide +kernel
theorem dX10_init_391 : decode cX10_init 391 = .ok (.bipush 63, 2) := by decide +kernel
theorem dX10_init_393 : decode cX10_init 393 = .ok (.bipush 98, 2) := by decide +kernel
theorem dX10_init_395 : decode cX10_init 395 = .ok (.iastore, 1) := by decide +kernel
theorem dX10_init_396 : decode cX10_init 396 = .ok (.dup, 1) := by decide +kernel
theorem dX10_init_397 : decode cX10_init 397 = .ok (.bipush 64, 2) := by decide +kernel
theorem dX10_init_399 : decode cX10_init 399 = .ok (.bipush 111, 2) := by decide +kernel
theorem dX10_init_401 : decode cX10_init 401 = .ok (.iastore, 1) := by decide +kernel
theorem dX10_init_402 : decode cX10_init 402 = .ok (.dup, 1) := by decide +kernel
theorem dX10_init_403 : decode cX10_init 403 = .ok (.bipush 65, 2) := by decide +kernel
theorem dX10_init_405 : decode cX10_init 405 = .ok (.bipush 117, 2) := by decide +kernel
theorem dX10_init_407 : decode cX10_init 407 = .ok (.iastore, 1) := by decide +kernel
theorem dX10_init_408 : decode cX10_init 408 = .ok (.dup, 1) := by decide +kernel
theorem dX10_init_409 : decode cX10_init 409 = .ok (.bipush 66, 2) := by decide +kernel
theorem dX10_init_411 : decode cX10_init 411 = .ok (.bipush 110, 2) := by decide +kernel
theorem dX10_init_413 : decode cX10_init 413 = .ok (.iastore, 1) := by decide +kernel
theorem dX10_init_414 : decode cX10_init 414 = .ok (.dup, 1) := by decide +kernel
theorem dX10_init_415 : decode cX10_init 415 = .ok (.bipush 67, 2) := by decide +kernel
theorem dX10_init_417 : decode cX10_init 417 = .ok (.bipush 100, 2) := by decide +kernel
theorem dX10_init_419 : decode cX10_init 419 = .ok (.iastore, 1) := by decide +kernel
theorem dX10_init_420 : decode cX10_init 420 = .ok (.dup, 1) := by decide +kernel
theorem dX10_init_421 : decode cX10_init 421 = .ok (.bipush 68, 2) := by decide +kernel
theorem dX10_init_423 : decode cX10_init 423 = .ok (.bipush 32, 2) := by decide +kernel
theorem dX10_init_425 : decode cX10_init 425 = .ok (.iastore, 1) := by decide +kernel
theorem dX10_init_426 : decode cX10_init 426 = .ok (.dup, 1) := by decide +kernel
theorem dX10_init_427 : decode cX10_init 427 = .ok (.bipush 69, 2) := by decide +kernel
theorem dX10_init_429 : decode cX10_init 429 = .ok (.bipush 119, 2) := by decide +kernel
theorem dX10_init_431 : decode cX10_init 431 = .ok (.iastore, 1) := by decide +kernel
theorem dX10_init_432 : decode cX10_init 432 = .ok (.dup, 1) := by decide +kernel
theorem dX10_init_433 : decode cX10_init 433 = .ok (.bipush 70, 2) := by decide +kernel
theorem dX10_init_435 : decode cX10_init 435 = .ok (.bipush 111, 2) := by decide +kernel
theorem dX10_init_437 : decode cX10_init 437 = .ok (.iastore, 1) := by decide +kernel
theorem dX10_init_438 : decode cX10_init 438 = .ok (.dup, 1) := by decide +kernel
theorem dX10_init_439 : decode cX10_init 439 = .ok (.bipush 71, 2) := by decide +kernel
theorem dX10_init_441 : decode cX10_init 441 = .ok (.bipush 114, 2) := by decide +kernel
theorem dX10_init_443 : decode cX10_init 443 = .ok (.iastore, 1) := by decide +kernel
theorem dX10_init_444 : decode cX10_init 444 = .ok (.dup, 1) := by decide +kernel
theorem dX10_init_445 : decode cX10_init 445 = .ok (.bipush 72, 2) := by decide +kernel
theorem dX10_init_447 : decode cX10_init 447 = .ok (.bipush 116, 2) := by decide +kernel
theorem dX10_init_449 : decode cX10_init 449 = .ok (.iastore, 1) := by decide +kernel
theorem dX10_init_450 : decode cX10_init 450 = .ok (.dup, 1) := by decide +kernel
theorem dX10_init_451 : decode cX10_init 451 = .ok (.bipush 73, 2) := by decide +kernel
theorem dX10_init_453 : decode cX10_init 453 = .ok (.bipush 104, 2) := by decide +kernel
theorem dX10_init_455 : decode cX10_init 455 = .ok (.iastore, 1) := by decide +kernel
theorem dX10_init_456 : decode cX10_init 456 = .ok (.dup, 1) := by decide +kernel
theorem dX10_init_457 : decode cX10_init 457 = .ok (.bipush 74, 2) := by decide +kernel
theorem dX10_init_459 : decode cX10_init 459 = .ok (.bipush 32, 2) := by decide +kernel
theorem dX10_init_461 : decode cX10_init 461 = .ok (.iastore, 1) := by decide +kernel
theorem dX10_init_462 : decode cX10_init 462 = .ok (.dup, 1) := by decide +kernel
theorem dX10_init_463 : decode cX10_init 463 = .ok (.bipush 75, 2) := by decide +kernel
theorem dX10_init_465 : decode cX10_init 465 = .ok (.bipush 97, 2) := by decide +kernel
theorem dX10_init_467 : decode cX10_init 467 = .ok (.iastore, 1) := by decide +kernel
theorem dX10_init_468 : decode cX10_init 468 = .ok (.dup, 1) := by decide +kernel
theorem dX10_init_469 : decode cX10_init 469 = .ok (.bipush 76, 2) := by decide +kernel
theorem dX10_init_471 : decode cX10_init 471 = .ok (.bipush 103, 2) := by decide +kernel
theorem dX10_init_473 : decode cX10_init 473 = .ok (.iastore, 1) := by decide +kernel
theorem dX10_init_474 : decode cX10_init 474 = .ok (.dup, 1) := by decide +kernel
theorem dX10_init_475 : decode cX10_init 475 = .ok (.bipush 77, 2) := by decide +kernel
theorem dX10_init_477 : decode cX10_init 477 = .ok (.bipush 101, 2) := by decide +kernel
theorem dX10_init_479 : decode cX10_init 479 = .ok (.iastore, 1) := by decide +kernel
theorem dX10_init_480 : decode cX10_init 480 = .ok (.dup, 1) := by decide +kernel
theorem dX10_init_481 : decode cX10_init 481 = .ok (.bipush 78, 2) := by decide +kernel
theorem dX10_init_483 : decode cX10_init 483 = .ok (.bipush 32, 2) := by decide +kernel
theorem dX10_init_485 : decode cX10_init 485 = .ok (.iastore, 1) := by decide +kernel
theorem dX10_init_486 : decode cX10_init 486 = .ok (.dup, 1) := by decide +kernel
theorem dX10_init_487 : decode cX10_init 487 = .ok (.bipush 79, 2) := by decide +kernel
theorem dX10_init_489 : decode cX10_init 489 = .ok (.bipush 104, 2) := by decide +kernel
theorem dX10_init_491 : decode cX10_init 491 = .ok (.iastore, 1) := by decide +kernel
theorem dX10_init_492 : decode cX10_init 492 = .ok (.dup, 1) := by decide +kernel
theorem dX10_init_493 : decode cX10_init 493 = .ok (.bipush 80, 2) := by decide +kernel
theorem dX10_init_495 : decode cX10_init 495 = .ok (.bipush 101, 2) := by decide +kernel
theorem dX10_init_497 : decode cX10_init 497 = .ok (.iastore, 1) := by decide +kernel
theorem dX10_init_498 : decode cX10_init 498 = .ok (.dup, 1) := by decide +kernel
theorem dX10_init_499 : decode cX10_init 499 = .ok (.bipush 81, 2) := by decide +kernel
theorem dX10_init_501 : decode cX10_init 501 = .ok (.bipush 105, 2) := by decide +kernel
theorem dX10_init_503 : decode cX10_init 503 = .ok (.iastore, 1) := by decide +kernel
theorem dX10_init_504 : decode cX10_init 504 = .ok (.dup, 1) := by decide +kernel
theorem dX10_init_505 : decode cX10_init 505 = .ok (.bipush 82, 2) := by decide +kernel
theorem dX10_init_507 : decode cX10_init 507 = .ok (.bipush 114, 2) := by decide +kernel
theorem dX10_init_509 : decode cX10_init 509 = .ok (.iastore, 1) := by decide +kernel
theorem dX10_init_510 : decode cX10_init 510 = .ok (.dup, 1) := by decide +kernel
theorem dX10_init_511 : decode cX10_init 511 = .ok (.bipush 83, 2) := by decide +kernel
theorem dX10_init_513 : decode cX10_init 513 = .ok (.bipush 115, 2) := by decide +kernel
theorem dX10_init_515 : decode cX10_init 515 = .ok (.iastore, 1) := by decide +kernel
theorem dX10_init_516 : decode cX10_init 516 = .ok (.dup, 1) := by decide +kernel
theorem dX10_init_517 : decode cX10_init 517 = .ok (.bipush 84, 2) := by decide +kernel
theorem dX10_init_519 : decode cX10_init 519 = .ok (.bipush 32, 2) := by decide +kernel
theorem dX10_init_521 : decode cX10_init 521 = .ok (.iastore, 1) := by decide +kernel
theorem dX10_init_522 : decode cX10_init 522 = .ok (.dup, 1) := by decide +kernel
theorem dX10_init_523 : decode cX10_init 523 = .ok (.bipush 85, 2) := by decide +kernel
theorem dX10_init_525 : decode cX10_init 525 = .ok (.bipush 99, 2) := by decide +kernel
theorem dX10_init_527 : decode cX10_init 527 = .ok (.iastore, 1) := by decide +kernel
theorem dX10_init_528 : decode cX10_init 528 = .ok (.dup, 1) := by decide +kernel
theorem dX10_init_529 : decode cX10_init 529 = .ok (.bipush 86, 2) := by decide +kernel
theorem dX10_init_531 : decode cX10_init 531 = .ok (.bipush 97, 2) := by decide +kernel
theorem dX10_init_533 : decode cX10_init 533 = .ok (.iastore, 1) := by decide +kernel
theorem dX10_init_534 : decode cX10_init 534 = .ok (.dup, 1) := by decide +kernel
theorem dX10_init_535 : decode cX10_init 535 = .ok (.bipush 87, 2) := by decide +kernel
theorem dX10_init_537 : decode cX10_init 537 = .ok (.bipush 108, 2) := by decide +kernel
theorem dX10_init_539 : decode cX10_init 539 = .ok (.iastore, 1) := by decide +kernel
theorem dX10_init_540 : decode cX10_init 540 = .ok (.dup, 1) := by decide +kernel
theorem dX10_init_541 : decode cX10_init 541 = .ok (.bipush 88, 2) := by decide +kernel
theorem dX10_init_543 : decode cX10_init 543 = .ok (.bipush 108, 2) := by decide +kernel
theorem dX10_init_545 : decode cX10_init 545 = .ok (.iastore, 1) := by decide +kernel
theorem dX10_init_546 : decode cX10_init 546 = .ok (.dup, 1) := by decide +kernel
theorem dX10_init_547 : decode cX10_init 547 = .ok (.bipush 89, 2) := by decide +kernel
theorem dX10_init_549 : decode cX10_init 549 = .ok (.bipush 101, 2) := by decide +kernel
theorem dX10_init_551 : decode cX10_init 551 = .ok (.iastore, 1) := by decide +kernel
theorem dX10_init_552 : decode cX10_init 552 = .ok (.dup, 1) := by decide +kernel
theorem dX10_init_553 : decode cX10_init 553 = .ok (.bipush 90, 2) := by decide +kernel
theorem dX10_init_555 : decode cX10_init 555 = .ok (.bipush 100, 2) := by decide +kernel
theorem dX10_init_557 : decode cX10_init 557 = .ok (.iastore, 1) := by decide +kernel
theorem dX10_init_558 : decode cX10_init 558 = .ok (.dup, 1) := by decide +kernel
theorem dX10_init_559 : decode cX10_init 559 = .ok (.bipush 91, 2) := by decide +kernel
theorem dX10_init_561 : decode cX10_init 561 = .ok (.bipush 32, 2) := by decide +kernel
theorem dX10_init_563 : decode cX10_init 563 = .ok (.iastore, 1) := by decide +kernel
theorem dX10_init_564 : decode cX10_init 564 = .ok (.dup, 1) := by decide +kernel
theorem dX10_init_565 : decode cX10_init 565 = .ok (.bipush 92, 2) := by decide +kernel
theorem dX10_init_567 : decode cX10_init 567 = .ok (.bipush 121, 2) := by decide +kernel
theorem dX10_init_569 : decode cX10_init 569 = .ok (.iastore, 1) := by decide +kernel
theorem dX10_init_570 : decode cX10_init 570 = .ok (.dup, 1) := by decide +kernel
theorem dX10_init_571 : decode cX10_init 571 = .ok (.bipush 93, 2) := by decide +kernel
theorem dX10_init_573 : decode cX10_init 573 = .ok (.bipush 101, 2) := by decide +kernel
theorem dX10_init_575 : decode cX10_init 575 = .ok (.iastore, 1) := by decide +kernel
theorem dX10_init_576 : decode cX10_init 576 = .ok (.dup, 1) := by decide +kernel
theorem dX10_init_577 : decode cX10_init 577 = .ok (.bipush 94, 2) := by decide +kernel
theorem dX10_init_579 : decode cX10_init 579 = .ok (.bipush 97, 2) := by decide +kernel
theorem dX10_init_581 : decode cX10_init 581 = .ok (.iastore, 1) := by decide +kernel
theorem dX10_init_582 : decode cX10_init 582 = .ok (.dup, 1) := by decide +kernel
theorem dX10_init_583 : decode cX10_init 583 = .ok (.bipush 95, 2) := by decide +kernel
theorem dX10_init_585 : decode cX10_init 585 = .ok (.bipush 114, 2) := by decide +kernel
theorem dX10_init_587 : decode cX10_init 587 = .ok (.iastore, 1) := by decide +kernel
theorem dX10_init_588 : decode cX10_init 588 = .ok (.dup, 1) := by decide +kernel
theorem dX10_init_589 : decode cX10_init 589 = .ok (.bipush 96, 2) := by decide +kernel
theorem dX10_init_591 : decode cX10_init 591 = .ok (.bipush 32, 2) := by decide +kernel
theorem dX10_init_593 : decode cX10_init 593 = .ok (.iastore, 1) := by decide +kernel
theorem dX10_init_594 : decode cX10_init 594 = .ok (.putfield 13, 3) := by decide +kernel
theorem dX10_init_597 : decode cX10_init 597 = .ok (.aload_n 0, 1) := by decide +kernel
theorem dX10_init_598 : decode cX10_init 598 = .ok (.iconst (-1), 1) := by decide +kernel
theorem dX10_init_599 : decode cX10_init 599 = .ok (.putfield 16, 3) := by decide +kernel
theorem dX10_init_602 : decode cX10_init 602 = .ok (.aload_n 0, 1) := by decide +kernel
theorem dX10_init_603 : decode cX10_init 603 = .ok (.iconst 3, 1) := by decide +kernel
theorem dX10_init_604 : decode cX10_init 604 = .ok (.newarray .boolean, 2) := by decide +kernel
theorem dX10_init_606 : decode cX10_init 606 = .ok (.putfield 20, 3) := by decide +kernel
theorem dX10_init_609 : decode cX10_init 609 = .ok (.aload_n 0, 1) := by decide +kernel
theorem dX10_init_610 : decode cX10_init 610 = .ok (.bipush 6, 2) := by decide +kernel
theorem dX10_init_612 : decode cX10_init 612 = .ok (.newarray .int, 2) := by decide +kernel
theorem dX10_init_614 : decode cX10_init 614 = .ok (.putfield 24, 3) := by decide +kernel
theorem dX10_init_617 : decode cX10_init 617 = .ok (.aload_n 0, 1) := by decide +kernel
theorem dX10_init_618 : decode cX10_init 618 = .ok (.bipush 12, 2) := by decide +kernel
theorem dX10_init_620 : decode cX10_init 620 = .ok (.newarray .int, 2) := by decide +kernel
theorem dX10_init_622 : decode cX10_init 622 = .ok (.putfield 27, 3) := by decide +kernel
theorem dX10_init_625 : decode cX10_init 625 = .ok (.aload_n 0, 1) := by decide +kernel
theorem dX10_init_626 : decode cX10_init 626 = .ok (.bipush 12, 2) := by decide +kernel
theorem dX10_init_628 : decode cX10_init 628 = .ok (.newarray .int, 2) := by decide +kernel
theorem dX10_init_630 : decode cX10_init 630 = .ok (.putfield 30, 3) := by decide +kernel
theorem dX10_init_633 : decode cX10_init 633 = .ok (.aload_n 0, 1) := by decide +kernel
theorem dX10_init_634 : decode cX10_init 634 = .ok (.bipush 12, 2) := by decide +kernel
theorem dX10_init_636 : decode cX10_init 636 = .ok (.newarray .int, 2) := by decide +kernel
theorem dX10_init_638 : decode cX10_init 638 = .ok (.putfield 33, 3) := by decide +kernel
theorem dX10_init_641 : decode cX10_init 641 = .ok (.aload_n 0, 1) := by decide +kernel
theorem dX10_init_642 : decode cX10_init 642 = .ok (.bipush 12, 2) := by decide +kernel
theorem dX10_init_644 : decode cX10_init 644 = .ok (.newarray .int, 2) := by decide +kernel
theorem dX10_init_646 : decode cX10_init 646 = .ok (.putfield 36, 3) := by decide +kernel
theorem dX10_init_649 : decode cX10_init 649 = .ok (.aload_n 0, 1) := by decide +kernel
theorem dX10_init_650 : decode cX10_init 650 = .ok (.bipush 12, 2) := by decide +kernel
theorem dX10_init_652 : decode cX10_init 652 = .ok (.newarray .int, 2) := by decide +kernel
theorem dX10_init_654 : decode cX10_init 654 = .ok (.putfield 39, 3) := by decide +kernel
theorem dX10_init_657 : decode cX10_init 657 = .ok (.aload_n 0, 1) := by decide +kernel
theorem dX10_init_658 : decode cX10_init 658 = .ok (.bipush 12, 2) := by decide +kernel
theorem dX10_init_660 : decode cX10_init 660 = .ok (.newarray .int, 2) := by decide +kernel
theorem dX10_init_662 : decode cX10_init 662 = .ok (.putfield 42, 3) := by decide +kernel
theorem dX10_init_665 : decode cX10_init 665 = .ok (.aload_n 0, 1) := by decide +kernel
theorem dX10_init_666 : decode cX10_init 666 = .ok (.bipush 12, 2) := by decide +kernel
theorem dX10_init_668 : decode cX10_init 668 = .ok (.newarray .int, 2) := by decide +kernel
theorem dX10_init_670 : decode cX10_init 670 = .ok (.putfield 45, 3) := by decide +kernel
theorem dX10_init_673 : decode cX10_init 673 = .ok (.aload_n 0, 1) := by decide +kernel
theorem dX10_init_674 : decode cX10_init 674 = .ok (.bipush 12, 2) := by decide +kernel
theorem dX10_init_676 : decode cX10_init 676 = .ok (.newarray .int, 2) := by decide +kernel
theorem dX10_init_678 : decode cX10_init 678 = .ok (.putfield 48, 3) := by decide +kernel
theorem dX10_init_681 : decode cX10_init 681 = .ok (.aload_n 0, 1) := by decide +kernel
theorem dX10_init_682 : decode cX10_init 682 = .ok (.bipush 12, 2) := by decide +kernel
theorem dX10_init_684 : decode cX10_init 684 = .ok (.newarray .int, 2) := by decide +kernel
theorem dX10_init_686 : decode cX10_init 686 = .ok (.putfield 51, 3) := by decide +kernel
theorem dX10_init_689 : decode cX10_init 689 = .ok (.aload_n 0, 1) := by decide +kernel
theorem dX10_init_690 : decode cX10_init 690 = .ok (.bipush 6, 2) := by decide +kernel
theorem dX10_init_692 : decode cX10_init 692 = .ok (.newarray .boolean, 2) := by decide +kernel
theorem dX10_init_694 : decode cX10_init 694 = .ok (.putfield 54, 3) := by decide +kernel
theorem dX10_init_697 : decode cX10_init 697 = .ok (.aload_n 0, 1) := by decide +kernel
theorem dX10_init_698 : decode cX10_init 698 = .ok (.bipush 6, 2) := by decide +kernel
theorem dX10_init_700 : decode cX10_init 700 = .ok (.newarray .int, 2) := by decide +kernel
theorem dX10_init_702 : decode cX10_init 702 = .ok (.putfield 57, 3) := by decide +kernel
theorem dX10_init_705 : decode cX10_init 705 = .ok (.aload_n 0, 1) := by decide +kernel
theorem dX10_init_706 : decode cX10_init 706 = .ok (.bipush 6, 2) := by decide +kernel
theorem dX10_init_708 : decode cX10_init 708 = .ok (.newarray .int, 2) := by decide +kernel
theorem dX10_init_710 : decode cX10_init 710 = .ok (.putfield 60, 3) := by decide +kernel
theorem dX10_init_713 : decode cX10_init 713 = .ok (.aload_n 0, 1) := by decide +kernel
theorem dX10_init_714 : decode cX10_init 714 = .ok (.sipush 128, 3) := by decide +kernel
theorem dX10_init_717 : decode cX10_init 717 = .ok (.newarray .int, 2) := by decide +kernel
theorem dX10_init_719 : decode cX10_init 719 = .ok (.putfield 63, 3) := by decide +kernel
theorem dX10_init_722 : decode cX10_init 722 = .ok (.aload_n 0, 1) := by decide +kernel
theorem dX10_init_723 : decode cX10_init 723 = .ok (.sipush 128, 3) := by decide +kernel
theorem dX10_init_726 : decode cX10_init 726 = .ok (.newarray .int, 2) := by decide +kernel
theorem dX10_init_728 : decode cX10_init 728 = .ok (.putfield 66, 3) := by decide +kernel
theorem dX10_init_731 : decode cX10_init 731 = .ok (.aload_n 0, 1) := by decide +kernel
theorem dX10_init_732 : decode cX10_init 732 = .ok (.sipush 128, 3) := by decide +kernel
theorem dX10_init_735 : decode cX10_init 735 = .ok (.newarray .int, 2) := by decide +kernel
theorem dX10_init_737 : decode cX10_init 737 = .ok (.putfield 69, 3) := by decide +kernel
theorem dX10_init_740 : decode cX10_init 740 = .ok (.aload_n 0, 1) := by decide +kernel
theorem dX10_init_741 : decode cX10_init 741 = .ok (.bipush 96, 2) := by decide +kernel
theorem dX10_init_743 : decode cX10_init 743 = .ok (.newarray .int, 2) := by decide +kernel
theorem dX10_init_745 : decode cX10_init 745 = .ok (.putfield 72, 3) := by decide +kernel
theorem dX10_init_748 : decode cX10_init 748 = .ok (.aload_n 0, 1) := by decide +kernel
theorem dX10_init_749 : decode cX10_init 749 = .ok (.bipush 96, 2) := by decide +kernel
theorem dX10_init_751 : decode cX10_init 751 = .ok (.newarray .int, 2) := by decide +kernel
theorem dX10_init_753 : decode cX10_init 753 = .ok (.putfield 75, 3) := by decide +kernel
theorem dX10_init_756 : decode cX10_init 756 = .ok (.aload_n 0, 1) := by decide +kernel
theorem dX10_init_757 : decode cX10_init 757 = .ok (.bipush 7, 2) := by decide +kernel
theorem dX10_init_759 : decode cX10_init 759 = .ok (.newarray .long, 2) := by decide +kernel
theorem dX10_init_761 : decode cX10_init 761 = .ok (.putfield 78, 3) := by decide +kernel
theorem dX10_init_764 : decode cX10_init 764 = .ok (.aload_n 0, 1) := by decide +kernel
theorem dX10_init_765 : decode cX10_init 765 = .ok (.bipush 64, 2) := by decide +kernel
theorem dX10_init_767 : decode cX10_init 767 = .ok (.newarray .long, 2) := by decide +kernel
theorem dX10_init_769 : decode cX10_init 769 = .ok (.putfield 82, 3) := by decide +kernel
theorem dX10_init_772 : decode cX10_init 772 = .ok (.aload_n 0, 1) := by decide +kernel
theorem dX10_init_773 : decode cX10_init 773 = .ok (.bipush 12, 2) := by decide +kernel
theorem dX10_init_775 : decode cX10_init 775 = .ok (.newarray .int, 2) := by decide +kernel
theorem dX10_init_777 : decode cX10_init 777 = .ok (.putfield 85, 3) := by decide +kernel
theorem dX10_init_780 : decode cX10_init 780 = .ok (.aload_n 0, 1) := by decide +kernel
theorem dX10_init_781 : decode cX10_init 781 = .ok (.bipush 12, 2) := by decide +kernel
theorem dX10_init_783 : decode cX10_init 783 = .ok (.newarray .int, 2) := by decide +kernel
theorem dX10_init_785 : decode cX10_init 785 = .ok (.putfield 88, 3) := by decide +kernel
theorem dX10_init_788 : decode cX10_init 788 = .ok (.aload_n 0, 1) := by decide +kernel
theorem dX10_init_789 : decode cX10_init 789 = .ok (.bipush 12, 2) := by decide +kernel
theorem dX10_init_791 : decode cX10_init 791 = .ok (.newarray .int, 2) := by decide +kernel
theorem dX10_init_793 : decode cX10_init 793 = .ok (.putfield 91, 3) := by decide +kernel
theorem dX10_init_796 : decode cX10_init 796 = .ok (.aload_n 0, 1) := by decide +kernel
theorem dX10_init_797 : decode cX10_init 797 = .ok (.bipush 12, 2) := by decide +kernel
theorem dX10_init_799 : decode cX10_init 799 = .ok (.newarray .boolean, 2) := by decide +kernel
theorem dX10_init_801 : decode cX10_init 801 = .ok (.putfield 94, 3) := by decide +kernel
theorem dX10_init_804 : decode cX10_init 804 = .ok (.aload_n 0, 1) := by decide +kernel
theorem dX10_init_805 : decode cX10_init 805 = .ok (.bipush 12, 2) := by decide +kernel
theorem dX10_init_807 : decode cX10_init 807 = .ok (.newarray .int, 2) := by decide +kernel
theorem dX10_init_809 : decode cX10_init 809 = .ok (.putfield 97, 3) := by decide +kernel
theorem dX10_init_812 : decode cX10_init 812 = .ok (.aload_n 0, 1) := by decide +kernel
theorem dX10_init_813 : decode cX10_init 813 = .ok (.bipush 12, 2) := by decide +kernel
theorem dX10_init_815 : decode cX10_init 815 = .ok (.newarray .int, 2) := by decide +kernel
theorem dX10_init_817 : decode cX10_init 817 = .ok (.putfield 100, 3) := by decide +kernel
theorem dX10_init_820 : decode cX10_init 820 = .ok (.aload_n 0, 1) := by decide +kernel
theorem dX10_init_821 : decode cX10_init 821 = .ok (.bipush 12, 2) := by decide +kernel
theorem dX10_init_823 : decode cX10_init 823 = .ok (.newarray .int, 2) := by decide +kernel
theorem dX10_init_825 : decode cX10_init 825 = .ok (.putfield 103, 3) := by decide +kernel
theorem dX10_init_828 : decode cX10_init 828 = .ok (.aload_n 0, 1) := by decide +kernel
theorem dX10_init_829 : decode cX10_init 829 = .ok (.bipush 12, 2) := by decide +kernel
theorem dX10_init_831 : decode cX10_init 831 = .ok (.newarray .boolean, 2) := by decide +kernel
theorem dX10_init_833 : decode cX10_init 833 = .ok (.putfield 106, 3) := by decide +kernel
theorem dX10_init_836 : decode cX10_init 836 = .ok (.aload_n 0, 1) := by decide +kernel
theorem dX10_init_837 : decode cX10_init 837 = .ok (.iconst 2, 1) := by decide +kernel
theorem dX10_init_838 : decode cX10_init 838 = .ok (.newarray .int, 2) := by decide +kernel
theorem dX10_init_840 : decode cX10_init 840 = .ok (.putfield 109, 3) := by decide +kernel
theorem dX10_init_843 : decode cX10_init 843 = .ok (.aload_n 0, 1) := by decide +kernel
theorem dX10_init_844 : decode cX10_init 844 = .ok (.iconst 2, 1) := by decide +kernel
theorem dX10_init_845 : decode cX10_init 845 = .ok (.newarray .int, 2) := by decide +kernel
theorem dX10_init_847 : decode cX10_init 847 = .ok (.putfield 112, 3) := by decide +kernel
theorem dX10_init_850 : decode cX10_init 850 = .ok (.aload_n 0, 1) := by decide +kernel
theorem dX10_init_851 : decode cX10_init 851 = .ok (.iconst 2, 1) := by decide +kernel
theorem dX10_init_852 : decode cX10_init 852 = .ok (.newarray .int, 2) := by decide +kernel
theorem dX10_init_854 : decode cX10_init 854 = .ok (.putfield 115, 3) := by decide +kernel
theorem dX10_init_857 : decode cX10_init 857 = .ok (.aload_n 0, 1) := by decide +kernel
theorem dX10_init_858 : decode cX10_init 858 = .ok (.iconst 2, 1) := by decide +kernel
theorem dX10_init_859 : decode cX10_init 859 = .ok (.newarray .boolean, 2) := by decide +kernel
theorem dX10_init_861 : decode cX10_init 861 = .ok (.putfield 118, 3) := by decide +kernel
theorem dX10_init_864 : decode cX10_init 864 = .ok (.aload_n 0, 1) := by decide +kernel
theorem dX10_init_865 : decode cX10_init 865 = .ok (.iconst 2, 1) := by decide +kernel
theorem dX10_init_866 : decode cX10_init 866 = .ok (.newarray .int, 2) := by decide +kernel
theorem dX10_init_868 : decode cX10_init 868 = .ok (.putfield 121, 3) := by decide +kernel
theorem dX10_init_871 : decode cX10_init 871 = .ok (.aload_n 0, 1) := by decide +kernel
theorem dX10_init_872 : decode cX10_init 872 = .ok (.iconst 2, 1) := by decide +kernel
theorem dX10_init_873 : decode cX10_init 873 = .ok (.newarray .int, 2) := by decide +kernel
theorem dX10_init_875 : decode cX10_init 875 = .ok (.putfield 124, 3) := by decide +kernel
theorem dX10_init_878 : decode cX10_init 878 = .ok (.aload_n 0, 1) := by decide +kernel
theorem dX10_init_879 : decode cX10_init 879 = .ok (.iconst (-1), 1) := by decide +kernel
theorem dX10_init_880 : decode cX10_init 880 = .ok (.putfield 127, 3) := by decide +kernel
theorem dX10_init_883 : decode cX10_init 883 = .ok (.aload_n 0, 1) := by decide +kernel
theorem dX10_init_884 : decode cX10_init 884 = .ok (.bipush 72, 2) := by decide +kernel
theorem dX10_init_886 : decode cX10_init 886 = .ok (.newarray .int, 2) := by decide +kernel
theorem dX10_init_888 : decode cX10_init 888 = .ok (.putfield 130, 3) := by decide +kernel
theorem dX10_init_891 : decode cX10_init 891 = .ok (.aload_n 0, 1) := by decide +kernel
theorem dX10_init_892 : decode cX10_init 892 = .ok (.bipush 24, 2) := by decide +kernel
theorem dX10_init_894 : decode cX10_init 894 = .ok (.newarray .boolean, 2) := by decide +kernel
theorem dX10_init_896 : decode cX10_init 896 = .ok (.putfield 133, 3) := by decide +kernel
theorem dX10_init_899 : decode cX10_init 899 = .ok (.aload_n 0, 1) := by decide +kernel
theorem dX10_init_900 : decode cX10_init 900 = .ok (.sipush 660, 3) := by decide +kernel
theorem dX10_init_903 : decode cX10_init 903 = .ok (.newarray .int, 2) := by decide +kernel
theorem dX10_init_905 : decode cX10_init 905 = .ok (.putfield 136, 3) := by decide +kernel
theorem dX10_init_908 : decode cX10_init 908 = .ok (.aload_n 0, 1) := by decide +kernel
theorem dX10_init_909 : decode cX10_init 909 = .ok (.bipush 33, 2) := by decide +kernel
theorem dX10_init_911 : decode cX10_init 911 = .ok (.newarray .int, 2) := by decide +kernel
theorem dX10_init_913 : decode cX10_init 913 = .ok (.putfield 139, 3) := by decide +kernel
theorem dX10_init_916 : decode cX10_init 916 = .ok (.aload_n 0, 1) := by decide +kernel
theorem dX10_init_917 : decode cX10_init 917 = .ok (.bipush 21, 2) := by decide +kernel
theorem dX10_init_919 : decode cX10_init 919 = .ok (.newarray .int, 2) := by decide +kernel
theorem dX10_init_921 : decode cX10_init 921 = .ok (.putfield 142, 3) := by decide +kernel
theorem dX10_init_924 : decode cX10_init 924 = .ok (.aload_n 0, 1) := by decide +kernel
theorem dX10_init_925 : decode cX10_init 925 = .ok (.invokevirtual 145, 3) := by decide +kernel
theorem dX10_init_928 : decode cX10_init 928 = .ok (.aload_n 0, 1) := by decide +kernel
theorem dX10_init_929 : decode cX10_init 929 = .ok (.invokevirtual 148, 3) := by decide +kernel
theorem dX10_init_932 : decode cX10_init 932 = .ok (.return_, 1) := by decide +kernel
theorem dX10_thrown_0 : decode cX10_thrown 0 = .ok (.aload_n 0, 1) := by decide +kernel
theorem dX10_thrown_1 : decode cX10_thrown 1 = .ok (.getfield 151, 3) := by decide +kernel
theorem dX10_thrown_4 : decode cX10_thrown 4 = .ok (.ireturn, 1) := by decide +kernel
theorem dX10_feed_0 : decode cX10_feed 0 = .ok (.aload_n 0, 1) := by decide +kernel
theorem dX10_feed_1 : decode cX10_feed 1 = .ok (.iconst 0, 1) := by decide +kernel
theorem dX10_feed_2 : decode cX10_feed 2 = .ok (.putfield 151, 3) := by decide +kernel
theorem dX10_feed_5 : decode cX10_feed 5 = .ok (.aload_n 0, 1) := by decide +kernel
theorem dX10_feed_6 : decode cX10_feed 6 = .ok (.getfield 154, 3) := by decide +kernel
theorem dX10_feed_9 : decode cX10_feed 9 = .ok (.bipush 20, 2) := by decide +kernel
theorem dX10_feed_11 : decode cX10_feed 11 = .ok (.iadd, 1) := by decide +kernel
theorem dX10_feed_12 : decode cX10_feed 12 = .ok (.sipush 700, 3) := by decide +kernel
theorem dX10_feed_15 : decode cX10_feed 15 = .ok (.if_icmp .le 5, 3) := by decide +kernel
theorem dX10_feed_18 : decode cX10_feed 18 = .ok (.iconst (-1), 1) := by decide +kernel
theorem dX10_feed_19 : decode cX10_feed 19 = .ok (.ireturn, 1) := by decide +kernel
theorem dX10_feed_20 : decode cX10_feed 20 = .ok (.iconst 0, 1) := by decide +kernel
theorem dX10_feed_21 : decode cX10_feed 21 = .ok (.istore 6, 2) := by decide +kernel
theorem dX10_feed_23 : decode cX10_feed 23 = .ok (.iload 6, 2) := by decide +kernel
theorem dX10_feed_25 : decode cX10_feed 25 = .ok (.bipush 20, 2) := by decide +kernel
theorem dX10_feed_27 : decode cX10_feed 27 = .ok (.if_icmp .ge 86, 3) := by decide +kernel
theorem dX10_feed_30 : decode cX10_feed 30 = .ok (.iload 6, 2) := by decide +kernel
theorem dX10_feed_32 : decode cX10_feed 32 = .ok (.iconst 4, 1) := by decide +kernel
theorem dX10_feed_33 : decode cX10_feed 33 = .ok (.if_icmp .ge 7, 3) := by decide +kernel
theorem dX10_feed_36 : decode cX10_feed 36 = .ok (.iload_n 1, 1) := by decide +kernel
theorem dX10_feed_37 : decode cX10_feed 37 = .ok (.goto 39, 3) := by decide +kernel
theorem dX10_feed_40 : decode cX10_feed 40 = .ok (.iload 6, 2) := by decide +kernel
theorem dX10_feed_42 : decode cX10_feed 42 = .ok (.bipush 8, 2) := by decide +kernel
theorem dX10_feed_44 : decode cX10_feed 44 = .ok (.if_icmp .ge 7, 3) := by decide +kernel
theorem dX10_feed_47 : decode cX10_feed 47 = .ok (.iload_n 2, 1) := by decide +kernel
theorem dX10_feed_48 : decode cX10_feed 48 = .ok (.goto 28, 3) := by decide +kernel
theorem dX10_feed_51 : decode cX10_feed 51 = .ok (.iload 6, 2) := by decide +kernel
theorem dX10_feed_53 : decode cX10_feed 53 = .ok (.bipush 12, 2) := by decide +kernel
theorem dX10_feed_55 : decode cX10_feed 55 = .ok (.if_icmp .ge 7, 3) := by decide +kernel
theorem dX10_feed_58 : decode cX10_feed 58 = .ok (.iload_n 3, 1) := by decide +kernel
theorem dX10_feed_59 : decode cX10_feed 59 = .ok (.goto 17, 3) := by decide +kernel
theorem dX10_feed_62 : decode cX10_feed 62 = .ok (.iload 6, 2) := by decide +kernel
theorem dX10_feed_64 : decode cX10_feed 64 = .ok (.bipush 16, 2) := by decide +kernel
theorem dX10_feed_66 : decode cX10_feed 66 = .ok (.if_icmp .ge 8, 3) := by decide +kernel
theorem dX10_feed_69 : decode cX10_feed 69 = .ok (.iload 4, 2) := by decide +kernel
theorem dX10_feed_71 : decode cX10_feed 71 = .ok (.goto 5, 3) := by decide +kernel
theorem dX10_feed_74 : decode cX10_feed 74 = .ok (.iload 5, 2) := by decide +kernel
theorem dX10_feed_76 : decode cX10_feed 76 = .ok (.istore 7, 2) := by decide +kernel
theorem dX10_feed_78 : decode cX10_feed 78 = .ok (.aload_n 0, 1) := by decide +kernel
theorem dX10_feed_79 : decode cX10_feed 79 = .ok (.getfield 7, 3) := by decide +kernel
theorem dX10_feed_82 : decode cX10_feed 82 = .ok (.aload_n 0, 1) := by decide +kernel
theorem dX10_feed_83 : decode cX10_feed 83 = .ok (.getfield 154, 3) := by decide +kernel
theorem dX10_feed_86 : decode cX10_feed 86 = .ok (.iload 6, 2) := by decide +kernel
theorem dX10_feed_88 : decode cX10_feed 88 = .ok (.iadd, 1) := by decide +kernel
theorem dX10_feed_89 : decode cX10_feed 89 = .ok (.iload 7, 2) := by decide +kernel
theorem dX10_feed_91 : decode cX10_feed 91 = .ok (.bipush 24, 2) := by decide +kernel
theorem dX10_feed_93 : decode cX10_feed 93 = .ok (.bipush 8, 2) := by decide +kernel
theorem dX10_feed_95 : decode cX10_feed 95 = .ok (.iload 6, 2) := by decide +kernel
theorem dX10_feed_97 : decode cX10_feed 97 = .ok (.iconst 4, 1) := by decide +kernel
theorem dX10_feed_98 : decode cX10_feed 98 = .ok (.irem, 1) := by decide +kernel
theorem dX10_feed_99 : decode cX10_feed 99 = .ok (.imul, 1) := by decide +kernel
theorem dX10_feed_100 : decode cX10_feed 100 = .ok (.isub, 1) := by decide +kernel
theorem dX10_feed_101 : decode cX10_feed 101 = .ok (.ishr, 1) := by decide +kernel
theorem dX10_feed_102 : decode cX10_feed 102 = .ok (.sipush 255, 3) := by decide +kernel
theorem dX10_feed_105 : decode cX10_feed 105 = .ok (.iand, 1) := by decide +kernel
theorem dX10_feed_106 : decode cX10_feed 106 = .ok (.iastore, 1) := by decide +kernel
theorem dX10_feed_107 : decode cX10_feed 107 = .ok (.iinc 6 1, 3) := by decide +kernel
theorem dX10_feed_110 : decode cX10_feed 110 = .ok (.goto (-87), 3) := by decide +kernel
theorem dX10_feed_113 : decode cX10_feed 113 = .ok (.aload_n 0, 1) := by decide +kernel
theorem dX10_feed_114 : decode cX10_feed 114 = .ok (.dup, 1) := by decide +kernel
theorem dX10_feed_115 : decode cX10_feed 115 = .ok (.getfield 154, 3) := by decide +kernel
theorem dX10_feed_118 : decode cX10_feed 118 = .ok (.bipush 20, 2) := by decide +kernel
theorem dX10_feed_120 : decode cX10_feed 120 = .ok (.iadd, 1) := by decide +kernel
theorem dX10_feed_121 : decode cX10_feed 121 = .ok (.putfield 154, 3) := by decide +kernel
theorem dX10_feed_124 : decode cX10_feed 124 = .ok (.aload_n 0, 1) := by decide +kernel
theorem dX10_feed_125 : decode cX10_feed 125 = .ok (.getfield 154, 3) := by decide +kernel
theorem dX10_feed_128 : decode cX10_feed 128 = .ok (.ireturn, 1) := by decide +kernel
theorem dX10_isIn_0 : decode cX10_isIn 0 = .ok (.iload_n 0, 1) := by decide +kernel
theorem dX10_isIn_1 : decode cX10_isIn 1 = .ok (.iload_n 1, 1) := by decide +kernel
theorem dX10_isIn_2 : decode cX10_isIn 2 = .ok (.if_icmp .lt 12, 3) := by decide +kernel
theorem dX10_isIn_5 : decode cX10_isIn 5 = .ok (.iload_n 0, 1) := by decide +kernel
theorem dX10_isIn_6 : decode cX10_isIn 6 = .ok (.iload_n 2, 1) := by decide +kernel
theorem dX10_isIn_7 : decode cX10_isIn 7 = .ok (.if_icmp .gt 7, 3) := by decide +kernel
theorem dX10_isIn_10 : decode cX10_isIn 10 = .ok (.iconst 1, 1) := by decide +kernel
theorem dX10_isIn_11 : decode cX10_isIn 11 = .ok (.goto 4, 3) := by decide +kernel
theorem dX10_isIn_14 : decode cX10_isIn 14 = .ok (.iconst 0, 1) := by decide +kernel
theorem dX10_isIn_15 : decode cX10_isIn 15 = .ok (.ireturn, 1) := by decide +kernel
theorem dX10_isOf_0 : decode cX10_isOf 0 = .ok (.iload_n 0, 1) := by decide +kernel
theorem dX10_isOf_1 : decode cX10_isOf 1 = .ok (.iload_n 1, 1) := by decide +kernel
theorem dX10_isOf_2 : decode cX10_isOf 2 = .ok (.ishr, 1) := by decide +kernel
theorem dX10_isOf_3 : decode cX10_isOf 3 = .ok (.iconst 1, 1) := by decide +kernel
theorem dX10_isOf_4 : decode cX10_isOf 4 = .ok (.iand, 1) := by decide +kernel
theorem dX10_isOf_5 : decode cX10_isOf 5 = .ok (.iconst 1, 1) := by decide +kernel
theorem dX10_isOf_6 : decode cX10_isOf 6 = .ok (.if_icmp .ne 7, 3) := by decide +kernel
theorem dX10_isOf_9 : decode cX10_isOf 9 = .ok (.iconst 1, 1) := by decide +kernel
theorem dX10_isOf_10 : decode cX10_isOf 10 = .ok (.goto 4, 3) := by decide +kernel
theorem dX10_isOf_13 : decode cX10_isOf 13 = .ok (.iconst 0, 1) := by decide +kernel
theorem dX10_isOf_14 : decode cX10_isOf 14 = .ok (.ireturn, 1) := by decide +kernel
theorem dX10_wrong_0 : decode cX10_wrong 0 = .ok (.aload_n 0, 1) := by decide +kernel
theorem dX10_wrong_1 : decode cX10_wrong 1 = .ok (.iload_n 1, 1) := by decide +kernel
theorem dX10_wrong_2 : decode cX10_wrong 2 = .ok (.putfield 157, 3) := by decide +kernel
theorem dX10_wrong_5 : decode cX10_wrong 5 = .ok (.aload_n 0, 1) := by decide +kernel
theorem dX10_wrong_6 : decode cX10_wrong 6 = .ok (.aload_n 0, 1) := by decide +kernel
theorem dX10_wrong_7 : decode cX10_wrong 7 = .ok (.getfield 160, 3) := by decide +kernel
theorem dX10_wrong_10 : decode cX10_wrong 10 = .ok (.putfield 16, 3) := by decide +kernel
theorem dX10_wrong_13 : decode cX10_wrong 13 = .ok (.iconst 0, 1) := by decide +kernel
theorem dX10_wrong_14 : decode cX10_wrong 14 = .ok (.ireturn, 1) := by decide +kernel
theorem dX10_wordAt_0 : decode cX10_wordAt 0 = .ok (.iconst 0, 1) := by decide +kernel
theorem dX10_wordAt_1 : decode cX10_wordAt 1 = .ok (.istore_n 3, 1) := by decide +kernel
theorem dX10_wordAt_2 : decode cX10_wordAt 2 = .ok (.iconst 0, 1) := by decide +kernel
theorem dX10_wordAt_3 : decode cX10_wordAt 3 = .ok (.istore 4, 2) := by decide +kernel
theorem dX10_wordAt_5 : decode cX10_wordAt 5 = .ok (.iload 4, 2) := by decide +kernel
theorem dX10_wordAt_7 : decode cX10_wordAt 7 = .ok (.aload_n 0, 1) := by decide +kernel
theorem dX10_wordAt_8 : decode cX10_wordAt 8 = .ok (.getfield 13, 3) := by decide +kernel
theorem dX10_wordAt_11 : decode cX10_wordAt 11 = .ok (.arraylength, 1) := by decide +kernel
theorem dX10_wordAt_12 : decode cX10_wordAt 12 = .ok (.if_icmp .ge 114, 3) := by decide +kernel
theorem dX10_wordAt_15 : decode cX10_wordAt 15 = .ok (.iconst 0, 1) := by decide +kernel
theorem dX10_wordAt_16 : decode cX10_wordAt 16 = .ok (.istore 5, 2) := by decide +kernel
theorem dX10_wordAt_18 : decode cX10_wordAt 18 = .ok (.aload_n 0, 1) := by decide +kernel
theorem dX10_wordAt_19 : decode cX10_wordAt 19 = .ok (.getfield 13, 3) := by decide +kernel
theorem dX10_wordAt_22 : decode cX10_wordAt 22 = .ok (.iload 4, 2) := by decide +kernel
theorem dX10_wordAt_24 : decode cX10_wordAt 24 = .ok (.iload 5, 2) := by decide +kernel
theorem dX10_wordAt_26 : decode cX10_wordAt 26 = .ok (.iadd, 1) := by decide +kernel
theorem dX10_wordAt_27 : decode cX10_wordAt 27 = .ok (.iaload, 1) := by decide +kernel
theorem dX10_wordAt_28 : decode cX10_wordAt 28 = .ok (.bipush 32, 2) := by decide +kernel
theorem dX10_wordAt_30 : decode cX10_wordAt 30 = .ok (.if_icmp .eq 9, 3) := by decide +kernel
theorem dX10_wordAt_33 : decode cX10_wordAt 33 = .ok (.iinc 5 1, 3) := by decide +kernel
theorem dX10_wordAt_36 : decode cX10_wordAt 36 = .ok (.goto (-18), 3) := by decide +kernel
theorem dX10_wordAt_39 : decode cX10_wordAt 39 = .ok (.iload 5, 2) := by decide +kernel
theorem dX10_wordAt_41 : decode cX10_wordAt 41 = .ok (.iload_n 2, 1) := by decide +kernel
theorem dX10_wordAt_42 : decode cX10_wordAt 42 = .ok (.iload_n 1, 1) := by decide +kernel
theorem dX10_wordAt_43 : decode cX10_wordAt 43 = .ok (.isub, 1) := by decide +kernel
theorem dX10_wordAt_44 : decode cX10_wordAt 44 = .ok (.if_icmp .ne 7, 3) := by decide +kernel
theorem dX10_wordAt_47 : decode cX10_wordAt 47 = .ok (.iconst 1, 1) := by decide +kernel
theorem dX10_wordAt_48 : decode cX10_wordAt 48 = .ok (.goto 4, 3) := by decide +kernel
theorem dX10_wordAt_51 : decode cX10_wordAt 51 = .ok (.iconst 0, 1) := by decide +kernel
theorem dX10_wordAt_52 : decode cX10_wordAt 52 = .ok (.istore 6, 2) := by decide +kernel
theorem dX10_wordAt_54 : decode cX10_wordAt 54 = .ok (.iconst 0, 1) := by decide +kernel
