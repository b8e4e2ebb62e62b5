/-! the constructor of the reference -/
theorem dX10_init_0 : decode cX10_init 0 = .ok (.aload_n 0, 1) := by decide +kernel
theorem dX10_init_1 : decode cX10_init 1 = .ok (.invokespecial 7, 3) := by decide +kernel
theorem dX10_init_4 : decode cX10_init 4 = .ok (.aload_n 0, 1) := by decide +kernel
theorem dX10_init_5 : decode cX10_init 5 = .ok (.sipush 1278, 3) := by decide +kernel
theorem dX10_init_8 : decode cX10_init 8 = .ok (.newarray .int, 2) := by decide +kernel
theorem dX10_init_10 : decode cX10_init 10 = .ok (.putfield 13, 3) := by decide +kernel
theorem dX10_init_13 : decode cX10_init 13 = .ok (.aload_n 0, 1) := by decide +kernel
theorem dX10_init_14 : decode cX10_init 14 = .ok (.sipush 4260, 3) := by decide +kernel
theorem dX10_init_17 : decode cX10_init 17 = .ok (.newarray .int, 2) := by decide +kernel
theorem dX10_init_19 : decode cX10_init 19 = .ok (.putfield 17, 3) := by decide +kernel
theorem dX10_init_22 : decode cX10_init 22 = .ok (.aload_n 0, 1) := by decide +kernel
theorem dX10_init_23 : decode cX10_init 23 = .ok (.sipush 426, 3) := by decide +kernel
theorem dX10_init_26 : decode cX10_init 26 = .ok (.newarray .int, 2) := by decide +kernel
theorem dX10_init_28 : decode cX10_init 28 = .ok (.putfield 20, 3) := by decide +kernel
theorem dX10_init_31 : decode cX10_init 31 = .ok (.aload_n 0, 1) := by decide +kernel
theorem dX10_init_32 : decode cX10_init 32 = .ok (.iconst 2, 1) := by decide +kernel
theorem dX10_init_33 : decode cX10_init 33 = .ok (.newarray .boolean, 2) := by decide +kernel
theorem dX10_init_35 : decode cX10_init 35 = .ok (.putfield 23, 3) := by decide +kernel
theorem dX10_init_38 : decode cX10_init 38 = .ok (.aload_n 0, 1) := by decide +kernel
theorem dX10_init_39 : decode cX10_init 39 = .ok (.bipush 17, 2) := by decide +kernel
theorem dX10_init_41 : decode cX10_init 41 = .ok (.newarray .int, 2) := by decide +kernel
theorem dX10_init_43 : decode cX10_init 43 = .ok (.dup, 1) := by decide +kernel
theorem dX10_init_44 : decode cX10_init 44 = .ok (.iconst 0, 1) := by decide +kernel
theorem dX10_init_45 : decode cX10_init 45 = .ok (.iconst 1, 1) := by decide +kernel
theorem dX10_init_46 : decode cX10_init 46 = .ok (.iastore, 1) := by decide +kernel
theorem dX10_init_47 : decode cX10_init 47 = .ok (.dup, 1) := by decide +kernel
theorem dX10_init_48 : decode cX10_init 48 = .ok (.iconst 1, 1) := by decide +kernel
theorem dX10_init_49 : decode cX10_init 49 = .ok (.iconst 1, 1) := by decide +kernel
theorem dX10_init_50 : decode cX10_init 50 = .ok (.iastore, 1) := by decide +kernel
theorem dX10_init_51 : decode cX10_init 51 = .ok (.dup, 1) := by decide +kernel
theorem dX10_init_52 : decode cX10_init 52 = .ok (.iconst 2, 1) := by decide +kernel
theorem dX10_init_53 : decode cX10_init 53 = .ok (.iconst 0, 1) := by decide +kernel
theorem dX10_init_54 : decode cX10_init 54 = .ok (.iastore, 1) := by decide +kernel
theorem dX10_init_55 : decode cX10_init 55 = .ok (.dup, 1) := by decide +kernel
theorem dX10_init_56 : decode cX10_init 56 = .ok (.iconst 3, 1) := by decide +kernel
theorem dX10_init_57 : decode cX10_init 57 = .ok (.iconst 1, 1) := by decide +kernel
theorem dX10_init_58 : decode cX10_init 58 = .ok (.iastore, 1) := by decide +kernel
theorem dX10_init_59 : decode cX10_init 59 = .ok (.dup, 1) := by decide +kernel
theorem dX10_init_60 : decode cX10_init 60 = .ok (.iconst 4, 1) := by decide +kernel
theorem dX10_init_61 : decode cX10_init 61 = .ok (.iconst 1, 1) := by decide +kernel
theorem dX10_init_62 : decode cX10_init 62 = .ok (.iastore, 1) := by decide +kernel
theorem dX10_init_63 : decode cX10_init 63 = .ok (.dup, 1) := by decide +kernel
theorem dX10_init_64 : decode cX10_init 64 = .ok (.iconst 5, 1) := by decide +kernel
theorem dX10_init_65 : decode cX10_init 65 = .ok (.iconst 4, 1) := by decide +kernel
theorem dX10_init_66 : decode cX10_init 66 = .ok (.iastore, 1) := by decide +kernel
theorem dX10_init_67 : decode cX10_init 67 = .ok (.dup, 1) := by decide +kernel
theorem dX10_init_68 : decode cX10_init 68 = .ok (.bipush 6, 2) := by decide +kernel
theorem dX10_init_70 : decode cX10_init 70 = .ok (.iconst 1, 1) := by decide +kernel
theorem dX10_init_71 : decode cX10_init 71 = .ok (.iastore, 1) := by decide +kernel
theorem dX10_init_72 : decode cX10_init 72 = .ok (.dup, 1) := by decide +kernel
theorem dX10_init_73 : decode cX10_init 73 = .ok (.bipush 7, 2) := by decide +kernel
theorem dX10_init_75 : decode cX10_init 75 = .ok (.iconst 4, 1) := by decide +kernel
theorem dX10_init_76 : decode cX10_init 76 = .ok (.iastore, 1) := by decide +kernel
theorem dX10_init_77 : decode cX10_init 77 = .ok (.dup, 1) := by decide +kernel
theorem dX10_init_78 : decode cX10_init 78 = .ok (.bipush 8, 2) := by decide +kernel
theorem dX10_init_80 : decode cX10_init 80 = .ok (.iconst 1, 1) := by decide +kernel
theorem dX10_init_81 : decode cX10_init 81 = .ok (.iastore, 1) := by decide +kernel
theorem dX10_init_82 : decode cX10_init 82 = .ok (.dup, 1) := by decide +kernel
theorem dX10_init_83 : decode cX10_init 83 = .ok (.bipush 9, 2) := by decide +kernel
theorem dX10_init_85 : decode cX10_init 85 = .ok (.iconst 1, 1) := by decide +kernel
theorem dX10_init_86 : decode cX10_init 86 = .ok (.iastore, 1) := by decide +kernel
theorem dX10_init_87 : decode cX10_init 87 = .ok (.dup, 1) := by decide +kernel
theorem dX10_init_88 : decode cX10_init 88 = .ok (.bipush 10, 2) := by decide +kernel
theorem dX10_init_90 : decode cX10_init 90 = .ok (.iconst 1, 1) := by decide +kernel
theorem dX10_init_91 : decode cX10_init 91 = .ok (.iastore, 1) := by decide +kernel
theorem dX10_init_92 : decode cX10_init 92 = .ok (.dup, 1) := by decide +kernel
theorem dX10_init_93 : decode cX10_init 93 = .ok (.bipush 11, 2) := by decide +kernel
theorem dX10_init_95 : decode cX10_init 95 = .ok (.iconst 1, 1) := by decide +kernel
theorem dX10_init_96 : decode cX10_init 96 = .ok (.iastore, 1) := by decide +kernel
theorem dX10_init_97 : decode cX10_init 97 = .ok (.dup, 1) := by decide +kernel
theorem dX10_init_98 : decode cX10_init 98 = .ok (.bipush 12, 2) := by decide +kernel
theorem dX10_init_100 : decode cX10_init 100 = .ok (.iconst 0, 1) := by decide +kernel
theorem dX10_init_101 : decode cX10_init 101 = .ok (.iastore, 1) := by decide +kernel
theorem dX10_init_102 : decode cX10_init 102 = .ok (.dup, 1) := by decide +kernel
theorem dX10_init_103 : decode cX10_init 103 = .ok (.bipush 13, 2) := by decide +kernel
theorem dX10_init_105 : decode cX10_init 105 = .ok (.iconst 0, 1) := by decide +kernel
theorem dX10_init_106 : decode cX10_init 106 = .ok (.iastore, 1) := by decide +kernel
theorem dX10_init_107 : decode cX10_init 107 = .ok (.dup, 1) := by decide +kernel
theorem dX10_init_108 : decode cX10_init 108 = .ok (.bipush 14, 2) := by decide +kernel
theorem dX10_init_110 : decode cX10_init 110 = .ok (.iconst 0, 1) := by decide +kernel
theorem dX10_init_111 : decode cX10_init 111 = .ok (.iastore, 1) := by decide +kernel
theorem dX10_init_112 : decode cX10_init 112 = .ok (.dup, 1) := by decide +kernel
theorem dX10_init_113 : decode cX10_init 113 = .ok (.bipush 15, 2) := by decide +kernel
theorem dX10_init_115 : decode cX10_init 115 = .ok (.iconst 0, 1) := by decide +kernel
theorem dX10_init_116 : decode cX10_init 116 = .ok (.iastore, 1) := by decide +kernel
theorem dX10_init_117 : decode cX10_init 117 = .ok (.dup, 1) := by decide +kernel
theorem dX10_init_118 : decode cX10_init 118 = .ok (.bipush 16, 2) := by decide +kernel
theorem dX10_init_120 : decode cX10_init 120 = .ok (.iconst 0, 1) := by decide +kernel
theorem dX10_init_121 : decode cX10_init 121 = .ok (.iastore, 1) := by decide +kernel
theorem dX10_init_122 : decode cX10_init 122 = .ok (.putfield 27, 3) := by decide +kernel
theorem dX10_init_125 : decode cX10_init 125 = .ok (.aload_n 0, 1) := by decide +kernel
theorem dX10_init_126 : decode cX10_init 126 = .ok (.bipush 17, 2) := by decide +kernel
theorem dX10_init_128 : decode cX10_init 128 = .ok (.newarray .int, 2) := by decide +kernel
theorem dX10_init_130 : decode cX10_init 130 = .ok (.dup, 1) := by decide +kernel
theorem dX10_init_131 : decode cX10_init 131 = .ok (.iconst 0, 1) := by decide +kernel
theorem dX10_init_132 : decode cX10_init 132 = .ok (.sipush 999, 3) := by decide +kernel
theorem dX10_init_135 : decode cX10_init 135 = .ok (.iastore, 1) := by decide +kernel
theorem dX10_init_136 : decode cX10_init 136 = .ok (.dup, 1) := by decide +kernel
theorem dX10_init_137 : decode cX10_init 137 = .ok (.iconst 1, 1) := by decide +kernel
theorem dX10_init_138 : decode cX10_init 138 = .ok (.iconst 2, 1) := by decide +kernel
theorem dX10_init_139 : decode cX10_init 139 = .ok (.iastore, 1) := by decide +kernel
theorem dX10_init_140 : decode cX10_init 140 = .ok (.dup, 1) := by decide +kernel
theorem dX10_init_141 : decode cX10_init 141 = .ok (.iconst 2, 1) := by decide +kernel
theorem dX10_init_142 : decode cX10_init 142 = .ok (.iconst 5, 1) := by decide +kernel
theorem dX10_init_143 : decode cX10_init 143 = .ok (.iastore, 1) := by decide +kernel
theorem dX10_init_144 : decode cX10_init 144 = .ok (.dup, 1) := by decide +kernel
theorem dX10_init_145 : decode cX10_init 145 = .ok (.iconst 3, 1) := by decide +kernel
theorem dX10_init_146 : decode cX10_init 146 = .ok (.bipush 8, 2) := by decide +kernel
theorem dX10_init_148 : decode cX10_init 148 = .ok (.iastore, 1) := by decide +kernel
theorem dX10_init_149 : decode cX10_init 149 = .ok (.dup, 1) := by decide +kernel
theorem dX10_init_150 : decode cX10_init 150 = .ok (.iconst 4, 1) := by decide +kernel
theorem dX10_init_151 : decode cX10_init 151 = .ok (.bipush 99, 2) := by decide +kernel
theorem dX10_init_153 : decode cX10_init 153 = .ok (.iastore, 1) := by decide +kernel
theorem dX10_init_154 : decode cX10_init 154 = .ok (.dup, 1) := by decide +kernel
theorem dX10_init_155 : decode cX10_init 155 = .ok (.iconst 5, 1) := by decide +kernel
theorem dX10_init_156 : decode cX10_init 156 = .ok (.sipush 999, 3) := by decide +kernel
theorem dX10_init_159 : decode cX10_init 159 = .ok (.iastore, 1) := by decide +kernel
theorem dX10_init_160 : decode cX10_init 160 = .ok (.dup, 1) := by decide +kernel
theorem dX10_init_161 : decode cX10_init 161 = .ok (.bipush 6, 2) := by decide +kernel
theorem dX10_init_163 : decode cX10_init 163 = .ok (.bipush 9, 2) := by decide +kernel
theorem dX10_init_165 : decode cX10_init 165 = .ok (.iastore, 1) := by decide +kernel
theorem dX10_init_166 : decode cX10_init 166 = .ok (.dup, 1) := by decide +kernel
theorem dX10_init_167 : decode cX10_init 167 = .ok (.bipush 7, 2) := by decide +kernel
theorem dX10_init_169 : decode cX10_init 169 = .ok (.bipush 99, 2) := by decide +kernel
theorem dX10_init_171 : decode cX10_init 171 = .ok (.iastore, 1) := by decide +kernel
theorem dX10_init_172 : decode cX10_init 172 = .ok (.dup, 1) := by decide +kernel
theorem dX10_init_173 : decode cX10_init 173 = .ok (.bipush 8, 2) := by decide +kernel
theorem dX10_init_175 : decode cX10_init 175 = .ok (.bipush 9, 2) := by decide +kernel
theorem dX10_init_177 : decode cX10_init 177 = .ok (.iastore, 1) := by decide +kernel
theorem dX10_init_178 : decode cX10_init 178 = .ok (.dup, 1) := by decide +kernel
theorem dX10_init_179 : decode cX10_init 179 = .ok (.bipush 9, 2) := by decide +kernel
theorem dX10_init_181 : decode cX10_init 181 = .ok (.bipush 8, 2) := by decide +kernel
theorem dX10_init_183 : decode cX10_init 183 = .ok (.iastore, 1) := by decide +kernel
theorem dX10_init_184 : decode cX10_init 184 = .ok (.dup, 1) := by decide +kernel
theorem dX10_init_185 : decode cX10_init 185 = .ok (.bipush 10, 2) := by decide +kernel
theorem dX10_init_187 : decode cX10_init 187 = .ok (.bipush 9, 2) := by decide +kernel
theorem dX10_init_189 : decode cX10_init 189 = .ok (.iastore, 1) := by decide +kernel
theorem dX10_init_190 : decode cX10_init 190 = .ok (.dup, 1) := by decide +kernel
theorem dX10_init_191 : decode cX10_init 191 = .ok (.bipush 11, 2) := by decide +kernel
theorem dX10_init_193 : decode cX10_init 193 = .ok (.bipush 8, 2) := by decide +kernel
theorem dX10_init_195 : decode cX10_init 195 = .ok (.iastore, 1) := by decide +kernel
theorem dX10_init_196 : decode cX10_init 196 = .ok (.dup, 1) := by decide +kernel
theorem dX10_init_197 : decode cX10_init 197 = .ok (.bipush 12, 2) := by decide +kernel
theorem dX10_init_199 : decode cX10_init 199 = .ok (.bipush 8, 2) := by decide +kernel
theorem dX10_init_201 : decode cX10_init 201 = .ok (.iastore, 1) := by decide +kernel
theorem dX10_init_202 : decode cX10_init 202 = .ok (.dup, 1) := by decide +kernel
theorem dX10_init_203 : decode cX10_init 203 = .ok (.bipush 13, 2) := by decide +kernel
theorem dX10_init_205 : decode cX10_init 205 = .ok (.bipush 100, 2) := by decide +kernel
theorem dX10_init_207 : decode cX10_init 207 = .ok (.iastore, 1) := by decide +kernel
theorem dX10_init_208 : decode cX10_init 208 = .ok (.dup, 1) := by decide +kernel
theorem dX10_init_209 : decode cX10_init 209 = .ok (.bipush 14, 2) := by decide +kernel
theorem dX10_init_211 : decode cX10_init 211 = .ok (.iconst 1, 1) := by decide +kernel
theorem dX10_init_212 : decode cX10_init 212 = .ok (.iastore, 1) := by decide +kernel
theorem dX10_init_213 : decode cX10_init 213 = .ok (.dup, 1) := by decide +kernel
theorem dX10_init_214 : decode cX10_init 214 = .ok (.bipush 15, 2) := by decide +kernel
theorem dX10_init_216 : decode cX10_init 216 = .ok (.iconst 1, 1) := by decide +kernel
theorem dX10_init_217 : decode cX10_init 217 = .ok (.iastore, 1) := by decide +kernel
theorem dX10_init_218 : decode cX10_init 218 = .ok (.dup, 1) := by decide +kernel
theorem dX10_init_219 : decode cX10_init 219 = .ok (.bipush 16, 2) := by decide +kernel
theorem dX10_init_221 : decode cX10_init 221 = .ok (.iconst 2, 1) := by decide +kernel
theorem dX10_init_222 : decode cX10_init 222 = .ok (.iastore, 1) := by decide +kernel
theorem dX10_init_223 : decode cX10_init 223 = .ok (.putfield 30, 3) := by decide +kernel
theorem dX10_init_226 : decode cX10_init 226 = .ok (.aload_n 0, 1) := by decide +kernel
theorem dX10_init_227 : decode cX10_init 227 = .ok (.bipush 17, 2) := by decide +kernel
theorem dX10_init_229 : decode cX10_init 229 = .ok (.newarray .int, 2) := by decide +kernel
theorem dX10_init_231 : decode cX10_init 231 = .ok (.dup, 1) := by decide +kernel
theorem dX10_init_232 : decode cX10_init 232 = .ok (.iconst 0, 1) := by decide +kernel
theorem dX10_init_233 : decode cX10_init 233 = .ok (.bipush 24, 2) := by decide +kernel
theorem dX10_init_235 : decode cX10_init 235 = .ok (.iastore, 1) := by decide +kernel
theorem dX10_init_236 : decode cX10_init 236 = .ok (.dup, 1) := by decide +kernel
theorem dX10_init_237 : decode cX10_init 237 = .ok (.iconst 1, 1) := by decide +kernel
theorem dX10_init_238 : decode cX10_init 238 = .ok (.iconst 1, 1) := by decide +kernel
theorem dX10_init_239 : decode cX10_init 239 = .ok (.iastore, 1) := by decide +kernel
theorem dX10_init_240 : decode cX10_init 240 = .ok (.dup, 1) := by decide +kernel
theorem dX10_init_241 : decode cX10_init 241 = .ok (.iconst 2, 1) := by decide +kernel
theorem dX10_init_242 : decode cX10_init 242 = .ok (.iconst 0, 1) := by decide +kernel
theorem dX10_init_243 : decode cX10_init 243 = .ok (.iastore, 1) := by decide +kernel
theorem dX10_init_244 : decode cX10_init 244 = .ok (.dup, 1) := by decide +kernel
theorem dX10_init_245 : decode cX10_init 245 = .ok (.iconst 3, 1) := by decide +kernel
theorem dX10_init_246 : decode cX10_init 246 = .ok (.iconst 2, 1) := by decide +kernel
theorem dX10_init_247 : decode cX10_init 247 = .ok (.iastore, 1) := by decide +kernel
theorem dX10_init_248 : decode cX10_init 248 = .ok (.dup, 1) := by decide +kernel
theorem dX10_init_249 : decode cX10_init 249 = .ok (.iconst 4, 1) := by decide +kernel
theorem dX10_init_250 : decode cX10_init 250 = .ok (.iconst 4, 1) := by decide +kernel
theorem dX10_init_251 : decode cX10_init 251 = .ok (.iastore, 1) := by decide +kernel
theorem dX10_init_252 : decode cX10_init 252 = .ok (.dup, 1) := by decide +kernel
theorem dX10_init_253 : decode cX10_init 253 = .ok (.iconst 5, 1) := by decide +kernel
theorem dX10_init_254 : decode cX10_init 254 = .ok (.bipush 64, 2) := by decide +kernel
theorem dX10_init_256 : decode cX10_init 256 = .ok (.iastore, 1) := by decide +kernel
theorem dX10_init_257 : decode cX10_init 257 = .ok (.dup, 1) := by decide +kernel
theorem dX10_init_258 : decode cX10_init 258 = .ok (.bipush 6, 2) := by decide +kernel
theorem dX10_init_260 : decode cX10_init 260 = .ok (.iconst 1, 1) := by decide +kernel
theorem dX10_init_261 : decode cX10_init 261 = .ok (.iastore, 1) := by decide +kernel
theorem dX10_init_262 : decode cX10_init 262 = .ok (.dup, 1) := by decide +kernel
theorem dX10_init_263 : decode cX10_init 263 = .ok (.bipush 7, 2) := by decide +kernel
theorem dX10_init_265 : decode cX10_init 265 = .ok (.bipush 16, 2) := by decide +kernel
theorem dX10_init_267 : decode cX10_init 267 = .ok (.iastore, 1) := by decide +kernel
theorem dX10_init_268 : decode cX10_init 268 = .ok (.dup, 1) := by decide +kernel
theorem dX10_init_269 : decode cX10_init 269 = .ok (.bipush 8, 2) := by decide +kernel
theorem dX10_init_271 : decode cX10_init 271 = .ok (.iconst 1, 1) := by decide +kernel
theorem dX10_init_272 : decode cX10_init 272 = .ok (.iastore, 1) := by decide +kernel
theorem dX10_init_273 : decode cX10_init 273 = .ok (.dup, 1) := by decide +kernel
theorem dX10_init_274 : decode cX10_init 274 = .ok (.bipush 9, 2) := by decide +kernel
theorem dX10_init_276 : decode cX10_init 276 = .ok (.iconst 1, 1) := by decide +kernel
theorem dX10_init_277 : decode cX10_init 277 = .ok (.iastore, 1) := by decide +kernel
theorem dX10_init_278 : decode cX10_init 278 = .ok (.dup, 1) := by decide +kernel
theorem dX10_init_279 : decode cX10_init 279 = .ok (.bipush 10, 2) := by decide +kernel
theorem dX10_init_281 : decode cX10_init 281 = .ok (.iconst 1, 1) := by decide +kernel
theorem dX10_init_282 : decode cX10_init 282 = .ok (.iastore, 1) := by decide +kernel
theorem dX10_init_283 : decode cX10_init 283 = .ok (.dup, 1) := by decide +kernel
theorem dX10_init_284 : decode cX10_init 284 = .ok (.bipush 11, 2) := by decide +kernel
theorem dX10_init_286 : decode cX10_init 286 = .ok (.iconst 1, 1) := by decide +kernel
theorem dX10_init_287 : decode cX10_init 287 = .ok (.iastore, 1) := by decide +kernel
theorem dX10_init_288 : decode cX10_init 288 = .ok (.dup, 1) := by decide +kernel
theorem dX10_init_289 : decode cX10_init 289 = .ok (.bipush 12, 2) := by decide +kernel
theorem dX10_init_291 : decode cX10_init 291 = .ok (.iconst 0, 1) := by decide +kernel
theorem dX10_init_292 : decode cX10_init 292 = .ok (.iastore, 1) := by decide +kernel
theorem dX10_init_293 : decode cX10_init 293 = .ok (.dup, 1) := by decide +kernel
theorem dX10_init_294 : decode cX10_init 294 = .ok (.bipush 13, 2) := by decide +kernel
theorem dX10_init_296 : decode cX10_init 296 = .ok (.bipush 10, 2) := by decide +kernel
theorem dX10_init_298 : decode cX10_init 298 = .ok (.iastore, 1) := by decide +kernel
theorem dX10_init_299 : decode cX10_init 299 = .ok (.dup, 1) := by decide +kernel
theorem dX10_init_300 : decode cX10_init 300 = .ok (.bipush 14, 2) := by decide +kernel
theorem dX10_init_302 : decode cX10_init 302 = .ok (.iconst 1, 1) := by decide +kernel
theorem dX10_init_303 : decode cX10_init 303 = .ok (.iastore, 1) := by decide +kernel
theorem dX10_init_304 : decode cX10_init 304 = .ok (.dup, 1) := by decide +kernel
theorem dX10_init_305 : decode cX10_init 305 = .ok (.bipush 15, 2) := by decide +kernel
theorem dX10_init_307 : decode cX10_init 307 = .ok (.iconst 0, 1) := by decide +kernel
theorem dX10_init_308 : decode cX10_init 308 = .ok (.iastore, 1) := by decide +kernel
theorem dX10_init_309 : decode cX10_init 309 = .ok (.dup, 1) := by decide +kernel
theorem dX10_init_310 : decode cX10_init 310 = .ok (.bipush 16, 2) := by decide +kernel
theorem dX10_init_312 : decode cX10_init 312 = .ok (.iconst 0, 1) := by decide +kernel
theorem dX10_init_313 : decode cX10_init 313 = .ok (.iastore, 1) := by decide +kernel
theorem dX10_init_314 : decode cX10_init 314 = .ok (.putfield 33, 3) := by decide +kernel
theorem dX10_init_317 : decode cX10_init 317 = .ok (.aload_n 0, 1) := by decide +kernel
theorem dX10_init_318 : decode cX10_init 318 = .ok (.bipush 60, 2) := by decide +kernel
theorem dX10_init_320 : decode cX10_init 320 = .ok (.newarray .byte, 2) := by decide +kernel
theorem dX10_init_322 : decode cX10_init 322 = .ok (.putfield 36, 3) := by decide +kernel
theorem dX10_init_325 : decode cX10_init 325 = .ok (.aload_n 0, 1) := by decide +kernel
theorem dX10_init_326 : decode cX10_init 326 = .ok (.iconst (-1), 1) := by decide +kernel
theorem dX10_init_327 : decode cX10_init 327 = .ok (.putfield 40, 3) := by decide +kernel
theorem dX10_init_330 : decode cX10_init 330 = .ok (.aload_n 0, 1) := by decide +kernel
theorem dX10_init_331 : decode cX10_init 331 = .ok (.iconst (-1), 1) := by decide +kernel
theorem dX10_init_332 : decode cX10_init 332 = .ok (.putfield 43, 3) := by decide +kernel
theorem dX10_init_335 : decode cX10_init 335 = .ok (.aload_n 0, 1) := by decide +kernel
theorem dX10_init_336 : decode cX10_init 336 = .ok (.bipush 48, 2) := by decide +kernel
theorem dX10_init_338 : decode cX10_init 338 = .ok (.newarray .int, 2) := by decide +kernel
theorem dX10_init_340 : decode cX10_init 340 = .ok (.putfield 46, 3) := by decide +kernel
theorem dX10_init_343 : decode cX10_init 343 = .ok (.aload_n 0, 1) := by decide +kernel
theorem dX10_init_344 : decode cX10_init 344 = .ok (.sipush 426, 3) := by decide +kernel
theorem dX10_init_347 : decode cX10_init 347 = .ok (.newarray .int, 2) := by decide +kernel
theorem dX10_init_349 : decode cX10_init 349 = .ok (.putfield 49, 3) := by decide +kernel
theorem dX10_init_352 : decode cX10_init 352 = .ok (.iconst 0, 1) := by decide +kernel
theorem dX10_init_353 : decode cX10_init 353 = .ok (.istore_n 1, 1) := by decide +kernel
theorem dX10_init_354 : decode cX10_init 354 = .ok (.iload_n 1, 1) := by decide +kernel
theorem dX10_init_355 : decode cX10_init 355 = .ok (.bipush 17, 2) := by decide +kernel
theorem dX10_init_357 : decode cX10_init 357 = .ok (.if_icmp .ge 24, 3) := by decide +kernel
theorem dX10_init_360 : decode cX10_init 360 = .ok (.aload_n 0, 1) := by decide +kernel
theorem dX10_init_361 : decode cX10_init 361 = .ok (.getfield 13, 3) := by decide +kernel
theorem dX10_init_364 : decode cX10_init 364 = .ok (.bipush 27, 2) := by decide +kernel
theorem dX10_init_366 : decode cX10_init 366 = .ok (.iload_n 1, 1) := by decide +kernel
theorem dX10_init_367 : decode cX10_init 367 = .ok (.iadd, 1) := by decide +kernel
theorem dX10_init_368 : decode cX10_init 368 = .ok (.aload_n 0, 1) := by decide +kernel
theorem dX10_init_369 : decode cX10_init 369 = .ok (.getfield 33, 3) := by decide +kernel
theorem dX10_init_372 : decode cX10_init 372 = .ok (.iload_n 1, 1) := by decide +kernel
theorem dX10_init_373 : decode cX10_init 373 = .ok (.iaload, 1) := by decide +kernel
theorem dX10_init_374 : decode cX10_init 374 = .ok (.iastore, 1) := by decide +kernel
theorem dX10_init_375 : decode cX10_init 375 = .ok (.iinc 1 1, 3) := by decide +kernel
theorem dX10_init_378 : decode cX10_init 378 = .ok (.goto (-24), 3) := by decide +kernel
theorem dX10_init_381 : decode cX10_init 381 = .ok (.aload_n 0, 1) := by decide +kernel
theorem dX10_init_382 : decode cX10_init 382 = .ok (.bipush 8, 2) := by decide +kernel
theorem dX10_init_384 : decode cX10_init 384 = .ok (.invokevirtual 52, 3) := by decide +kernel
theorem dX10_init_387 : decode cX10_init 387 = .ok (.return_, 1) := by decide +kernel
theorem byte_cls {Dg : va_G} {cA : Nat → ClassId} {cB : ClassId} {s : State} (h : va_K Dg vwCl (tyA cA ++ [(cB, .byte)]) s) : cB = cA 1 := by
  have h1 : s.vm.findClass ("[" ++ FieldType.byte.toString) = some (cA 1) := (h.2 1 (cA 1, .byte) rfl).2
  have h2 : s.vm.findClass ("[" ++ FieldType.byte.toString) = some cB := (h.2 4 (cB, .byte) rfl).2
  exact Option.some.inj (h2.symm.trans h1)
theorem bool_cls {Dg : va_G} {cA : Nat → ClassId} {cB : ClassId} {s : State} (h : va_K Dg vwCl (tyA cA ++ [(cB, .boolean)]) s) : cB = cA 2 := by
  have h1 : s.vm.findClass ("[" ++ FieldType.boolean.toString) = some (cA 2) := (h.2 2 (cA 2, .boolean) rfl).2
  have h2 : s.vm.findClass ("[" ++ FieldType.boolean.toString) = some cB := (h.2 4 (cB, .boolean) rfl).2
  exact Option.some.inj (h2.symm.trans h1)
def lowF : Nat → Int32 := (upd (upd (upd (upd (upd (upd (upd (upd (upd (upd (upd (upd (upd (upd (upd (upd (upd (fun _ => (0 : Int32)) 0 1) 1 1) 2 0) 3 1) 4 1) 5 4) 6 1) 7 4) 8 1) 9 1) 10 1) 11 1) 12 0) 13 0) 14 0) 15 0) 16 0)
def highF : Nat → Int32 := (upd (upd (upd (upd (upd (upd (upd (upd (upd (upd (upd (upd (upd (upd (upd (upd (upd (fun _ => (0 : Int32)) 0 999) 1 2) 2 5) 3 8) 4 99) 5 999) 6 9) 7 99) 8 9) 9 8) 10 9) 11 8) 12 8) 13 100) 14 1) 15 1) 16 2)
def firstF : Nat → Int32 := (upd (upd (upd (upd (upd (upd (upd (upd (upd (upd (upd (upd (upd (upd (upd (upd (upd (fun _ => (0 : Int32)) 0 24) 1 1) 2 0) 3 2) 4 4) 5 64) 6 1) 7 16) 8 1) 9 1) 10 1) 11 1) 12 0) 13 10) 14 1) 15 0) 16 0)
def fM : Nat → Nat → Int32
  | 0 => fun _ => 0
  | i + 1 => upd (fM i) (27 + i) (firstF i)
def adM (ad : Ad → Nat) (h0 : Nat) (u : Nat → Nat) : Ad → Nat := fun q => match q.1 with
  | 2 => match q.2.2 with
    | 0 => h0
    | o => u o
  | _ => ad q
def muM (f : Nat → Int32) : Mm := fun q => match q.2.2 with
  | 0 => fun k => match k with
    | 16 => -1
    | 18 => -1
    | _ => 0
  | 1 => f
  | 5 => lowF
  | 6 => highF
  | 7 => firstF
  | _ => fun _ => 0
/-- the reference's cells, new -/
abbrev mdw (cA : Nat → ClassId) (h0 : Nat) (u : Nat → Nat) (f : Nat → Int32) : va_W := [(h0, (Sum.inr (10, [.int 0, .ref (u 1), .ref (u 2), .ref (u 3), .int 0, .ref (u 4), .ref (u 5), .ref (u 6), .ref (u 7), .int 0, .int 0, .ref (u 8), .int 0, .int 0, .int 0, .int 0, .int (-1), .int 0, .int (-1), .ref (u 9), .int 0, .int 0, .int 0, .int 0, .ref (u 10), .int 0, .int 0, .int 0]) : va_E)), ((u 1), (Sum.inl (cA 0, 1278, Sum.inl f) : va_E)), ((u 2), (Sum.inl (cA 0, 4260, Sum.inl (fun _ => (0 : Int32))) : va_E)), ((u 3), (Sum.inl (cA 0, 426, Sum.inl (fun _ => (0 : Int32))) : va_E)), ((u 4), (Sum.inl (cA 2, 2, Sum.inl (fun _ => (0 : Int32))) : va_E)), ((u 5), (Sum.inl (cA 0, 17, Sum.inl lowF) : va_E)), ((u 6), (Sum.inl (cA 0, 17, Sum.inl highF) : va_E)), ((u 7), (Sum.inl (cA 0, 17, Sum.inl firstF) : va_E)), ((u 8), (Sum.inl (cA 1, 60, Sum.inl (fun _ => (0 : Int32))) : va_E)), ((u 9), (Sum.inl (cA 0, 48, Sum.inl (fun _ => (0 : Int32))) : va_E)), ((u 10), (Sum.inl (cA 0, 426, Sum.inl (fun _ => (0 : Int32))) : va_E))]
set_option maxRecDepth 100000 in
theorem wlM {ad : Ad → Nat} {cA : Nat → ClassId} {h0 : Nat} {u : Nat → Nat} {f : Nat → Int32} : wl (adM ad h0 u) cA WLM (muM f) = mdw cA h0 u f := rfl
theorem lay2_lt {o : Nat} (h : (lay2 o).1 ≤ 110) : o < 11 ∧ (lay2 o).1 < 110 := by
  unfold lay2 at h ⊢
  split at h <;> first | exact ⟨by omega, by decide⟩ | exact absurd h (by decide)
theorem LYM_lt {q : Ad} (h : (LYM q).1 ≤ 110) : (q ∈ WLM ∧ LYM q = LAY q ∧ (LYM q).1 < 110) ∨ ((q = (3, 0, 1) ∨ q = (3, 0, 2) ∨ q = (3, 0, 3)) ∧ LYM q = (110, 17)) := by
  obtain ⟨a, j, o⟩ := q
  by_cases e : a = 2
  · subst e
    by_cases e0 : j.val = 0
    · have ej : j = 0 := Fin.ext e0
      subst ej
      have h : (lay2 o).1 ≤ 110 := h
      obtain ⟨h1, h2⟩ := lay2_lt h
      exact Or.inl ⟨List.mem_map.mpr ⟨o, List.mem_range.mpr h1, rfl⟩, rfl, h2⟩
    · exfalso
      have : LYM (2, j, o) = (999, 0) := by
        obtain ⟨v, hv⟩ := j
        cases v with
        | zero => exact absurd rfl e0
        | succ v => rfl
      rw [this] at h
      exact absurd h (by decide)
  · have : LYM (a, j, o) = LY0 (a, j, o) := by
      rcases a with _ | _ | _ | a
      · rfl
      · rfl
      · exact absurd rfl e
      · rfl
    rw [this] at h ⊢
    exact Or.inr (LY0_lt h)
theorem LYM_st {ad : Ad → Nat} {cA : Nat → ClassId} {B1 h0 : Nat} {S : Ad → Nat → Int32} {u : Nat → Nat} {f : Nat → Int32} (h : ∀ x, ad (3, 0, x) < B1) (hD : va_D (fun q => B1 ≤ q) (mdw cA h0 u f)) : Stc (adM ad h0 u) cA B1 (LYM, S) WLM := by
  refine ⟨fun q hq => ?_, fun q hq => ?_, fun μ => D_addr hD (by rw [← wlM (ad := ad)]; exact wl_addr)⟩
  · rcases LYM_lt (q := q) (Nat.le_of_lt hq) with ⟨h1, h2, h3⟩ | ⟨h1, h2⟩
    · exact ⟨h2, h1⟩
    · have hq : (LYM q).1 < 110 := hq
      rw [h2] at hq
      exact absurd hq (by decide)
  · rcases LYM_lt (q := q) (Nat.le_of_eq hq) with ⟨h1, h2, h3⟩ | ⟨h1, h2⟩
    · have hq : (LYM q).1 = 110 := hq
      omega
    · rcases h1 with rfl | rfl | rfl <;> exact h _
theorem Ust.toM {ad : Ad → Nat} {B0 B1 h0 : Nat} {S : Ad → Nat → Int32} {Dg : va_G} {cA : Nat → ClassId} {U : State} {u : Nat → Nat} (h : Ust ad B0 (LY0, S) Dg cA U) (hB : B0 ≤ B1) (h1 : B1 ≤ U.heap.size) : Ust (adM ad h0 u) B1 (LYM, S) Dg cA U := by
  obtain ⟨a1, a2, a3, a4, a5⟩ := h
  refine ⟨h1, a2, fun q hq => ?_, fun x hx => (a4 x hx).narrow (fun q z => Nat.le_trans hB z), a5⟩
  rcases LYM_lt (q := q) (Nat.le_of_eq hq) with ⟨b1, b2, b3⟩ | ⟨b1, b2⟩
  · have hq : (LYM q).1 = 110 := hq
    omega
  · have e : ((LYM, S) : LT).1 q = (110, 17) := b2
    rw [e]
    rcases b1 with rfl | rfl | rfl <;> exact a3 _ rfl
set_option maxHeartbeats 4000000 in
theorem call_voidP {p : Program} {l : Launch} {e : Env} {R : Room} {s : State} {m : MethodId} {args : Array Value} {below : List Frame} {meth : Method} {c : Code} {H : Heap} {locs : List Loc} {cells slots d ml : Nat} {Q : State → Prop} {cc bytes : ByteArray} {nL pc ix : Nat} {own : String} {ls : Array Slot} {rest : List Value} {A : Nat → Prop} {Dg : va_G} {cA : Nat → ClassId} {ad : Ad → Nat} {B1 : Nat} {WL : List Ad} {T : LT} {μ : Mm} {v : Rz} {y : MethodName} {q : Ad} {as : List AV}
    (hM : Met l y (.code y bytes ml none :: GT) (rmD d) (mxPc ad B1 WL T Dg cA (vR q :: as) μ) (mxQ ad B1 WL Dg cA none v) 0 0 (fun a => B1 ≤ a))
    (hx : p.tables.exec = Jvm.exec) (hb : c.code = cc) (hml : c.maxLocals = nL) (hown : s.vm.findClass own = some m.cls) (hts : ∀ w ∈ GT, w.before args s = true)
    (hPt : va_P Dg vwCl (wl ad cA WL μ) H) (hUU : ∀ U : State, U.heap = H → s.WarmedH U.vm → Ust ad B1 T Dg cA U) (hrec : ∃ cell : Cell, H[ad q]? = some cell ∧ cell.vm.isStatics = false ∧ s.vm.findClass y.cls = some cell.cls)
    (hS : va_S A s.heap H locs) (hA : ∀ a : Nat, B1 ≤ a → A a) (f3 : Cond.code y bytes ml none ∈ GT) (f4 : Cond.initialized y.cls ∈ GT) (f5 : y.cls ≠ "java/lang/invoke/MethodHandle" ∧ y.cls ≠ "java/lang/invoke/VarHandle") (f6 : Cond.instanceMethod y ∈ GT) (f7 : Cond.selects y.cls y y ∈ GT) (hpd : (parseMethodDescriptor y.desc).map (fun d => d.parameters.length) = some as.length) (h8 : Cond.methodLink own ix y ∈ GT)
    (hRf : (rmD d).frames + 1 ≤ R.frames) (hRl : 8 + (ml + 11) + (rmD d).locals ≤ R.locals) (hc : cells ≤ R.cells) (hs : slots ≤ R.slots) (hrm : (rest.map fun v => v.category).sum ≤ 8) (hsz : ls.size = nL) (d1 : decode cc pc = .ok (.invokevirtual ix, 3))
    (kk : ∀ (H1 : Heap) (locs1 : List Loc), va_P Dg vwCl (wl ad cA WL v.2) H1 → (∀ a : Nat, a < H.size → ¬ B1 ≤ a → H1[a]? = H[a]?) → va_S A s.heap H1 locs1 → W p l e R s m args below meth c H1 locs1 cells slots Q (F0 m (pc + 3) ls rest)) : W p l e R s m args below meth c H locs cells slots Q (F0 m pc ls ((as.map (sh ad)).reverse ++ .ref (ad q) :: rest)) := by
  have hpre : PreV s H y.cls (ad q) (mxPc ad B1 WL T Dg cA (vR q :: as) μ) (as.map (sh ad)) := ⟨mxPc_blind, hrec, fun U hU1 hW => ⟨rfl, by rw [hU1]; exact hPt, hUU U hU1 hW⟩⟩
  have hG : GoodIn GT (wsV own ix y.cls y (.code y bytes ml none :: GT)) := fun w hw1 => by
    rcases List.mem_append.mp hw1 with z | z
    · simp only [List.mem_cons, List.not_mem_nil, or_false] at z
      rcases z with rfl | rfl | rfl | rfl
      · exact ⟨h8, GT_good h8⟩
      · exact ⟨f6, GT_good f6⟩
      · exact ⟨f7, GT_good f7⟩
      · exact ⟨f4, GT_good f4⟩
    · exact GT_in f3 w z
  have hlen : (as.map (sh ad)).length = as.length := List.length_map _
  have hrun := va_runV (C := y.cls) (e := e) (below := below) (meth := meth) (locs := locs) (cells := cells) (slots := slots) ⟨hx, hb, hml, hown, hts⟩ hM (cwV as.length hts hG rfl rfl rfl ⟨rfl, f5.1, f5.2, hpd⟩ ⟨hRf, hRl⟩) hpre (g := F0 m pc ls ((as.map (sh ad)).reverse ++ .ref (ad q) :: rest)) (rest := rest) rfl hlen hsz rfl (lv_room hrm) d1 ⟨hc, hs⟩
  refine va_callv (a := (Value.ref (ad q) :: as.map (sh ad)).toArray) hrun hS (fun q _ h => hA q h) (fun q h => hA q h) (fun _ t H1 locs1 ht hvm h5 hB hz1 hk1 hS => ?_)
  rw [ht] at hB
  exact kk H1 locs1 hB hk1 hS
set_option maxHeartbeats 4000000 in
set_option maxRecDepth 100000 in
theorem mloop {p : Program} {l : Launch} {e : Env} {R : Room} {s : State} {m : MethodId} {args : Array Value} {below : List Frame} {meth : Method} {c : Code} {cells slots : Nat} {Q : State → Prop} {Dg : va_G} {cA : Nat → ClassId} {A : Nat → Prop} {h0 : Nat} {u : Nat → Nat} (hx : p.tables.exec = Jvm.exec) (hb : c.code = cX10_init) (hown : s.vm.findClass RX10 = some m.cls) (hts : ∀ w ∈ GT, w.before args s = true) (hK : va_K Dg vwCl (tyA cA) s)
    (kk : ∀ (H : Heap) (locs : List Loc) (ls : Array Slot), lv_has ls 2 [(1, .int (nI 17)), (0, .ref h0)] → va_P Dg vwCl (mdw cA h0 u (fM 17)) H → va_D A (mdw cA h0 u (fM 17)) → va_S A s.heap H locs → W p l e R s m args below meth c H locs cells slots Q (F0 m 381 ls [])) :
    ∀ (mm i : Nat) (H : Heap) (locs : List Loc) (ls : Array Slot), i + mm = 17 → lv_has ls 2 [(1, .int (nI i)), (0, .ref h0)] → va_P Dg vwCl (mdw cA h0 u (fM i)) H → va_D A (mdw cA h0 u (fM i)) → va_S A s.heap H locs → W p l e R s m args below meth c H locs cells slots Q (F0 m 354 ls []) := by
  have le_i : ∀ (a b : Nat), a < 2 ^ 31 → b < 2 ^ 31 → (nI a ≤ nI b ↔ a ≤ b) := fun a b ha hb => by
    rw [Int32.le_iff_toInt_le, nI_toInt ha, nI_toInt hb]
    omega
  intro mm
  induction mm with
  | zero =>
    intro i H locs ls hi hl hP hD hS
    have hi : i = 17 := by omega
    subst hi
    refine lv_iload_n hx hb dX10_init_354 rfl (lv_at hl 0 rfl) ?_
    refine lv_bipush hx hb dX10_init_355 (v := nI 17) (by decide) ?_
    refine lv_icmp_ge hx hb dX10_init_357 (tgt := 381) (by decide) (fun _ => ?_) (fun h => absurd ((le_i 17 17 (by decide) (by decide)).mpr (Nat.le_refl _)) h)
    exact kk H locs ls hl hP hD hS
  | succ mm ih =>
    intro i H locs ls hi hl hP hD hS
    refine lv_iload_n hx hb dX10_init_354 rfl (lv_at hl 0 rfl) ?_
    refine lv_bipush hx hb dX10_init_355 (v := nI 17) (by decide) ?_
    refine lv_icmp_ge hx hb dX10_init_357 (tgt := 381) (by decide) (fun h => absurd ((le_i 17 i (by decide) (by omega)).mp h) (by omega)) (fun _ => ?_)
    refine lv_aload_n hx hb dX10_init_360 rfl (lv_at hl 1 rfl) ?_
    refine va_get (D := Dg) (ci := 10) (C := RX10) (T := TX10) (N := 28) hx hb hts (mx_in (ci := 10) rfl) hown hK hP 0 rfl rfl 1 (by decide) (hts (.fieldLink RX10 13 "RowGuardModel" "all" "[I") (wOK_in (h := 40221) (by decide +kernel))) (fun _ h9 => h9) rfl dX10_init_361 ?_
    refine lv_bipush hx hb dX10_init_364 (v := nI 27) (by decide) ?_
    refine lv_iload_n hx hb dX10_init_366 rfl (lv_at hl 0 rfl) ?_
    refine lv_iadd hx hb dX10_init_367 ?_
    refine lv_aload_n hx hb dX10_init_368 rfl (lv_at hl 1 rfl) ?_
    refine va_get (D := Dg) (ci := 10) (C := RX10) (T := TX10) (N := 28) hx hb hts (mx_in (ci := 10) rfl) hown hK hP 0 rfl rfl 8 (by decide) (hts (.fieldLink RX10 33 "RowGuardModel" "firstTerm" "[I") (wOK_in (h := 40228) (by decide +kernel))) (fun _ h9 => h9) rfl dX10_init_369 ?_
    refine lv_iload_n hx hb dX10_init_372 rfl (lv_at hl 0 rfl) ?_
    refine va_iald hx hb hK hP 7 0 rfl rfl (inb_vp (inb_n (show i < 17 by omega) (by decide))) dX10_init_373 ?_
    rw [nI_clamp (show i < 2 ^ 31 by omega), show nI 27 + nI i = nI (27 + i) from nI_add 27 i]
    refine va_iast hx hb hK hP hD hS 1 0 rfl rfl (inb_vp (inb_n (show 27 + i < 1278 by omega) (by decide))) dX10_init_374 (fun H locs hP hD hS => ?_)
    rw [nI_clamp (show 27 + i < 2 ^ 31 by omega)] at hP hD
    have hP : va_P Dg vwCl (mdw cA h0 u (fM (i + 1))) H := hP
    have hD : va_D A (mdw cA h0 u (fM (i + 1))) := hD
    refine lv_iinc (k := 0) hx hb dX10_init_375 hl rfl (nI_1 i) (by decide) rfl (fun ls hl => ?_)
    refine lv_goto hx hb dX10_init_378 (tgt := 354) (by decide) ?_
    exact ih (i + 1) H locs ls (by omega) hl hP hD hS
def geq (h0 : Nat) : Nat → Prop := fun q => h0 ≤ q
