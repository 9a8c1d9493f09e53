theorem dX12_send_72 : decode cX12_send 72 = .ok (.if_icmp .ge 87, 3) := by decide +kernel
theorem dX12_send_75 : decode cX12_send 75 = .ok (.aload_n 0, 1) := by decide +kernel
theorem dX12_send_76 : decode cX12_send 76 = .ok (.getfield 193, 3) := by decide +kernel
theorem dX12_send_79 : decode cX12_send 79 = .ok (.iload 6, 2) := by decide +kernel
theorem dX12_send_81 : decode cX12_send 81 = .ok (.iconst 0, 1) := by decide +kernel
theorem dX12_send_82 : decode cX12_send 82 = .ok (.iastore, 1) := by decide +kernel
theorem dX12_send_83 : decode cX12_send 83 = .ok (.iconst 0, 1) := by decide +kernel
theorem dX12_send_84 : decode cX12_send 84 = .ok (.istore 7, 2) := by decide +kernel
theorem dX12_send_86 : decode cX12_send 86 = .ok (.iload 7, 2) := by decide +kernel
theorem dX12_send_88 : decode cX12_send 88 = .ok (.aload_n 0, 1) := by decide +kernel
theorem dX12_send_89 : decode cX12_send 89 = .ok (.getfield 227, 3) := by decide +kernel
theorem dX12_send_92 : decode cX12_send 92 = .ok (.if_icmp .ge 61, 3) := by decide +kernel
theorem dX12_send_95 : decode cX12_send 95 = .ok (.iload 6, 2) := by decide +kernel
theorem dX12_send_97 : decode cX12_send 97 = .ok (.iload 7, 2) := by decide +kernel
theorem dX12_send_99 : decode cX12_send 99 = .ok (.if_icmp .eq 48, 3) := by decide +kernel
theorem dX12_send_102 : decode cX12_send 102 = .ok (.aload_n 0, 1) := by decide +kernel
theorem dX12_send_103 : decode cX12_send 103 = .ok (.getfield 75, 3) := by decide +kernel
theorem dX12_send_106 : decode cX12_send 106 = .ok (.iload 6, 2) := by decide +kernel
theorem dX12_send_108 : decode cX12_send 108 = .ok (.iaload, 1) := by decide +kernel
theorem dX12_send_109 : decode cX12_send 109 = .ok (.iload 7, 2) := by decide +kernel
theorem dX12_send_111 : decode cX12_send 111 = .ok (.ishr, 1) := by decide +kernel
theorem dX12_send_112 : decode cX12_send 112 = .ok (.iconst 1, 1) := by decide +kernel
theorem dX12_send_113 : decode cX12_send 113 = .ok (.iand, 1) := by decide +kernel
theorem dX12_send_114 : decode cX12_send 114 = .ok (.iconst 1, 1) := by decide +kernel
theorem dX12_send_115 : decode cX12_send 115 = .ok (.if_icmp .ne 32, 3) := by decide +kernel
theorem dX12_send_118 : decode cX12_send 118 = .ok (.aload_n 0, 1) := by decide +kernel
theorem dX12_send_119 : decode cX12_send 119 = .ok (.iload 6, 2) := by decide +kernel
theorem dX12_send_121 : decode cX12_send 121 = .ok (.iload 7, 2) := by decide +kernel
theorem dX12_send_123 : decode cX12_send 123 = .ok (.iload_n 3, 1) := by decide +kernel
theorem dX12_send_124 : decode cX12_send 124 = .ok (.iload 4, 2) := by decide +kernel
theorem dX12_send_126 : decode cX12_send 126 = .ok (.invokevirtual 341, 3) := by decide +kernel
theorem dX12_send_129 : decode cX12_send 129 = .ok (.iconst 2, 1) := by decide +kernel
theorem dX12_send_130 : decode cX12_send 130 = .ok (.if_icmp .ne 17, 3) := by decide +kernel
theorem dX12_send_133 : decode cX12_send 133 = .ok (.aload_n 0, 1) := by decide +kernel
theorem dX12_send_134 : decode cX12_send 134 = .ok (.getfield 193, 3) := by decide +kernel
theorem dX12_send_137 : decode cX12_send 137 = .ok (.iload 6, 2) := by decide +kernel
theorem dX12_send_139 : decode cX12_send 139 = .ok (.dup2, 1) := by decide +kernel
theorem dX12_send_140 : decode cX12_send 140 = .ok (.iaload, 1) := by decide +kernel
theorem dX12_send_141 : decode cX12_send 141 = .ok (.iconst 1, 1) := by decide +kernel
theorem dX12_send_142 : decode cX12_send 142 = .ok (.iload 7, 2) := by decide +kernel
theorem dX12_send_144 : decode cX12_send 144 = .ok (.ishl, 1) := by decide +kernel
theorem dX12_send_145 : decode cX12_send 145 = .ok (.ior, 1) := by decide +kernel
theorem dX12_send_146 : decode cX12_send 146 = .ok (.iastore, 1) := by decide +kernel
theorem dX12_send_147 : decode cX12_send 147 = .ok (.iinc 7 1, 3) := by decide +kernel
theorem dX12_send_150 : decode cX12_send 150 = .ok (.goto (-64), 3) := by decide +kernel
theorem dX12_send_153 : decode cX12_send 153 = .ok (.iinc 6 1, 3) := by decide +kernel
theorem dX12_send_156 : decode cX12_send 156 = .ok (.goto (-90), 3) := by decide +kernel
theorem dX12_send_159 : decode cX12_send 159 = .ok (.iconst 0, 1) := by decide +kernel
theorem dX12_send_160 : decode cX12_send 160 = .ok (.istore 6, 2) := by decide +kernel
theorem dX12_send_162 : decode cX12_send 162 = .ok (.iload 6, 2) := by decide +kernel
theorem dX12_send_164 : decode cX12_send 164 = .ok (.bipush 120, 2) := by decide +kernel
theorem dX12_send_166 : decode cX12_send 166 = .ok (.if_icmp .ge 25, 3) := by decide +kernel
theorem dX12_send_169 : decode cX12_send 169 = .ok (.aload_n 0, 1) := by decide +kernel
theorem dX12_send_170 : decode cX12_send 170 = .ok (.getfield 172, 3) := by decide +kernel
theorem dX12_send_173 : decode cX12_send 173 = .ok (.iload 6, 2) := by decide +kernel
theorem dX12_send_175 : decode cX12_send 175 = .ok (.iconst (-1), 1) := by decide +kernel
theorem dX12_send_176 : decode cX12_send 176 = .ok (.iastore, 1) := by decide +kernel
theorem dX12_send_177 : decode cX12_send 177 = .ok (.aload_n 0, 1) := by decide +kernel
theorem dX12_send_178 : decode cX12_send 178 = .ok (.getfield 181, 3) := by decide +kernel
theorem dX12_send_181 : decode cX12_send 181 = .ok (.iload 6, 2) := by decide +kernel
theorem dX12_send_183 : decode cX12_send 183 = .ok (.iconst 0, 1) := by decide +kernel
theorem dX12_send_184 : decode cX12_send 184 = .ok (.iastore, 1) := by decide +kernel
theorem dX12_send_185 : decode cX12_send 185 = .ok (.iinc 6 1, 3) := by decide +kernel
theorem dX12_send_188 : decode cX12_send 188 = .ok (.goto (-26), 3) := by decide +kernel
theorem dX12_send_191 : decode cX12_send 191 = .ok (.iconst 0, 1) := by decide +kernel
theorem dX12_send_192 : decode cX12_send 192 = .ok (.istore 6, 2) := by decide +kernel
theorem dX12_send_194 : decode cX12_send 194 = .ok (.iload 6, 2) := by decide +kernel
theorem dX12_send_196 : decode cX12_send 196 = .ok (.bipush 12, 2) := by decide +kernel
theorem dX12_send_198 : decode cX12_send 198 = .ok (.if_icmp .ge 33, 3) := by decide +kernel
theorem dX12_send_201 : decode cX12_send 201 = .ok (.aload_n 0, 1) := by decide +kernel
theorem dX12_send_202 : decode cX12_send 202 = .ok (.getfield 184, 3) := by decide +kernel
theorem dX12_send_205 : decode cX12_send 205 = .ok (.iload 6, 2) := by decide +kernel
theorem dX12_send_207 : decode cX12_send 207 = .ok (.iconst 0, 1) := by decide +kernel
theorem dX12_send_208 : decode cX12_send 208 = .ok (.iastore, 1) := by decide +kernel
theorem dX12_send_209 : decode cX12_send 209 = .ok (.aload_n 0, 1) := by decide +kernel
theorem dX12_send_210 : decode cX12_send 210 = .ok (.getfield 187, 3) := by decide +kernel
theorem dX12_send_213 : decode cX12_send 213 = .ok (.iload 6, 2) := by decide +kernel
theorem dX12_send_215 : decode cX12_send 215 = .ok (.iconst (-1), 1) := by decide +kernel
theorem dX12_send_216 : decode cX12_send 216 = .ok (.iastore, 1) := by decide +kernel
theorem dX12_send_217 : decode cX12_send 217 = .ok (.aload_n 0, 1) := by decide +kernel
theorem dX12_send_218 : decode cX12_send 218 = .ok (.getfield 190, 3) := by decide +kernel
theorem dX12_send_221 : decode cX12_send 221 = .ok (.iload 6, 2) := by decide +kernel
theorem dX12_send_223 : decode cX12_send 223 = .ok (.iconst 0, 1) := by decide +kernel
theorem dX12_send_224 : decode cX12_send 224 = .ok (.iastore, 1) := by decide +kernel
theorem dX12_send_225 : decode cX12_send 225 = .ok (.iinc 6 1, 3) := by decide +kernel
theorem dX12_send_228 : decode cX12_send 228 = .ok (.goto (-34), 3) := by decide +kernel
theorem dX12_send_231 : decode cX12_send 231 = .ok (.aload_n 0, 1) := by decide +kernel
theorem dX12_send_232 : decode cX12_send 232 = .ok (.iconst 1, 1) := by decide +kernel
theorem dX12_send_233 : decode cX12_send 233 = .ok (.putfield 233, 3) := by decide +kernel
theorem dX12_send_236 : decode cX12_send 236 = .ok (.aload_n 0, 1) := by decide +kernel
theorem dX12_send_237 : decode cX12_send 237 = .ok (.iconst 0, 1) := by decide +kernel
theorem dX12_send_238 : decode cX12_send 238 = .ok (.putfield 492, 3) := by decide +kernel
theorem dX12_send_241 : decode cX12_send 241 = .ok (.aload_n 0, 1) := by decide +kernel
theorem dX12_send_242 : decode cX12_send 242 = .ok (.iconst 0, 1) := by decide +kernel
theorem dX12_send_243 : decode cX12_send 243 = .ok (.putfield 495, 3) := by decide +kernel
theorem dX12_send_246 : decode cX12_send 246 = .ok (.aload_n 0, 1) := by decide +kernel
theorem dX12_send_247 : decode cX12_send 247 = .ok (.iconst 0, 1) := by decide +kernel
theorem dX12_send_248 : decode cX12_send 248 = .ok (.putfield 514, 3) := by decide +kernel
theorem dX12_send_251 : decode cX12_send 251 = .ok (.aload_n 0, 1) := by decide +kernel
theorem dX12_send_252 : decode cX12_send 252 = .ok (.iconst 0, 1) := by decide +kernel
theorem dX12_send_253 : decode cX12_send 253 = .ok (.putfield 523, 3) := by decide +kernel
theorem dX12_send_256 : decode cX12_send 256 = .ok (.aload_n 0, 1) := by decide +kernel
theorem dX12_send_257 : decode cX12_send 257 = .ok (.iconst 0, 1) := by decide +kernel
theorem dX12_send_258 : decode cX12_send 258 = .ok (.putfield 520, 3) := by decide +kernel
theorem dX12_send_261 : decode cX12_send 261 = .ok (.aload_n 0, 1) := by decide +kernel
theorem dX12_send_262 : decode cX12_send 262 = .ok (.iconst 0, 1) := by decide +kernel
theorem dX12_send_263 : decode cX12_send 263 = .ok (.putfield 508, 3) := by decide +kernel
theorem dX12_send_266 : decode cX12_send 266 = .ok (.aload_n 0, 1) := by decide +kernel
theorem dX12_send_267 : decode cX12_send 267 = .ok (.iload_n 1, 1) := by decide +kernel
theorem dX12_send_268 : decode cX12_send 268 = .ok (.iload_n 2, 1) := by decide +kernel
theorem dX12_send_269 : decode cX12_send 269 = .ok (.iconst 0, 1) := by decide +kernel
theorem dX12_send_270 : decode cX12_send 270 = .ok (.iconst (-1), 1) := by decide +kernel
theorem dX12_send_271 : decode cX12_send 271 = .ok (.iload_n 2, 1) := by decide +kernel
theorem dX12_send_272 : decode cX12_send 272 = .ok (.invokevirtual 526, 3) := by decide +kernel
theorem dX12_send_275 : decode cX12_send 275 = .ok (.aload_n 0, 1) := by decide +kernel
theorem dX12_send_276 : decode cX12_send 276 = .ok (.invokevirtual 529, 3) := by decide +kernel
theorem dX12_send_279 : decode cX12_send 279 = .ok (.istore 6, 2) := by decide +kernel
theorem dX12_send_281 : decode cX12_send 281 = .ok (.iload 6, 2) := by decide +kernel
theorem dX12_send_283 : decode cX12_send 283 = .ok (.iconst (-1), 1) := by decide +kernel
theorem dX12_send_284 : decode cX12_send 284 = .ok (.if_icmp .eq 25, 3) := by decide +kernel
theorem dX12_send_287 : decode cX12_send 287 = .ok (.aload_n 0, 1) := by decide +kernel
theorem dX12_send_288 : decode cX12_send 288 = .ok (.getfield 492, 3) := by decide +kernel
theorem dX12_send_291 : decode cX12_send 291 = .ok (.ifCond .ne 18, 3) := by decide +kernel
theorem dX12_send_294 : decode cX12_send 294 = .ok (.aload_n 0, 1) := by decide +kernel
theorem dX12_send_295 : decode cX12_send 295 = .ok (.iload 6, 2) := by decide +kernel
theorem dX12_send_297 : decode cX12_send 297 = .ok (.invokevirtual 532, 3) := by decide +kernel
theorem dX12_send_300 : decode cX12_send 300 = .ok (.aload_n 0, 1) := by decide +kernel
theorem dX12_send_301 : decode cX12_send 301 = .ok (.invokevirtual 529, 3) := by decide +kernel
theorem dX12_send_304 : decode cX12_send 304 = .ok (.istore 6, 2) := by decide +kernel
theorem dX12_send_306 : decode cX12_send 306 = .ok (.goto (-25), 3) := by decide +kernel
theorem dX12_send_309 : decode cX12_send 309 = .ok (.aload_n 0, 1) := by decide +kernel
theorem dX12_send_310 : decode cX12_send 310 = .ok (.getfield 492, 3) := by decide +kernel
theorem dX12_send_313 : decode cX12_send 313 = .ok (.ifCond .eq 8, 3) := by decide +kernel
theorem dX12_send_316 : decode cX12_send 316 = .ok (.bipush (-2), 2) := by decide +kernel
theorem dX12_send_318 : decode cX12_send 318 = .ok (.goto 7, 3) := by decide +kernel
theorem dX12_send_321 : decode cX12_send 321 = .ok (.aload_n 0, 1) := by decide +kernel
theorem dX12_send_322 : decode cX12_send 322 = .ok (.invokevirtual 535, 3) := by decide +kernel
theorem dX12_send_325 : decode cX12_send 325 = .ok (.ireturn, 1) := by decide +kernel
theorem dX12_heardPosts_0 : decode cX12_heardPosts 0 = .ok (.iconst 0, 1) := by decide +kernel
theorem dX12_heardPosts_1 : decode cX12_heardPosts 1 = .ok (.istore_n 1, 1) := by decide +kernel
theorem dX12_heardPosts_2 : decode cX12_heardPosts 2 = .ok (.iconst 0, 1) := by decide +kernel
theorem dX12_heardPosts_3 : decode cX12_heardPosts 3 = .ok (.istore_n 2, 1) := by decide +kernel
theorem dX12_heardPosts_4 : decode cX12_heardPosts 4 = .ok (.iload_n 2, 1) := by decide +kernel
theorem dX12_heardPosts_5 : decode cX12_heardPosts 5 = .ok (.aload_n 0, 1) := by decide +kernel
theorem dX12_heardPosts_6 : decode cX12_heardPosts 6 = .ok (.getfield 227, 3) := by decide +kernel
theorem dX12_heardPosts_9 : decode cX12_heardPosts 9 = .ok (.if_icmp .ge 63, 3) := by decide +kernel
theorem dX12_heardPosts_12 : decode cX12_heardPosts 12 = .ok (.iconst 0, 1) := by decide +kernel
theorem dX12_heardPosts_13 : decode cX12_heardPosts 13 = .ok (.istore_n 3, 1) := by decide +kernel
theorem dX12_heardPosts_14 : decode cX12_heardPosts 14 = .ok (.iconst 0, 1) := by decide +kernel
theorem dX12_heardPosts_15 : decode cX12_heardPosts 15 = .ok (.istore 4, 2) := by decide +kernel
theorem dX12_heardPosts_17 : decode cX12_heardPosts 17 = .ok (.iload 4, 2) := by decide +kernel
theorem dX12_heardPosts_19 : decode cX12_heardPosts 19 = .ok (.bipush 10, 2) := by decide +kernel
theorem dX12_heardPosts_21 : decode cX12_heardPosts 21 = .ok (.if_icmp .ge 33, 3) := by decide +kernel
theorem dX12_heardPosts_24 : decode cX12_heardPosts 24 = .ok (.iload_n 3, 1) := by decide +kernel
theorem dX12_heardPosts_25 : decode cX12_heardPosts 25 = .ok (.aload_n 0, 1) := by decide +kernel
theorem dX12_heardPosts_26 : decode cX12_heardPosts 26 = .ok (.getfield 172, 3) := by decide +kernel
theorem dX12_heardPosts_29 : decode cX12_heardPosts 29 = .ok (.bipush 10, 2) := by decide +kernel
theorem dX12_heardPosts_31 : decode cX12_heardPosts 31 = .ok (.iload_n 2, 1) := by decide +kernel
theorem dX12_heardPosts_32 : decode cX12_heardPosts 32 = .ok (.imul, 1) := by decide +kernel
theorem dX12_heardPosts_33 : decode cX12_heardPosts 33 = .ok (.iload 4, 2) := by decide +kernel
theorem dX12_heardPosts_35 : decode cX12_heardPosts 35 = .ok (.iadd, 1) := by decide +kernel
theorem dX12_heardPosts_36 : decode cX12_heardPosts 36 = .ok (.iaload, 1) := by decide +kernel
theorem dX12_heardPosts_37 : decode cX12_heardPosts 37 = .ok (.iconst (-1), 1) := by decide +kernel
theorem dX12_heardPosts_38 : decode cX12_heardPosts 38 = .ok (.if_icmp .eq 7, 3) := by decide +kernel
theorem dX12_heardPosts_41 : decode cX12_heardPosts 41 = .ok (.iconst 1, 1) := by decide +kernel
theorem dX12_heardPosts_42 : decode cX12_heardPosts 42 = .ok (.goto 4, 3) := by decide +kernel
theorem dX12_heardPosts_45 : decode cX12_heardPosts 45 = .ok (.iconst 0, 1) := by decide +kernel
theorem dX12_heardPosts_46 : decode cX12_heardPosts 46 = .ok (.ior, 1) := by decide +kernel
theorem dX12_heardPosts_47 : decode cX12_heardPosts 47 = .ok (.istore_n 3, 1) := by decide +kernel
theorem dX12_heardPosts_48 : decode cX12_heardPosts 48 = .ok (.iinc 4 1, 3) := by decide +kernel
theorem dX12_heardPosts_51 : decode cX12_heardPosts 51 = .ok (.goto (-34), 3) := by decide +kernel
theorem dX12_heardPosts_54 : decode cX12_heardPosts 54 = .ok (.iload_n 1, 1) := by decide +kernel
theorem dX12_heardPosts_55 : decode cX12_heardPosts 55 = .ok (.iload_n 3, 1) := by decide +kernel
theorem dX12_heardPosts_56 : decode cX12_heardPosts 56 = .ok (.ifCond .eq 7, 3) := by decide +kernel
theorem dX12_heardPosts_59 : decode cX12_heardPosts 59 = .ok (.iconst 1, 1) := by decide +kernel
theorem dX12_heardPosts_60 : decode cX12_heardPosts 60 = .ok (.goto 4, 3) := by decide +kernel
theorem dX12_heardPosts_63 : decode cX12_heardPosts 63 = .ok (.iconst 0, 1) := by decide +kernel
theorem dX12_heardPosts_64 : decode cX12_heardPosts 64 = .ok (.iadd, 1) := by decide +kernel
theorem dX12_heardPosts_65 : decode cX12_heardPosts 65 = .ok (.istore_n 1, 1) := by decide +kernel
theorem dX12_heardPosts_66 : decode cX12_heardPosts 66 = .ok (.iinc 2 1, 3) := by decide +kernel
theorem dX12_heardPosts_69 : decode cX12_heardPosts 69 = .ok (.goto (-65), 3) := by decide +kernel
theorem dX12_heardPosts_72 : decode cX12_heardPosts 72 = .ok (.iload_n 1, 1) := by decide +kernel
theorem dX12_heardPosts_73 : decode cX12_heardPosts 73 = .ok (.ireturn, 1) := by decide +kernel
theorem dX12_heard_0 : decode cX12_heard 0 = .ok (.aload_n 0, 1) := by decide +kernel
theorem dX12_heard_1 : decode cX12_heard 1 = .ok (.iconst 0, 1) := by decide +kernel
theorem dX12_heard_2 : decode cX12_heard 2 = .ok (.putfield 224, 3) := by decide +kernel
theorem dX12_heard_5 : decode cX12_heard 5 = .ok (.aload_n 0, 1) := by decide +kernel
theorem dX12_heard_6 : decode cX12_heard 6 = .ok (.getfield 233, 3) := by decide +kernel
theorem dX12_heard_9 : decode cX12_heard 9 = .ok (.ifCond .eq 32, 3) := by decide +kernel
theorem dX12_heard_12 : decode cX12_heard 12 = .ok (.iload_n 1, 1) := by decide +kernel
theorem dX12_heard_13 : decode cX12_heard 13 = .ok (.ifCond .lt 28, 3) := by decide +kernel
theorem dX12_heard_16 : decode cX12_heard 16 = .ok (.iload_n 1, 1) := by decide +kernel
theorem dX12_heard_17 : decode cX12_heard 17 = .ok (.bipush 12, 2) := by decide +kernel
theorem dX12_heard_19 : decode cX12_heard 19 = .ok (.if_icmp .ge 22, 3) := by decide +kernel
theorem dX12_heard_22 : decode cX12_heard 22 = .ok (.iload_n 2, 1) := by decide +kernel
theorem dX12_heard_23 : decode cX12_heard 23 = .ok (.ifCond .lt 18, 3) := by decide +kernel
theorem dX12_heard_26 : decode cX12_heard 26 = .ok (.iload_n 2, 1) := by decide +kernel
theorem dX12_heard_27 : decode cX12_heard 27 = .ok (.bipush 10, 2) := by decide +kernel
theorem dX12_heard_29 : decode cX12_heard 29 = .ok (.if_icmp .ge 12, 3) := by decide +kernel
theorem dX12_heard_32 : decode cX12_heard 32 = .ok (.iload_n 3, 1) := by decide +kernel
theorem dX12_heard_33 : decode cX12_heard 33 = .ok (.ifCond .lt 8, 3) := by decide +kernel
theorem dX12_heard_36 : decode cX12_heard 36 = .ok (.iload_n 3, 1) := by decide +kernel
theorem dX12_heard_37 : decode cX12_heard 37 = .ok (.iconst 3, 1) := by decide +kernel
theorem dX12_heard_38 : decode cX12_heard 38 = .ok (.if_icmp .le 5, 3) := by decide +kernel
theorem dX12_heard_41 : decode cX12_heard 41 = .ok (.iconst (-1), 1) := by decide +kernel
theorem dX12_heard_42 : decode cX12_heard 42 = .ok (.ireturn, 1) := by decide +kernel
theorem dX12_heard_43 : decode cX12_heard 43 = .ok (.bipush 10, 2) := by decide +kernel
theorem dX12_heard_45 : decode cX12_heard 45 = .ok (.iload_n 1, 1) := by decide +kernel
theorem dX12_heard_46 : decode cX12_heard 46 = .ok (.imul, 1) := by decide +kernel
theorem dX12_heard_47 : decode cX12_heard 47 = .ok (.iload_n 2, 1) := by decide +kernel
theorem dX12_heard_48 : decode cX12_heard 48 = .ok (.iadd, 1) := by decide +kernel
theorem dX12_heard_49 : decode cX12_heard 49 = .ok (.istore 4, 2) := by decide +kernel
theorem dX12_heard_51 : decode cX12_heard 51 = .ok (.aload_n 0, 1) := by decide +kernel
theorem dX12_heard_52 : decode cX12_heard 52 = .ok (.getfield 172, 3) := by decide +kernel
theorem dX12_heard_55 : decode cX12_heard 55 = .ok (.iload 4, 2) := by decide +kernel
theorem dX12_heard_57 : decode cX12_heard 57 = .ok (.iaload, 1) := by decide +kernel
theorem dX12_heard_58 : decode cX12_heard 58 = .ok (.iconst (-1), 1) := by decide +kernel
theorem dX12_heard_59 : decode cX12_heard 59 = .ok (.if_icmp .ne 5, 3) := by decide +kernel
theorem dX12_heard_62 : decode cX12_heard 62 = .ok (.iconst (-1), 1) := by decide +kernel
theorem dX12_heard_63 : decode cX12_heard 63 = .ok (.ireturn, 1) := by decide +kernel
theorem dX12_heard_64 : decode cX12_heard 64 = .ok (.iload_n 3, 1) := by decide +kernel
theorem dX12_heard_65 : decode cX12_heard 65 = .ok (.ifCond .ne 13, 3) := by decide +kernel
theorem dX12_heard_68 : decode cX12_heard 68 = .ok (.aload_n 0, 1) := by decide +kernel
theorem dX12_heard_69 : decode cX12_heard 69 = .ok (.getfield 172, 3) := by decide +kernel
theorem dX12_heard_72 : decode cX12_heard 72 = .ok (.iload 4, 2) := by decide +kernel
theorem dX12_heard_74 : decode cX12_heard 74 = .ok (.iaload, 1) := by decide +kernel
theorem dX12_heard_75 : decode cX12_heard 75 = .ok (.goto 43, 3) := by decide +kernel
theorem dX12_heard_78 : decode cX12_heard 78 = .ok (.iload_n 3, 1) := by decide +kernel
theorem dX12_heard_79 : decode cX12_heard 79 = .ok (.iconst 1, 1) := by decide +kernel
theorem dX12_heard_80 : decode cX12_heard 80 = .ok (.if_icmp .ne 13, 3) := by decide +kernel
theorem dX12_heard_83 : decode cX12_heard 83 = .ok (.aload_n 0, 1) := by decide +kernel
theorem dX12_heard_84 : decode cX12_heard 84 = .ok (.getfield 175, 3) := by decide +kernel
theorem dX12_heard_87 : decode cX12_heard 87 = .ok (.iload 4, 2) := by decide +kernel
theorem dX12_heard_89 : decode cX12_heard 89 = .ok (.iaload, 1) := by decide +kernel
theorem dX12_heard_90 : decode cX12_heard 90 = .ok (.goto 28, 3) := by decide +kernel
theorem dX12_heard_93 : decode cX12_heard 93 = .ok (.iload_n 3, 1) := by decide +kernel
theorem dX12_heard_94 : decode cX12_heard 94 = .ok (.iconst 2, 1) := by decide +kernel
theorem dX12_heard_95 : decode cX12_heard 95 = .ok (.if_icmp .ne 13, 3) := by decide +kernel
theorem dX12_heard_98 : decode cX12_heard 98 = .ok (.aload_n 0, 1) := by decide +kernel
theorem dX12_heard_99 : decode cX12_heard 99 = .ok (.getfield 178, 3) := by decide +kernel
theorem dX12_heard_102 : decode cX12_heard 102 = .ok (.iload 4, 2) := by decide +kernel
theorem dX12_heard_104 : decode cX12_heard 104 = .ok (.iaload, 1) := by decide +kernel
theorem dX12_heard_105 : decode cX12_heard 105 = .ok (.goto 13, 3) := by decide +kernel
theorem dX12_heard_108 : decode cX12_heard 108 = .ok (.aload_n 0, 1) := by decide +kernel
theorem dX12_heard_109 : decode cX12_heard 109 = .ok (.getfield 181, 3) := by decide +kernel
theorem dX12_heard_112 : decode cX12_heard 112 = .ok (.iload 4, 2) := by decide +kernel
theorem dX12_heard_114 : decode cX12_heard 114 = .ok (.iaload, 1) := by decide +kernel
theorem dX12_heard_115 : decode cX12_heard 115 = .ok (.invokestatic 360, 3) := by decide +kernel
theorem dX12_heard_118 : decode cX12_heard 118 = .ok (.ireturn, 1) := by decide +kernel
theorem dX12_sent_0 : decode cX12_sent 0 = .ok (.aload_n 0, 1) := by decide +kernel
theorem dX12_sent_1 : decode cX12_sent 1 = .ok (.iconst 0, 1) := by decide +kernel
theorem dX12_sent_2 : decode cX12_sent 2 = .ok (.putfield 224, 3) := by decide +kernel
theorem dX12_sent_5 : decode cX12_sent 5 = .ok (.aload_n 0, 1) := by decide +kernel
theorem dX12_sent_6 : decode cX12_sent 6 = .ok (.getfield 233, 3) := by decide +kernel
theorem dX12_sent_9 : decode cX12_sent 9 = .ok (.ifCond .ne 5, 3) := by decide +kernel
theorem dX12_sent_12 : decode cX12_sent 12 = .ok (.iconst (-1), 1) := by decide +kernel
theorem dX12_sent_13 : decode cX12_sent 13 = .ok (.ireturn, 1) := by decide +kernel
theorem dX12_sent_14 : decode cX12_sent 14 = .ok (.iload_n 1, 1) := by decide +kernel
theorem dX12_sent_15 : decode cX12_sent 15 = .ok (.tableswitch 58 0 4 #[33, 38, 43, 48, 53], 33) := by decide +kernel
theorem dX12_sent_48 : decode cX12_sent 48 = .ok (.aload_n 0, 1) := by decide +kernel
theorem dX12_sent_49 : decode cX12_sent 49 = .ok (.getfield 495, 3) := by decide +kernel
theorem dX12_sent_52 : decode cX12_sent 52 = .ok (.ireturn, 1) := by decide +kernel
theorem dX12_sent_53 : decode cX12_sent 53 = .ok (.aload_n 0, 1) := by decide +kernel
theorem dX12_sent_54 : decode cX12_sent 54 = .ok (.getfield 514, 3) := by decide +kernel
theorem dX12_sent_57 : decode cX12_sent 57 = .ok (.ireturn, 1) := by decide +kernel
theorem dX12_sent_58 : decode cX12_sent 58 = .ok (.aload_n 0, 1) := by decide +kernel
theorem dX12_sent_59 : decode cX12_sent 59 = .ok (.getfield 523, 3) := by decide +kernel
theorem dX12_sent_62 : decode cX12_sent 62 = .ok (.ireturn, 1) := by decide +kernel
theorem dX12_sent_63 : decode cX12_sent 63 = .ok (.aload_n 0, 1) := by decide +kernel
theorem dX12_sent_64 : decode cX12_sent 64 = .ok (.getfield 520, 3) := by decide +kernel
theorem dX12_sent_67 : decode cX12_sent 67 = .ok (.ireturn, 1) := by decide +kernel
theorem dX12_sent_68 : decode cX12_sent 68 = .ok (.aload_n 0, 1) := by decide +kernel
theorem dX12_sent_69 : decode cX12_sent 69 = .ok (.getfield 508, 3) := by decide +kernel
theorem dX12_sent_72 : decode cX12_sent 72 = .ok (.ireturn, 1) := by decide +kernel
theorem dX12_sent_73 : decode cX12_sent 73 = .ok (.iconst (-1), 1) := by decide +kernel
theorem dX12_sent_74 : decode cX12_sent 74 = .ok (.ireturn, 1) := by decide +kernel
theorem dX12_stepCost_0 : decode cX12_stepCost 0 = .ok (.aload_n 0, 1) := by decide +kernel
theorem dX12_stepCost_1 : decode cX12_stepCost 1 = .ok (.getfield 16, 3) := by decide +kernel
theorem dX12_stepCost_4 : decode cX12_stepCost 4 = .ok (.iload_n 2, 1) := by decide +kernel
theorem dX12_stepCost_5 : decode cX12_stepCost 5 = .ok (.iaload, 1) := by decide +kernel
theorem dX12_stepCost_6 : decode cX12_stepCost 6 = .ok (.aload_n 0, 1) := by decide +kernel
theorem dX12_stepCost_7 : decode cX12_stepCost 7 = .ok (.getfield 16, 3) := by decide +kernel
theorem dX12_stepCost_10 : decode cX12_stepCost 10 = .ok (.iload_n 1, 1) := by decide +kernel
theorem dX12_stepCost_11 : decode cX12_stepCost 11 = .ok (.iaload, 1) := by decide +kernel
theorem dX12_stepCost_12 : decode cX12_stepCost 12 = .ok (.isub, 1) := by decide +kernel
theorem dX12_stepCost_13 : decode cX12_stepCost 13 = .ok (.istore_n 3, 1) := by decide +kernel
theorem dX12_stepCost_14 : decode cX12_stepCost 14 = .ok (.bipush 10, 2) := by decide +kernel
theorem dX12_stepCost_16 : decode cX12_stepCost 16 = .ok (.iload_n 3, 1) := by decide +kernel
theorem dX12_stepCost_17 : decode cX12_stepCost 17 = .ok (.ifCond .le 9, 3) := by decide +kernel
theorem dX12_stepCost_20 : decode cX12_stepCost 20 = .ok (.iconst 2, 1) := by decide +kernel
theorem dX12_stepCost_21 : decode cX12_stepCost 21 = .ok (.iload_n 3, 1) := by decide +kernel
theorem dX12_stepCost_22 : decode cX12_stepCost 22 = .ok (.imul, 1) := by decide +kernel
theorem dX12_stepCost_23 : decode cX12_stepCost 23 = .ok (.goto 5, 3) := by decide +kernel
theorem dX12_stepCost_26 : decode cX12_stepCost 26 = .ok (.iload_n 3, 1) := by decide +kernel
theorem dX12_stepCost_27 : decode cX12_stepCost 27 = .ok (.ineg, 1) := by decide +kernel
theorem dX12_stepCost_28 : decode cX12_stepCost 28 = .ok (.iadd, 1) := by decide +kernel
theorem dX12_stepCost_29 : decode cX12_stepCost 29 = .ok (.iconst 5, 1) := by decide +kernel
theorem dX12_stepCost_30 : decode cX12_stepCost 30 = .ok (.aload_n 0, 1) := by decide +kernel
theorem dX12_stepCost_31 : decode cX12_stepCost 31 = .ok (.getfield 20, 3) := by decide +kernel
theorem dX12_stepCost_34 : decode cX12_stepCost 34 = .ok (.iload_n 2, 1) := by decide +kernel
theorem dX12_stepCost_35 : decode cX12_stepCost 35 = .ok (.iaload, 1) := by decide +kernel
theorem dX12_stepCost_36 : decode cX12_stepCost 36 = .ok (.imul, 1) := by decide +kernel
theorem dX12_stepCost_37 : decode cX12_stepCost 37 = .ok (.iadd, 1) := by decide +kernel
theorem dX12_stepCost_38 : decode cX12_stepCost 38 = .ok (.ireturn, 1) := by decide +kernel
theorem dX12_reaches_0 : decode cX12_reaches 0 = .ok (.aload_n 0, 1) := by decide +kernel
theorem dX12_reaches_1 : decode cX12_reaches 1 = .ok (.getfield 196, 3) := by decide +kernel
theorem dX12_reaches_4 : decode cX12_reaches 4 = .ok (.iload_n 1, 1) := by decide +kernel
theorem dX12_reaches_5 : decode cX12_reaches 5 = .ok (.iaload, 1) := by decide +kernel
theorem dX12_reaches_6 : decode cX12_reaches 6 = .ok (.aload_n 0, 1) := by decide +kernel
theorem dX12_reaches_7 : decode cX12_reaches 7 = .ok (.iload_n 1, 1) := by decide +kernel
theorem dX12_reaches_8 : decode cX12_reaches 8 = .ok (.iload_n 2, 1) := by decide +kernel
theorem dX12_reaches_9 : decode cX12_reaches 9 = .ok (.invokevirtual 538, 3) := by decide +kernel
theorem dX12_reaches_12 : decode cX12_reaches 12 = .ok (.iadd, 1) := by decide +kernel
theorem dX12_reaches_13 : decode cX12_reaches 13 = .ok (.aload_n 0, 1) := by decide +kernel
theorem dX12_reaches_14 : decode cX12_reaches 14 = .ok (.getfield 196, 3) := by decide +kernel
theorem dX12_reaches_17 : decode cX12_reaches 17 = .ok (.iload_n 2, 1) := by decide +kernel
theorem dX12_reaches_18 : decode cX12_reaches 18 = .ok (.iaload, 1) := by decide +kernel
theorem dX12_reaches_19 : decode cX12_reaches 19 = .ok (.if_icmp .ge 22, 3) := by decide +kernel
theorem dX12_reaches_22 : decode cX12_reaches 22 = .ok (.aload_n 0, 1) := by decide +kernel
theorem dX12_reaches_23 : decode cX12_reaches 23 = .ok (.getfield 196, 3) := by decide +kernel
theorem dX12_reaches_26 : decode cX12_reaches 26 = .ok (.iload_n 2, 1) := by decide +kernel
theorem dX12_reaches_27 : decode cX12_reaches 27 = .ok (.aload_n 0, 1) := by decide +kernel
theorem dX12_reaches_28 : decode cX12_reaches 28 = .ok (.getfield 196, 3) := by decide +kernel
theorem dX12_reaches_31 : decode cX12_reaches 31 = .ok (.iload_n 1, 1) := by decide +kernel
theorem dX12_reaches_32 : decode cX12_reaches 32 = .ok (.iaload, 1) := by decide +kernel
theorem dX12_reaches_33 : decode cX12_reaches 33 = .ok (.aload_n 0, 1) := by decide +kernel
theorem dX12_reaches_34 : decode cX12_reaches 34 = .ok (.iload_n 1, 1) := by decide +kernel
theorem dX12_reaches_35 : decode cX12_reaches 35 = .ok (.iload_n 2, 1) := by decide +kernel
theorem dX12_reaches_36 : decode cX12_reaches 36 = .ok (.invokevirtual 538, 3) := by decide +kernel
theorem dX12_reaches_39 : decode cX12_reaches 39 = .ok (.iadd, 1) := by decide +kernel
theorem dX12_reaches_40 : decode cX12_reaches 40 = .ok (.iastore, 1) := by decide +kernel
theorem dX12_reaches_41 : decode cX12_reaches 41 = .ok (.return_, 1) := by decide +kernel
theorem dX12_spreads_0 : decode cX12_spreads 0 = .ok (.aload_n 0, 1) := by decide +kernel
theorem dX12_spreads_1 : decode cX12_spreads 1 = .ok (.getfield 7, 3) := by decide +kernel
theorem dX12_spreads_4 : decode cX12_spreads 4 = .ok (.aload_n 0, 1) := by decide +kernel
theorem dX12_spreads_5 : decode cX12_spreads 5 = .ok (.getfield 13, 3) := by decide +kernel
theorem dX12_spreads_8 : decode cX12_spreads 8 = .ok (.imul, 1) := by decide +kernel
theorem dX12_spreads_9 : decode cX12_spreads 9 = .ok (.istore_n 2, 1) := by decide +kernel
theorem dX12_spreads_10 : decode cX12_spreads 10 = .ok (.iconst 0, 1) := by decide +kernel
theorem dX12_spreads_11 : decode cX12_spreads 11 = .ok (.istore_n 3, 1) := by decide +kernel
theorem dX12_spreads_12 : decode cX12_spreads 12 = .ok (.iload_n 3, 1) := by decide +kernel
theorem dX12_spreads_13 : decode cX12_spreads 13 = .ok (.iload_n 2, 1) := by decide +kernel
theorem dX12_spreads_14 : decode cX12_spreads 14 = .ok (.if_icmp .ge 25, 3) := by decide +kernel
theorem dX12_spreads_17 : decode cX12_spreads 17 = .ok (.aload_n 0, 1) := by decide +kernel
theorem dX12_spreads_18 : decode cX12_spreads 18 = .ok (.getfield 196, 3) := by decide +kernel
theorem dX12_spreads_21 : decode cX12_spreads 21 = .ok (.iload_n 3, 1) := by decide +kernel
theorem dX12_spreads_22 : decode cX12_spreads 22 = .ok (.ldc_w 543, 3) := by decide +kernel
theorem dX12_spreads_25 : decode cX12_spreads 25 = .ok (.iastore, 1) := by decide +kernel
theorem dX12_spreads_26 : decode cX12_spreads 26 = .ok (.aload_n 0, 1) := by decide +kernel
theorem dX12_spreads_27 : decode cX12_spreads 27 = .ok (.getfield 199, 3) := by decide +kernel
theorem dX12_spreads_30 : decode cX12_spreads 30 = .ok (.iload_n 3, 1) := by decide +kernel
theorem dX12_spreads_31 : decode cX12_spreads 31 = .ok (.iconst 0, 1) := by decide +kernel
theorem dX12_spreads_32 : decode cX12_spreads 32 = .ok (.bastore, 1) := by decide +kernel
theorem dX12_spreads_33 : decode cX12_spreads 33 = .ok (.iinc 3 1, 3) := by decide +kernel
theorem dX12_spreads_36 : decode cX12_spreads 36 = .ok (.goto (-24), 3) := by decide +kernel
theorem dX12_spreads_39 : decode cX12_spreads 39 = .ok (.aload_n 0, 1) := by decide +kernel
theorem dX12_spreads_40 : decode cX12_spreads 40 = .ok (.getfield 196, 3) := by decide +kernel
theorem dX12_spreads_43 : decode cX12_spreads 43 = .ok (.iload_n 1, 1) := by decide +kernel
theorem dX12_spreads_44 : decode cX12_spreads 44 = .ok (.iconst 0, 1) := by decide +kernel
theorem dX12_spreads_45 : decode cX12_spreads 45 = .ok (.iastore, 1) := by decide +kernel
theorem dX12_spreads_46 : decode cX12_spreads 46 = .ok (.iconst 0, 1) := by decide +kernel
theorem dX12_spreads_47 : decode cX12_spreads 47 = .ok (.istore_n 3, 1) := by decide +kernel
theorem dX12_spreads_48 : decode cX12_spreads 48 = .ok (.iload_n 3, 1) := by decide +kernel
theorem dX12_spreads_49 : decode cX12_spreads 49 = .ok (.iload_n 2, 1) := by decide +kernel
theorem dX12_spreads_50 : decode cX12_spreads 50 = .ok (.if_icmp .ge 164, 3) := by decide +kernel
theorem dX12_spreads_53 : decode cX12_spreads 53 = .ok (.iconst (-1), 1) := by decide +kernel
theorem dX12_spreads_54 : decode cX12_spreads 54 = .ok (.istore 4, 2) := by decide +kernel
theorem dX12_spreads_56 : decode cX12_spreads 56 = .ok (.iconst 0, 1) := by decide +kernel
theorem dX12_spreads_57 : decode cX12_spreads 57 = .ok (.istore 5, 2) := by decide +kernel
theorem dX12_spreads_59 : decode cX12_spreads 59 = .ok (.iload 5, 2) := by decide +kernel
theorem dX12_spreads_61 : decode cX12_spreads 61 = .ok (.iload_n 2, 1) := by decide +kernel
theorem dX12_spreads_62 : decode cX12_spreads 62 = .ok (.if_icmp .ge 46, 3) := by decide +kernel
theorem dX12_spreads_65 : decode cX12_spreads 65 = .ok (.aload_n 0, 1) := by decide +kernel
theorem dX12_spreads_66 : decode cX12_spreads 66 = .ok (.getfield 199, 3) := by decide +kernel
theorem dX12_spreads_69 : decode cX12_spreads 69 = .ok (.iload 5, 2) := by decide +kernel
theorem dX12_spreads_71 : decode cX12_spreads 71 = .ok (.baload, 1) := by decide +kernel
theorem dX12_spreads_72 : decode cX12_spreads 72 = .ok (.ifCond .ne 30, 3) := by decide +kernel
theorem dX12_spreads_75 : decode cX12_spreads 75 = .ok (.iload 4, 2) := by decide +kernel
theorem dX12_spreads_77 : decode cX12_spreads 77 = .ok (.iconst (-1), 1) := by decide +kernel
theorem dX12_spreads_78 : decode cX12_spreads 78 = .ok (.if_icmp .eq 20, 3) := by decide +kernel
theorem dX12_spreads_81 : decode cX12_spreads 81 = .ok (.aload_n 0, 1) := by decide +kernel
theorem dX12_spreads_82 : decode cX12_spreads 82 = .ok (.getfield 196, 3) := by decide +kernel
theorem dX12_spreads_85 : decode cX12_spreads 85 = .ok (.iload 5, 2) := by decide +kernel
theorem dX12_spreads_87 : decode cX12_spreads 87 = .ok (.iaload, 1) := by decide +kernel
theorem dX12_spreads_88 : decode cX12_spreads 88 = .ok (.aload_n 0, 1) := by decide +kernel
theorem dX12_spreads_89 : decode cX12_spreads 89 = .ok (.getfield 196, 3) := by decide +kernel
theorem dX12_spreads_92 : decode cX12_spreads 92 = .ok (.iload 4, 2) := by decide +kernel
theorem dX12_spreads_94 : decode cX12_spreads 94 = .ok (.iaload, 1) := by decide +kernel
theorem dX12_spreads_95 : decode cX12_spreads 95 = .ok (.if_icmp .ge 7, 3) := by decide +kernel
theorem dX12_spreads_98 : decode cX12_spreads 98 = .ok (.iload 5, 2) := by decide +kernel
theorem dX12_spreads_100 : decode cX12_spreads 100 = .ok (.istore 4, 2) := by decide +kernel
theorem dX12_spreads_102 : decode cX12_spreads 102 = .ok (.iinc 5 1, 3) := by decide +kernel
theorem dX12_spreads_105 : decode cX12_spreads 105 = .ok (.goto (-46), 3) := by decide +kernel
theorem dX12_spreads_108 : decode cX12_spreads 108 = .ok (.aload_n 0, 1) := by decide +kernel
theorem dX12_spreads_109 : decode cX12_spreads 109 = .ok (.getfield 199, 3) := by decide +kernel
theorem dX12_spreads_112 : decode cX12_spreads 112 = .ok (.iload 4, 2) := by decide +kernel
theorem dX12_spreads_114 : decode cX12_spreads 114 = .ok (.iconst 1, 1) := by decide +kernel
theorem dX12_spreads_115 : decode cX12_spreads 115 = .ok (.bastore, 1) := by decide +kernel
theorem dX12_spreads_116 : decode cX12_spreads 116 = .ok (.iload 4, 2) := by decide +kernel
theorem dX12_spreads_118 : decode cX12_spreads 118 = .ok (.aload_n 0, 1) := by decide +kernel
theorem dX12_spreads_119 : decode cX12_spreads 119 = .ok (.getfield 7, 3) := by decide +kernel
theorem dX12_spreads_122 : decode cX12_spreads 122 = .ok (.irem, 1) := by decide +kernel
theorem dX12_spreads_123 : decode cX12_spreads 123 = .ok (.ifCond .le 13, 3) := by decide +kernel
theorem dX12_spreads_126 : decode cX12_spreads 126 = .ok (.aload_n 0, 1) := by decide +kernel
theorem dX12_spreads_127 : decode cX12_spreads 127 = .ok (.iload 4, 2) := by decide +kernel
theorem dX12_spreads_129 : decode cX12_spreads 129 = .ok (.iload 4, 2) := by decide +kernel
theorem dX12_spreads_131 : decode cX12_spreads 131 = .ok (.iconst 1, 1) := by decide +kernel
theorem dX12_spreads_132 : decode cX12_spreads 132 = .ok (.isub, 1) := by decide +kernel
theorem dX12_spreads_133 : decode cX12_spreads 133 = .ok (.invokevirtual 544, 3) := by decide +kernel
theorem dX12_spreads_136 : decode cX12_spreads 136 = .ok (.iload 4, 2) := by decide +kernel
theorem dX12_spreads_138 : decode cX12_spreads 138 = .ok (.aload_n 0, 1) := by decide +kernel
theorem dX12_spreads_139 : decode cX12_spreads 139 = .ok (.getfield 7, 3) := by decide +kernel
theorem dX12_spreads_142 : decode cX12_spreads 142 = .ok (.irem, 1) := by decide +kernel
theorem dX12_spreads_143 : decode cX12_spreads 143 = .ok (.aload_n 0, 1) := by decide +kernel
theorem dX12_spreads_144 : decode cX12_spreads 144 = .ok (.getfield 7, 3) := by decide +kernel
theorem dX12_spreads_147 : decode cX12_spreads 147 = .ok (.iconst 1, 1) := by decide +kernel
theorem dX12_spreads_148 : decode cX12_spreads 148 = .ok (.isub, 1) := by decide +kernel
theorem dX12_spreads_149 : decode cX12_spreads 149 = .ok (.if_icmp .ge 13, 3) := by decide +kernel
theorem dX12_spreads_152 : decode cX12_spreads 152 = .ok (.aload_n 0, 1) := by decide +kernel
theorem dX12_spreads_153 : decode cX12_spreads 153 = .ok (.iload 4, 2) := by decide +kernel
theorem dX12_spreads_155 : decode cX12_spreads 155 = .ok (.iload 4, 2) := by decide +kernel
theorem dX12_spreads_157 : decode cX12_spreads 157 = .ok (.iconst 1, 1) := by decide +kernel
theorem dX12_spreads_158 : decode cX12_spreads 158 = .ok (.iadd, 1) := by decide +kernel
theorem dX12_spreads_159 : decode cX12_spreads 159 = .ok (.invokevirtual 544, 3) := by decide +kernel
theorem dX12_spreads_162 : decode cX12_spreads 162 = .ok (.iload 4, 2) := by decide +kernel
theorem dX12_spreads_164 : decode cX12_spreads 164 = .ok (.aload_n 0, 1) := by decide +kernel
theorem dX12_spreads_165 : decode cX12_spreads 165 = .ok (.getfield 7, 3) := by decide +kernel
theorem dX12_spreads_168 : decode cX12_spreads 168 = .ok (.if_icmp .lt 16, 3) := by decide +kernel
theorem dX12_spreads_171 : decode cX12_spreads 171 = .ok (.aload_n 0, 1) := by decide +kernel
theorem dX12_spreads_172 : decode cX12_spreads 172 = .ok (.iload 4, 2) := by decide +kernel
theorem dX12_spreads_174 : decode cX12_spreads 174 = .ok (.iload 4, 2) := by decide +kernel
theorem dX12_spreads_176 : decode cX12_spreads 176 = .ok (.aload_n 0, 1) := by decide +kernel
theorem dX12_spreads_177 : decode cX12_spreads 177 = .ok (.getfield 7, 3) := by decide +kernel
theorem dX12_spreads_180 : decode cX12_spreads 180 = .ok (.isub, 1) := by decide +kernel
theorem dX12_spreads_181 : decode cX12_spreads 181 = .ok (.invokevirtual 544, 3) := by decide +kernel
theorem dX12_spreads_184 : decode cX12_spreads 184 = .ok (.iload 4, 2) := by decide +kernel
theorem dX12_spreads_186 : decode cX12_spreads 186 = .ok (.aload_n 0, 1) := by decide +kernel
theorem dX12_spreads_187 : decode cX12_spreads 187 = .ok (.getfield 7, 3) := by decide +kernel
theorem dX12_spreads_190 : decode cX12_spreads 190 = .ok (.iadd, 1) := by decide +kernel
theorem dX12_spreads_191 : decode cX12_spreads 191 = .ok (.iload_n 2, 1) := by decide +kernel
theorem dX12_spreads_192 : decode cX12_spreads 192 = .ok (.if_icmp .ge 16, 3) := by decide +kernel
theorem dX12_spreads_195 : decode cX12_spreads 195 = .ok (.aload_n 0, 1) := by decide +kernel
theorem dX12_spreads_196 : decode cX12_spreads 196 = .ok (.iload 4, 2) := by decide +kernel
theorem dX12_spreads_198 : decode cX12_spreads 198 = .ok (.iload 4, 2) := by decide +kernel
theorem dX12_spreads_200 : decode cX12_spreads 200 = .ok (.aload_n 0, 1) := by decide +kernel
theorem dX12_spreads_201 : decode cX12_spreads 201 = .ok (.getfield 7, 3) := by decide +kernel
theorem dX12_spreads_204 : decode cX12_spreads 204 = .ok (.iadd, 1) := by decide +kernel
theorem dX12_spreads_205 : decode cX12_spreads 205 = .ok (.invokevirtual 544, 3) := by decide +kernel
theorem dX12_spreads_208 : decode cX12_spreads 208 = .ok (.iinc 3 1, 3) := by decide +kernel
theorem dX12_spreads_211 : decode cX12_spreads 211 = .ok (.goto (-163), 3) := by decide +kernel
theorem dX12_spreads_214 : decode cX12_spreads 214 = .ok (.return_, 1) := by decide +kernel
theorem dX12_way_0 : decode cX12_way 0 = .ok (.aload_n 0, 1) := by decide +kernel
theorem dX12_way_1 : decode cX12_way 1 = .ok (.iconst 0, 1) := by decide +kernel
theorem dX12_way_2 : decode cX12_way 2 = .ok (.putfield 224, 3) := by decide +kernel
theorem dX12_way_5 : decode cX12_way 5 = .ok (.aload_n 0, 1) := by decide +kernel
theorem dX12_way_6 : decode cX12_way 6 = .ok (.iload_n 1, 1) := by decide +kernel
theorem dX12_way_7 : decode cX12_way 7 = .ok (.invokevirtual 295, 3) := by decide +kernel
theorem dX12_way_10 : decode cX12_way 10 = .ok (.ifCond .eq 11, 3) := by decide +kernel
theorem dX12_way_13 : decode cX12_way 13 = .ok (.aload_n 0, 1) := by decide +kernel
theorem dX12_way_14 : decode cX12_way 14 = .ok (.iload_n 2, 1) := by decide +kernel
theorem dX12_way_15 : decode cX12_way 15 = .ok (.invokevirtual 295, 3) := by decide +kernel
theorem dX12_way_18 : decode cX12_way 18 = .ok (.ifCond .ne 5, 3) := by decide +kernel
theorem dX12_way_21 : decode cX12_way 21 = .ok (.iconst (-1), 1) := by decide +kernel
theorem dX12_way_22 : decode cX12_way 22 = .ok (.ireturn, 1) := by decide +kernel
theorem dX12_way_23 : decode cX12_way 23 = .ok (.aload_n 0, 1) := by decide +kernel
theorem dX12_way_24 : decode cX12_way 24 = .ok (.aload_n 0, 1) := by decide +kernel
theorem dX12_way_25 : decode cX12_way 25 = .ok (.iload_n 1, 1) := by decide +kernel
theorem dX12_way_26 : decode cX12_way 26 = .ok (.invokevirtual 274, 3) := by decide +kernel
theorem dX12_way_29 : decode cX12_way 29 = .ok (.invokevirtual 547, 3) := by decide +kernel
theorem dX12_way_32 : decode cX12_way 32 = .ok (.aload_n 0, 1) := by decide +kernel
theorem dX12_way_33 : decode cX12_way 33 = .ok (.getfield 196, 3) := by decide +kernel
theorem dX12_way_36 : decode cX12_way 36 = .ok (.aload_n 0, 1) := by decide +kernel
theorem dX12_way_37 : decode cX12_way 37 = .ok (.iload_n 2, 1) := by decide +kernel
theorem dX12_way_38 : decode cX12_way 38 = .ok (.invokevirtual 274, 3) := by decide +kernel
theorem dX12_way_41 : decode cX12_way 41 = .ok (.iaload, 1) := by decide +kernel
theorem dX12_way_42 : decode cX12_way 42 = .ok (.ireturn, 1) := by decide +kernel
theorem dX12_store_0 : decode cX12_store 0 = .ok (.aload_n 0, 1) := by decide +kernel
theorem dX12_store_1 : decode cX12_store 1 = .ok (.iconst 0, 1) := by decide +kernel
theorem dX12_store_2 : decode cX12_store 2 = .ok (.putfield 224, 3) := by decide +kernel
theorem dX12_store_5 : decode cX12_store 5 = .ok (.aload_n 0, 1) := by decide +kernel
theorem dX12_store_6 : decode cX12_store 6 = .ok (.iload_n 1, 1) := by decide +kernel
theorem dX12_store_7 : decode cX12_store 7 = .ok (.invokevirtual 250, 3) := by decide +kernel
theorem dX12_store_10 : decode cX12_store 10 = .ok (.ifCond .eq 23, 3) := by decide +kernel
theorem dX12_store_13 : decode cX12_store 13 = .ok (.aload_n 0, 1) := by decide +kernel
theorem dX12_store_14 : decode cX12_store 14 = .ok (.getfield 47, 3) := by decide +kernel
theorem dX12_store_17 : decode cX12_store 17 = .ok (.iload_n 1, 1) := by decide +kernel
theorem dX12_store_18 : decode cX12_store 18 = .ok (.iaload, 1) := by decide +kernel
theorem dX12_store_19 : decode cX12_store 19 = .ok (.ifCond .ne 14, 3) := by decide +kernel
theorem dX12_store_22 : decode cX12_store 22 = .ok (.iload_n 2, 1) := by decide +kernel
theorem dX12_store_23 : decode cX12_store 23 = .ok (.ifCond .lt 10, 3) := by decide +kernel
theorem dX12_store_26 : decode cX12_store 26 = .ok (.iload_n 2, 1) := by decide +kernel
theorem dX12_store_27 : decode cX12_store 27 = .ok (.sipush 9999, 3) := by decide +kernel
theorem dX12_store_30 : decode cX12_store 30 = .ok (.if_icmp .le 5, 3) := by decide +kernel
theorem dX12_store_33 : decode cX12_store 33 = .ok (.iconst 0, 1) := by decide +kernel
theorem dX12_store_34 : decode cX12_store 34 = .ok (.ireturn, 1) := by decide +kernel
theorem dX12_store_35 : decode cX12_store 35 = .ok (.aload_n 0, 1) := by decide +kernel
theorem dX12_store_36 : decode cX12_store 36 = .ok (.getfield 53, 3) := by decide +kernel
theorem dX12_store_39 : decode cX12_store 39 = .ok (.iload_n 1, 1) := by decide +kernel
theorem dX12_store_40 : decode cX12_store 40 = .ok (.iload_n 2, 1) := by decide +kernel
theorem dX12_store_41 : decode cX12_store 41 = .ok (.iastore, 1) := by decide +kernel
theorem dX12_store_42 : decode cX12_store 42 = .ok (.iconst 1, 1) := by decide +kernel
theorem dX12_store_43 : decode cX12_store 43 = .ok (.ireturn, 1) := by decide +kernel
theorem dX12_nextCarry_0 : decode cX12_nextCarry 0 = .ok (.iconst (-1), 1) := by decide +kernel
theorem dX12_nextCarry_1 : decode cX12_nextCarry 1 = .ok (.istore_n 1, 1) := by decide +kernel
theorem dX12_nextCarry_2 : decode cX12_nextCarry 2 = .ok (.iconst 0, 1) := by decide +kernel
theorem dX12_nextCarry_3 : decode cX12_nextCarry 3 = .ok (.istore_n 2, 1) := by decide +kernel
theorem dX12_nextCarry_4 : decode cX12_nextCarry 4 = .ok (.iload_n 2, 1) := by decide +kernel
theorem dX12_nextCarry_5 : decode cX12_nextCarry 5 = .ok (.aload_n 0, 1) := by decide +kernel
theorem dX12_nextCarry_6 : decode cX12_nextCarry 6 = .ok (.getfield 227, 3) := by decide +kernel
theorem dX12_nextCarry_9 : decode cX12_nextCarry 9 = .ok (.if_icmp .ge 96, 3) := by decide +kernel
theorem dX12_nextCarry_12 : decode cX12_nextCarry 12 = .ok (.iconst 0, 1) := by decide +kernel
theorem dX12_nextCarry_13 : decode cX12_nextCarry 13 = .ok (.istore_n 3, 1) := by decide +kernel
theorem dX12_nextCarry_14 : decode cX12_nextCarry 14 = .ok (.iload_n 3, 1) := by decide +kernel
theorem dX12_nextCarry_15 : decode cX12_nextCarry 15 = .ok (.aload_n 0, 1) := by decide +kernel
theorem dX12_nextCarry_16 : decode cX12_nextCarry 16 = .ok (.getfield 227, 3) := by decide +kernel
theorem dX12_nextCarry_19 : decode cX12_nextCarry 19 = .ok (.if_icmp .ge 80, 3) := by decide +kernel
theorem dX12_nextCarry_22 : decode cX12_nextCarry 22 = .ok (.aload_n 0, 1) := by decide +kernel
theorem dX12_nextCarry_23 : decode cX12_nextCarry 23 = .ok (.getfield 214, 3) := by decide +kernel
theorem dX12_nextCarry_26 : decode cX12_nextCarry 26 = .ok (.iload_n 2, 1) := by decide +kernel
theorem dX12_nextCarry_27 : decode cX12_nextCarry 27 = .ok (.baload, 1) := by decide +kernel
theorem dX12_nextCarry_28 : decode cX12_nextCarry 28 = .ok (.ifCond .eq 65, 3) := by decide +kernel
theorem dX12_nextCarry_31 : decode cX12_nextCarry 31 = .ok (.aload_n 0, 1) := by decide +kernel
theorem dX12_nextCarry_32 : decode cX12_nextCarry 32 = .ok (.getfield 214, 3) := by decide +kernel
theorem dX12_nextCarry_35 : decode cX12_nextCarry 35 = .ok (.iload_n 3, 1) := by decide +kernel
theorem dX12_nextCarry_36 : decode cX12_nextCarry 36 = .ok (.baload, 1) := by decide +kernel
theorem dX12_nextCarry_37 : decode cX12_nextCarry 37 = .ok (.ifCond .eq 56, 3) := by decide +kernel
theorem dX12_nextCarry_40 : decode cX12_nextCarry 40 = .ok (.aload_n 0, 1) := by decide +kernel
theorem dX12_nextCarry_41 : decode cX12_nextCarry 41 = .ok (.getfield 53, 3) := by decide +kernel
theorem dX12_nextCarry_44 : decode cX12_nextCarry 44 = .ok (.iload_n 2, 1) := by decide +kernel
theorem dX12_nextCarry_45 : decode cX12_nextCarry 45 = .ok (.iaload, 1) := by decide +kernel
theorem dX12_nextCarry_46 : decode cX12_nextCarry 46 = .ok (.ifCond .eq 47, 3) := by decide +kernel
theorem dX12_nextCarry_49 : decode cX12_nextCarry 49 = .ok (.aload_n 0, 1) := by decide +kernel
theorem dX12_nextCarry_50 : decode cX12_nextCarry 50 = .ok (.getfield 208, 3) := by decide +kernel
theorem dX12_nextCarry_53 : decode cX12_nextCarry 53 = .ok (.iload_n 3, 1) := by decide +kernel
theorem dX12_nextCarry_54 : decode cX12_nextCarry 54 = .ok (.iaload, 1) := by decide +kernel
theorem dX12_nextCarry_55 : decode cX12_nextCarry 55 = .ok (.ifCond .ne 6, 3) := by decide +kernel
theorem dX12_nextCarry_58 : decode cX12_nextCarry 58 = .ok (.goto 35, 3) := by decide +kernel
theorem dX12_nextCarry_61 : decode cX12_nextCarry 61 = .ok (.iload_n 1, 1) := by decide +kernel
theorem dX12_nextCarry_62 : decode cX12_nextCarry 62 = .ok (.iconst (-1), 1) := by decide +kernel
theorem dX12_nextCarry_63 : decode cX12_nextCarry 63 = .ok (.if_icmp .eq 23, 3) := by decide +kernel
theorem dX12_nextCarry_66 : decode cX12_nextCarry 66 = .ok (.aload_n 0, 1) := by decide +kernel
theorem dX12_nextCarry_67 : decode cX12_nextCarry 67 = .ok (.getfield 202, 3) := by decide +kernel
theorem dX12_nextCarry_70 : decode cX12_nextCarry 70 = .ok (.bipush 12, 2) := by decide +kernel
theorem dX12_nextCarry_72 : decode cX12_nextCarry 72 = .ok (.iload_n 2, 1) := by decide +kernel
theorem dX12_nextCarry_73 : decode cX12_nextCarry 73 = .ok (.imul, 1) := by decide +kernel
theorem dX12_nextCarry_74 : decode cX12_nextCarry 74 = .ok (.iload_n 3, 1) := by decide +kernel
theorem dX12_nextCarry_75 : decode cX12_nextCarry 75 = .ok (.iadd, 1) := by decide +kernel
theorem dX12_nextCarry_76 : decode cX12_nextCarry 76 = .ok (.iaload, 1) := by decide +kernel
theorem dX12_nextCarry_77 : decode cX12_nextCarry 77 = .ok (.aload_n 0, 1) := by decide +kernel
theorem dX12_nextCarry_78 : decode cX12_nextCarry 78 = .ok (.getfield 202, 3) := by decide +kernel
theorem dX12_nextCarry_81 : decode cX12_nextCarry 81 = .ok (.iload_n 1, 1) := by decide +kernel
theorem dX12_nextCarry_82 : decode cX12_nextCarry 82 = .ok (.iaload, 1) := by decide +kernel
theorem dX12_nextCarry_83 : decode cX12_nextCarry 83 = .ok (.if_icmp .ge 10, 3) := by decide +kernel
theorem dX12_nextCarry_86 : decode cX12_nextCarry 86 = .ok (.bipush 12, 2) := by decide +kernel
theorem dX12_nextCarry_88 : decode cX12_nextCarry 88 = .ok (.iload_n 2, 1) := by decide +kernel
theorem dX12_nextCarry_89 : decode cX12_nextCarry 89 = .ok (.imul, 1) := by decide +kernel
theorem dX12_nextCarry_90 : decode cX12_nextCarry 90 = .ok (.iload_n 3, 1) := by decide +kernel
theorem dX12_nextCarry_91 : decode cX12_nextCarry 91 = .ok (.iadd, 1) := by decide +kernel
theorem dX12_nextCarry_92 : decode cX12_nextCarry 92 = .ok (.istore_n 1, 1) := by decide +kernel
theorem dX12_nextCarry_93 : decode cX12_nextCarry 93 = .ok (.iinc 3 1, 3) := by decide +kernel
theorem dX12_nextCarry_96 : decode cX12_nextCarry 96 = .ok (.goto (-82), 3) := by decide +kernel
theorem dX12_nextCarry_99 : decode cX12_nextCarry 99 = .ok (.iinc 2 1, 3) := by decide +kernel
theorem dX12_nextCarry_102 : decode cX12_nextCarry 102 = .ok (.goto (-98), 3) := by decide +kernel
theorem dX12_nextCarry_105 : decode cX12_nextCarry 105 = .ok (.iload_n 1, 1) := by decide +kernel
theorem dX12_nextCarry_106 : decode cX12_nextCarry 106 = .ok (.ireturn, 1) := by decide +kernel
theorem dX12_supply_0 : decode cX12_supply 0 = .ok (.aload_n 0, 1) := by decide +kernel
theorem dX12_supply_1 : decode cX12_supply 1 = .ok (.iconst 0, 1) := by decide +kernel
theorem dX12_supply_2 : decode cX12_supply 2 = .ok (.putfield 224, 3) := by decide +kernel
theorem dX12_supply_5 : decode cX12_supply 5 = .ok (.iload_n 1, 1) := by decide +kernel
theorem dX12_supply_6 : decode cX12_supply 6 = .ok (.iconst 1, 1) := by decide +kernel
theorem dX12_supply_7 : decode cX12_supply 7 = .ok (.if_icmp .lt 9, 3) := by decide +kernel
theorem dX12_supply_10 : decode cX12_supply 10 = .ok (.iload_n 1, 1) := by decide +kernel
theorem dX12_supply_11 : decode cX12_supply 11 = .ok (.bipush 99, 2) := by decide +kernel
theorem dX12_supply_13 : decode cX12_supply 13 = .ok (.if_icmp .le 5, 3) := by decide +kernel
theorem dX12_supply_16 : decode cX12_supply 16 = .ok (.iconst (-1), 1) := by decide +kernel
theorem dX12_supply_17 : decode cX12_supply 17 = .ok (.ireturn, 1) := by decide +kernel
theorem dX12_supply_18 : decode cX12_supply 18 = .ok (.aload_n 0, 1) := by decide +kernel
theorem dX12_supply_19 : decode cX12_supply 19 = .ok (.iconst 1, 1) := by decide +kernel
theorem dX12_supply_20 : decode cX12_supply 20 = .ok (.putfield 240, 3) := by decide +kernel
theorem dX12_supply_23 : decode cX12_supply 23 = .ok (.iconst 0, 1) := by decide +kernel
theorem dX12_supply_24 : decode cX12_supply 24 = .ok (.istore_n 2, 1) := by decide +kernel
theorem dX12_supply_25 : decode cX12_supply 25 = .ok (.iload_n 2, 1) := by decide +kernel
theorem dX12_supply_26 : decode cX12_supply 26 = .ok (.bipush 12, 2) := by decide +kernel
theorem dX12_supply_28 : decode cX12_supply 28 = .ok (.if_icmp .ge 148, 3) := by decide +kernel
theorem dX12_supply_31 : decode cX12_supply 31 = .ok (.aload_n 0, 1) := by decide +kernel
theorem dX12_supply_32 : decode cX12_supply 32 = .ok (.getfield 217, 3) := by decide +kernel
theorem dX12_supply_35 : decode cX12_supply 35 = .ok (.iload_n 2, 1) := by decide +kernel
theorem dX12_supply_36 : decode cX12_supply 36 = .ok (.aload_n 0, 1) := by decide +kernel
theorem dX12_supply_37 : decode cX12_supply 37 = .ok (.iload_n 2, 1) := by decide +kernel
theorem dX12_supply_38 : decode cX12_supply 38 = .ok (.invokevirtual 295, 3) := by decide +kernel
theorem dX12_supply_41 : decode cX12_supply 41 = .ok (.bastore, 1) := by decide +kernel
theorem dX12_supply_42 : decode cX12_supply 42 = .ok (.aload_n 0, 1) := by decide +kernel
theorem dX12_supply_43 : decode cX12_supply 43 = .ok (.getfield 214, 3) := by decide +kernel
theorem dX12_supply_46 : decode cX12_supply 46 = .ok (.iload_n 2, 1) := by decide +kernel
theorem dX12_supply_47 : decode cX12_supply 47 = .ok (.aload_n 0, 1) := by decide +kernel
theorem dX12_supply_48 : decode cX12_supply 48 = .ok (.getfield 217, 3) := by decide +kernel
theorem dX12_supply_51 : decode cX12_supply 51 = .ok (.iload_n 2, 1) := by decide +kernel
theorem dX12_supply_52 : decode cX12_supply 52 = .ok (.baload, 1) := by decide +kernel
theorem dX12_supply_53 : decode cX12_supply 53 = .ok (.ifCond .eq 16, 3) := by decide +kernel
theorem dX12_supply_56 : decode cX12_supply 56 = .ok (.aload_n 0, 1) := by decide +kernel
theorem dX12_supply_57 : decode cX12_supply 57 = .ok (.getfield 47, 3) := by decide +kernel
theorem dX12_supply_60 : decode cX12_supply 60 = .ok (.iload_n 2, 1) := by decide +kernel
theorem dX12_supply_61 : decode cX12_supply 61 = .ok (.iaload, 1) := by decide +kernel
theorem dX12_supply_62 : decode cX12_supply 62 = .ok (.ifCond .ne 7, 3) := by decide +kernel
theorem dX12_supply_65 : decode cX12_supply 65 = .ok (.iconst 1, 1) := by decide +kernel
theorem dX12_supply_66 : decode cX12_supply 66 = .ok (.goto 4, 3) := by decide +kernel
theorem dX12_supply_69 : decode cX12_supply 69 = .ok (.iconst 0, 1) := by decide +kernel
theorem dX12_supply_70 : decode cX12_supply 70 = .ok (.bastore, 1) := by decide +kernel
theorem dX12_supply_71 : decode cX12_supply 71 = .ok (.aload_n 0, 1) := by decide +kernel
theorem dX12_supply_72 : decode cX12_supply 72 = .ok (.getfield 205, 3) := by decide +kernel
theorem dX12_supply_75 : decode cX12_supply 75 = .ok (.iload_n 2, 1) := by decide +kernel
theorem dX12_supply_76 : decode cX12_supply 76 = .ok (.iconst 0, 1) := by decide +kernel
theorem dX12_supply_77 : decode cX12_supply 77 = .ok (.iastore, 1) := by decide +kernel
theorem dX12_supply_78 : decode cX12_supply 78 = .ok (.aload_n 0, 1) := by decide +kernel
theorem dX12_supply_79 : decode cX12_supply 79 = .ok (.getfield 208, 3) := by decide +kernel
theorem dX12_supply_82 : decode cX12_supply 82 = .ok (.iload_n 2, 1) := by decide +kernel
theorem dX12_supply_83 : decode cX12_supply 83 = .ok (.aload_n 0, 1) := by decide +kernel
theorem dX12_supply_84 : decode cX12_supply 84 = .ok (.getfield 214, 3) := by decide +kernel
theorem dX12_supply_87 : decode cX12_supply 87 = .ok (.iload_n 2, 1) := by decide +kernel
theorem dX12_supply_88 : decode cX12_supply 88 = .ok (.baload, 1) := by decide +kernel
theorem dX12_supply_89 : decode cX12_supply 89 = .ok (.ifCond .eq 14, 3) := by decide +kernel
theorem dX12_supply_92 : decode cX12_supply 92 = .ok (.aload_n 0, 1) := by decide +kernel
theorem dX12_supply_93 : decode cX12_supply 93 = .ok (.getfield 50, 3) := by decide +kernel
theorem dX12_supply_96 : decode cX12_supply 96 = .ok (.iload_n 2, 1) := by decide +kernel
theorem dX12_supply_97 : decode cX12_supply 97 = .ok (.iaload, 1) := by decide +kernel
theorem dX12_supply_98 : decode cX12_supply 98 = .ok (.iload_n 1, 1) := by decide +kernel
theorem dX12_supply_99 : decode cX12_supply 99 = .ok (.imul, 1) := by decide +kernel
theorem dX12_supply_100 : decode cX12_supply 100 = .ok (.goto 4, 3) := by decide +kernel
theorem dX12_supply_103 : decode cX12_supply 103 = .ok (.iconst 0, 1) := by decide +kernel
theorem dX12_supply_104 : decode cX12_supply 104 = .ok (.iastore, 1) := by decide +kernel
theorem dX12_supply_105 : decode cX12_supply 105 = .ok (.aload_n 0, 1) := by decide +kernel
theorem dX12_supply_106 : decode cX12_supply 106 = .ok (.getfield 211, 3) := by decide +kernel
theorem dX12_supply_109 : decode cX12_supply 109 = .ok (.iload_n 2, 1) := by decide +kernel
theorem dX12_supply_110 : decode cX12_supply 110 = .ok (.iconst (-1), 1) := by decide +kernel
theorem dX12_supply_111 : decode cX12_supply 111 = .ok (.iastore, 1) := by decide +kernel
theorem dX12_supply_112 : decode cX12_supply 112 = .ok (.aload_n 0, 1) := by decide +kernel
theorem dX12_supply_113 : decode cX12_supply 113 = .ok (.getfield 214, 3) := by decide +kernel
theorem dX12_supply_116 : decode cX12_supply 116 = .ok (.iload_n 2, 1) := by decide +kernel
theorem dX12_supply_117 : decode cX12_supply 117 = .ok (.baload, 1) := by decide +kernel
theorem dX12_supply_118 : decode cX12_supply 118 = .ok (.ifCond .ne 6, 3) := by decide +kernel
theorem dX12_supply_121 : decode cX12_supply 121 = .ok (.goto 49, 3) := by decide +kernel
theorem dX12_supply_124 : decode cX12_supply 124 = .ok (.aload_n 0, 1) := by decide +kernel
theorem dX12_supply_125 : decode cX12_supply 125 = .ok (.aload_n 0, 1) := by decide +kernel
theorem dX12_supply_126 : decode cX12_supply 126 = .ok (.iload_n 2, 1) := by decide +kernel
theorem dX12_supply_127 : decode cX12_supply 127 = .ok (.invokevirtual 274, 3) := by decide +kernel
theorem dX12_supply_130 : decode cX12_supply 130 = .ok (.invokevirtual 547, 3) := by decide +kernel
theorem dX12_supply_133 : decode cX12_supply 133 = .ok (.iconst 0, 1) := by decide +kernel
theorem dX12_supply_134 : decode cX12_supply 134 = .ok (.istore_n 3, 1) := by decide +kernel
theorem dX12_supply_135 : decode cX12_supply 135 = .ok (.iload_n 3, 1) := by decide +kernel
theorem dX12_supply_136 : decode cX12_supply 136 = .ok (.aload_n 0, 1) := by decide +kernel
theorem dX12_supply_137 : decode cX12_supply 137 = .ok (.getfield 227, 3) := by decide +kernel
theorem dX12_supply_140 : decode cX12_supply 140 = .ok (.if_icmp .ge 30, 3) := by decide +kernel
theorem dX12_supply_143 : decode cX12_supply 143 = .ok (.aload_n 0, 1) := by decide +kernel
theorem dX12_supply_144 : decode cX12_supply 144 = .ok (.getfield 202, 3) := by decide +kernel
theorem dX12_supply_147 : decode cX12_supply 147 = .ok (.bipush 12, 2) := by decide +kernel
theorem dX12_supply_149 : decode cX12_supply 149 = .ok (.iload_n 2, 1) := by decide +kernel
theorem dX12_supply_150 : decode cX12_supply 150 = .ok (.imul, 1) := by decide +kernel
theorem dX12_supply_151 : decode cX12_supply 151 = .ok (.iload_n 3, 1) := by decide +kernel
theorem dX12_supply_152 : decode cX12_supply 152 = .ok (.iadd, 1) := by decide +kernel
theorem dX12_supply_153 : decode cX12_supply 153 = .ok (.aload_n 0, 1) := by decide +kernel
theorem dX12_supply_154 : decode cX12_supply 154 = .ok (.getfield 196, 3) := by decide +kernel
theorem dX12_supply_157 : decode cX12_supply 157 = .ok (.aload_n 0, 1) := by decide +kernel
theorem dX12_supply_158 : decode cX12_supply 158 = .ok (.iload_n 3, 1) := by decide +kernel
theorem dX12_supply_159 : decode cX12_supply 159 = .ok (.invokevirtual 274, 3) := by decide +kernel
theorem dX12_supply_162 : decode cX12_supply 162 = .ok (.iaload, 1) := by decide +kernel
theorem dX12_supply_163 : decode cX12_supply 163 = .ok (.iastore, 1) := by decide +kernel
theorem dX12_supply_164 : decode cX12_supply 164 = .ok (.iinc 3 1, 3) := by decide +kernel
theorem dX12_supply_167 : decode cX12_supply 167 = .ok (.goto (-32), 3) := by decide +kernel
theorem dX12_supply_170 : decode cX12_supply 170 = .ok (.iinc 2 1, 3) := by decide +kernel
theorem dX12_supply_173 : decode cX12_supply 173 = .ok (.goto (-148), 3) := by decide +kernel
theorem dX12_supply_176 : decode cX12_supply 176 = .ok (.iconst 0, 1) := by decide +kernel
theorem dX12_supply_177 : decode cX12_supply 177 = .ok (.istore_n 2, 1) := by decide +kernel
theorem dX12_supply_178 : decode cX12_supply 178 = .ok (.aload_n 0, 1) := by decide +kernel
theorem dX12_supply_179 : decode cX12_supply 179 = .ok (.invokevirtual 550, 3) := by decide +kernel
theorem dX12_supply_182 : decode cX12_supply 182 = .ok (.istore_n 3, 1) := by decide +kernel
theorem dX12_supply_183 : decode cX12_supply 183 = .ok (.iload_n 3, 1) := by decide +kernel
theorem dX12_supply_184 : decode cX12_supply 184 = .ok (.iconst (-1), 1) := by decide +kernel
theorem dX12_supply_185 : decode cX12_supply 185 = .ok (.if_icmp .eq 109, 3) := by decide +kernel
theorem dX12_supply_188 : decode cX12_supply 188 = .ok (.iload_n 3, 1) := by decide +kernel
theorem dX12_supply_189 : decode cX12_supply 189 = .ok (.bipush 12, 2) := by decide +kernel
theorem dX12_supply_191 : decode cX12_supply 191 = .ok (.idiv, 1) := by decide +kernel
theorem dX12_supply_192 : decode cX12_supply 192 = .ok (.istore 4, 2) := by decide +kernel
theorem dX12_supply_194 : decode cX12_supply 194 = .ok (.iload_n 3, 1) := by decide +kernel
theorem dX12_supply_195 : decode cX12_supply 195 = .ok (.bipush 12, 2) := by decide +kernel
theorem dX12_supply_197 : decode cX12_supply 197 = .ok (.irem, 1) := by decide +kernel
theorem dX12_supply_198 : decode cX12_supply 198 = .ok (.istore 5, 2) := by decide +kernel
theorem dX12_supply_200 : decode cX12_supply 200 = .ok (.aload_n 0, 1) := by decide +kernel
theorem dX12_supply_201 : decode cX12_supply 201 = .ok (.getfield 53, 3) := by decide +kernel
theorem dX12_supply_204 : decode cX12_supply 204 = .ok (.iload 4, 2) := by decide +kernel
theorem dX12_supply_206 : decode cX12_supply 206 = .ok (.iaload, 1) := by decide +kernel
theorem dX12_supply_207 : decode cX12_supply 207 = .ok (.aload_n 0, 1) := by decide +kernel
theorem dX12_supply_208 : decode cX12_supply 208 = .ok (.getfield 208, 3) := by decide +kernel
theorem dX12_supply_211 : decode cX12_supply 211 = .ok (.iload 5, 2) := by decide +kernel
theorem dX12_supply_213 : decode cX12_supply 213 = .ok (.iaload, 1) := by decide +kernel
theorem dX12_supply_214 : decode cX12_supply 214 = .ok (.invokestatic 308, 3) := by decide +kernel
theorem dX12_supply_217 : decode cX12_supply 217 = .ok (.istore 6, 2) := by decide +kernel
theorem dX12_supply_219 : decode cX12_supply 219 = .ok (.aload_n 0, 1) := by decide +kernel
theorem dX12_supply_220 : decode cX12_supply 220 = .ok (.getfield 53, 3) := by decide +kernel
theorem dX12_supply_223 : decode cX12_supply 223 = .ok (.iload 4, 2) := by decide +kernel
theorem dX12_supply_225 : decode cX12_supply 225 = .ok (.dup2, 1) := by decide +kernel
theorem dX12_supply_226 : decode cX12_supply 226 = .ok (.iaload, 1) := by decide +kernel
theorem dX12_supply_227 : decode cX12_supply 227 = .ok (.iload 6, 2) := by decide +kernel
theorem dX12_supply_229 : decode cX12_supply 229 = .ok (.isub, 1) := by decide +kernel
theorem dX12_supply_230 : decode cX12_supply 230 = .ok (.iastore, 1) := by decide +kernel
theorem dX12_supply_231 : decode cX12_supply 231 = .ok (.aload_n 0, 1) := by decide +kernel
theorem dX12_supply_232 : decode cX12_supply 232 = .ok (.getfield 208, 3) := by decide +kernel
theorem dX12_supply_235 : decode cX12_supply 235 = .ok (.iload 5, 2) := by decide +kernel
theorem dX12_supply_237 : decode cX12_supply 237 = .ok (.dup2, 1) := by decide +kernel
theorem dX12_supply_238 : decode cX12_supply 238 = .ok (.iaload, 1) := by decide +kernel
theorem dX12_supply_239 : decode cX12_supply 239 = .ok (.iload 6, 2) := by decide +kernel
theorem dX12_supply_241 : decode cX12_supply 241 = .ok (.isub, 1) := by decide +kernel
theorem dX12_supply_242 : decode cX12_supply 242 = .ok (.iastore, 1) := by decide +kernel
theorem dX12_supply_243 : decode cX12_supply 243 = .ok (.aload_n 0, 1) := by decide +kernel
theorem dX12_supply_244 : decode cX12_supply 244 = .ok (.getfield 205, 3) := by decide +kernel
theorem dX12_supply_247 : decode cX12_supply 247 = .ok (.iload 5, 2) := by decide +kernel
theorem dX12_supply_249 : decode cX12_supply 249 = .ok (.iaload, 1) := by decide +kernel
theorem dX12_supply_250 : decode cX12_supply 250 = .ok (.ifCond .ne 12, 3) := by decide +kernel
theorem dX12_supply_253 : decode cX12_supply 253 = .ok (.aload_n 0, 1) := by decide +kernel
theorem dX12_supply_254 : decode cX12_supply 254 = .ok (.getfield 211, 3) := by decide +kernel
theorem dX12_supply_257 : decode cX12_supply 257 = .ok (.iload 5, 2) := by decide +kernel
theorem dX12_supply_259 : decode cX12_supply 259 = .ok (.iload 4, 2) := by decide +kernel
theorem dX12_supply_261 : decode cX12_supply 261 = .ok (.iastore, 1) := by decide +kernel
theorem dX12_supply_262 : decode cX12_supply 262 = .ok (.aload_n 0, 1) := by decide +kernel
theorem dX12_supply_263 : decode cX12_supply 263 = .ok (.getfield 205, 3) := by decide +kernel
theorem dX12_supply_266 : decode cX12_supply 266 = .ok (.iload 5, 2) := by decide +kernel
theorem dX12_supply_268 : decode cX12_supply 268 = .ok (.dup2, 1) := by decide +kernel
theorem dX12_supply_269 : decode cX12_supply 269 = .ok (.iaload, 1) := by decide +kernel
theorem dX12_supply_270 : decode cX12_supply 270 = .ok (.iload 6, 2) := by decide +kernel
theorem dX12_supply_272 : decode cX12_supply 272 = .ok (.iadd, 1) := by decide +kernel
theorem dX12_supply_273 : decode cX12_supply 273 = .ok (.iastore, 1) := by decide +kernel
theorem dX12_supply_274 : decode cX12_supply 274 = .ok (.iload_n 2, 1) := by decide +kernel
theorem dX12_supply_275 : decode cX12_supply 275 = .ok (.iload 6, 2) := by decide +kernel
theorem dX12_supply_277 : decode cX12_supply 277 = .ok (.aload_n 0, 1) := by decide +kernel
theorem dX12_supply_278 : decode cX12_supply 278 = .ok (.getfield 202, 3) := by decide +kernel
theorem dX12_supply_281 : decode cX12_supply 281 = .ok (.iload_n 3, 1) := by decide +kernel
theorem dX12_supply_282 : decode cX12_supply 282 = .ok (.iaload, 1) := by decide +kernel
theorem dX12_supply_283 : decode cX12_supply 283 = .ok (.imul, 1) := by decide +kernel
theorem dX12_supply_284 : decode cX12_supply 284 = .ok (.iadd, 1) := by decide +kernel
theorem dX12_supply_285 : decode cX12_supply 285 = .ok (.istore_n 2, 1) := by decide +kernel
theorem dX12_supply_286 : decode cX12_supply 286 = .ok (.aload_n 0, 1) := by decide +kernel
theorem dX12_supply_287 : decode cX12_supply 287 = .ok (.invokevirtual 550, 3) := by decide +kernel
theorem dX12_supply_290 : decode cX12_supply 290 = .ok (.istore_n 3, 1) := by decide +kernel
theorem dX12_supply_291 : decode cX12_supply 291 = .ok (.goto (-108), 3) := by decide +kernel
theorem dX12_supply_294 : decode cX12_supply 294 = .ok (.iload_n 2, 1) := by decide +kernel
theorem dX12_supply_295 : decode cX12_supply 295 = .ok (.ireturn, 1) := by decide +kernel
theorem dX12_supplied_0 : decode cX12_supplied 0 = .ok (.aload_n 0, 1) := by decide +kernel
theorem dX12_supplied_1 : decode cX12_supplied 1 = .ok (.iconst 0, 1) := by decide +kernel
theorem dX12_supplied_2 : decode cX12_supplied 2 = .ok (.putfield 224, 3) := by decide +kernel
theorem dX12_supplied_5 : decode cX12_supplied 5 = .ok (.aload_n 0, 1) := by decide +kernel
theorem dX12_supplied_6 : decode cX12_supplied 6 = .ok (.getfield 240, 3) := by decide +kernel
theorem dX12_supplied_9 : decode cX12_supplied 9 = .ok (.ifCond .eq 22, 3) := by decide +kernel
theorem dX12_supplied_12 : decode cX12_supplied 12 = .ok (.iload_n 1, 1) := by decide +kernel
theorem dX12_supplied_13 : decode cX12_supplied 13 = .ok (.ifCond .lt 18, 3) := by decide +kernel
theorem dX12_supplied_16 : decode cX12_supplied 16 = .ok (.iload_n 1, 1) := by decide +kernel
theorem dX12_supplied_17 : decode cX12_supplied 17 = .ok (.bipush 12, 2) := by decide +kernel
theorem dX12_supplied_19 : decode cX12_supplied 19 = .ok (.if_icmp .ge 12, 3) := by decide +kernel
theorem dX12_supplied_22 : decode cX12_supplied 22 = .ok (.aload_n 0, 1) := by decide +kernel
theorem dX12_supplied_23 : decode cX12_supplied 23 = .ok (.getfield 217, 3) := by decide +kernel
theorem dX12_supplied_26 : decode cX12_supplied 26 = .ok (.iload_n 1, 1) := by decide +kernel
theorem dX12_supplied_27 : decode cX12_supplied 27 = .ok (.baload, 1) := by decide +kernel
theorem dX12_supplied_28 : decode cX12_supplied 28 = .ok (.ifCond .ne 5, 3) := by decide +kernel
theorem dX12_supplied_31 : decode cX12_supplied 31 = .ok (.iconst (-1), 1) := by decide +kernel
theorem dX12_supplied_32 : decode cX12_supplied 32 = .ok (.ireturn, 1) := by decide +kernel
theorem dX12_supplied_33 : decode cX12_supplied 33 = .ok (.iload_n 2, 1) := by decide +kernel
theorem dX12_supplied_34 : decode cX12_supplied 34 = .ok (.tableswitch 47 0 2 #[26, 33, 40], 26) := by decide +kernel
theorem dX12_supplied_60 : decode cX12_supplied 60 = .ok (.aload_n 0, 1) := by decide +kernel
theorem dX12_supplied_61 : decode cX12_supplied 61 = .ok (.getfield 205, 3) := by decide +kernel
theorem dX12_supplied_64 : decode cX12_supplied 64 = .ok (.iload_n 1, 1) := by decide +kernel
theorem dX12_supplied_65 : decode cX12_supplied 65 = .ok (.iaload, 1) := by decide +kernel
theorem dX12_supplied_66 : decode cX12_supplied 66 = .ok (.ireturn, 1) := by decide +kernel
theorem dX12_supplied_67 : decode cX12_supplied 67 = .ok (.aload_n 0, 1) := by decide +kernel
theorem dX12_supplied_68 : decode cX12_supplied 68 = .ok (.getfield 208, 3) := by decide +kernel
theorem dX12_supplied_71 : decode cX12_supplied 71 = .ok (.iload_n 1, 1) := by decide +kernel
theorem dX12_supplied_72 : decode cX12_supplied 72 = .ok (.iaload, 1) := by decide +kernel
theorem dX12_supplied_73 : decode cX12_supplied 73 = .ok (.ireturn, 1) := by decide +kernel
theorem dX12_supplied_74 : decode cX12_supplied 74 = .ok (.aload_n 0, 1) := by decide +kernel
theorem dX12_supplied_75 : decode cX12_supplied 75 = .ok (.getfield 211, 3) := by decide +kernel
theorem dX12_supplied_78 : decode cX12_supplied 78 = .ok (.iload_n 1, 1) := by decide +kernel
theorem dX12_supplied_79 : decode cX12_supplied 79 = .ok (.iaload, 1) := by decide +kernel
theorem dX12_supplied_80 : decode cX12_supplied 80 = .ok (.ireturn, 1) := by decide +kernel
theorem dX12_supplied_81 : decode cX12_supplied 81 = .ok (.iconst (-1), 1) := by decide +kernel
theorem dX12_supplied_82 : decode cX12_supplied 82 = .ok (.ireturn, 1) := by decide +kernel
theorem dX12_look_0 : decode cX12_look 0 = .ok (.aload_n 0, 1) := by decide +kernel
theorem dX12_look_1 : decode cX12_look 1 = .ok (.iconst 0, 1) := by decide +kernel
theorem dX12_look_2 : decode cX12_look 2 = .ok (.putfield 224, 3) := by decide +kernel
theorem dX12_look_5 : decode cX12_look 5 = .ok (.aload_n 0, 1) := by decide +kernel
theorem dX12_look_6 : decode cX12_look 6 = .ok (.iload_n 1, 1) := by decide +kernel
theorem dX12_look_7 : decode cX12_look 7 = .ok (.invokevirtual 250, 3) := by decide +kernel
theorem dX12_look_10 : decode cX12_look 10 = .ok (.ifCond .ne 5, 3) := by decide +kernel
theorem dX12_look_13 : decode cX12_look 13 = .ok (.iconst (-1), 1) := by decide +kernel
theorem dX12_look_14 : decode cX12_look 14 = .ok (.ireturn, 1) := by decide +kernel
theorem dX12_look_15 : decode cX12_look 15 = .ok (.iload_n 2, 1) := by decide +kernel
theorem dX12_look_16 : decode cX12_look 16 = .ok (.tableswitch 93 0 6 #[44, 51, 58, 65, 72, 79, 86], 44) := by decide +kernel
theorem dX12_look_60 : decode cX12_look 60 = .ok (.aload_n 0, 1) := by decide +kernel
theorem dX12_look_61 : decode cX12_look 61 = .ok (.getfield 35, 3) := by decide +kernel
theorem dX12_look_64 : decode cX12_look 64 = .ok (.iload_n 1, 1) := by decide +kernel
theorem dX12_look_65 : decode cX12_look 65 = .ok (.iaload, 1) := by decide +kernel
theorem dX12_look_66 : decode cX12_look 66 = .ok (.ireturn, 1) := by decide +kernel
theorem dX12_look_67 : decode cX12_look 67 = .ok (.aload_n 0, 1) := by decide +kernel
theorem dX12_look_68 : decode cX12_look 68 = .ok (.getfield 38, 3) := by decide +kernel
theorem dX12_look_71 : decode cX12_look 71 = .ok (.iload_n 1, 1) := by decide +kernel
theorem dX12_look_72 : decode cX12_look 72 = .ok (.iaload, 1) := by decide +kernel
theorem dX12_look_73 : decode cX12_look 73 = .ok (.ireturn, 1) := by decide +kernel
theorem dX12_look_74 : decode cX12_look 74 = .ok (.aload_n 0, 1) := by decide +kernel
theorem dX12_look_75 : decode cX12_look 75 = .ok (.getfield 47, 3) := by decide +kernel
theorem dX12_look_78 : decode cX12_look 78 = .ok (.iload_n 1, 1) := by decide +kernel
theorem dX12_look_79 : decode cX12_look 79 = .ok (.iaload, 1) := by decide +kernel
theorem dX12_look_80 : decode cX12_look 80 = .ok (.ireturn, 1) := by decide +kernel
theorem dX12_look_81 : decode cX12_look 81 = .ok (.aload_n 0, 1) := by decide +kernel
theorem dX12_look_82 : decode cX12_look 82 = .ok (.getfield 50, 3) := by decide +kernel
theorem dX12_look_85 : decode cX12_look 85 = .ok (.iload_n 1, 1) := by decide +kernel
theorem dX12_look_86 : decode cX12_look 86 = .ok (.iaload, 1) := by decide +kernel
theorem dX12_look_87 : decode cX12_look 87 = .ok (.ireturn, 1) := by decide +kernel
theorem dX12_look_88 : decode cX12_look 88 = .ok (.aload_n 0, 1) := by decide +kernel
theorem dX12_look_89 : decode cX12_look 89 = .ok (.getfield 53, 3) := by decide +kernel
theorem dX12_look_92 : decode cX12_look 92 = .ok (.iload_n 1, 1) := by decide +kernel
theorem dX12_look_93 : decode cX12_look 93 = .ok (.iaload, 1) := by decide +kernel
theorem dX12_look_94 : decode cX12_look 94 = .ok (.ireturn, 1) := by decide +kernel
theorem dX12_look_95 : decode cX12_look 95 = .ok (.aload_n 0, 1) := by decide +kernel
theorem dX12_look_96 : decode cX12_look 96 = .ok (.getfield 41, 3) := by decide +kernel
theorem dX12_look_99 : decode cX12_look 99 = .ok (.iload_n 1, 1) := by decide +kernel
theorem dX12_look_100 : decode cX12_look 100 = .ok (.iaload, 1) := by decide +kernel
theorem dX12_look_101 : decode cX12_look 101 = .ok (.ireturn, 1) := by decide +kernel
theorem dX12_look_102 : decode cX12_look 102 = .ok (.aload_n 0, 1) := by decide +kernel
theorem dX12_look_103 : decode cX12_look 103 = .ok (.getfield 44, 3) := by decide +kernel
theorem dX12_look_106 : decode cX12_look 106 = .ok (.iload_n 1, 1) := by decide +kernel
theorem dX12_look_107 : decode cX12_look 107 = .ok (.iaload, 1) := by decide +kernel
theorem dX12_look_108 : decode cX12_look 108 = .ok (.ireturn, 1) := by decide +kernel
theorem dX12_look_109 : decode cX12_look 109 = .ok (.iconst (-1), 1) := by decide +kernel
theorem dX12_look_110 : decode cX12_look 110 = .ok (.ireturn, 1) := by decide +kernel
theorem dX12_count_0 : decode cX12_count 0 = .ok (.aload_n 0, 1) := by decide +kernel
theorem dX12_count_1 : decode cX12_count 1 = .ok (.iconst 0, 1) := by decide +kernel
theorem dX12_count_2 : decode cX12_count 2 = .ok (.putfield 224, 3) := by decide +kernel
theorem dX12_count_5 : decode cX12_count 5 = .ok (.iload_n 1, 1) := by decide +kernel
theorem dX12_count_6 : decode cX12_count 6 = .ok (.tableswitch 94 0 7 #[46, 51, 56, 61, 66, 73, 80, 87], 46) := by decide +kernel
theorem dX12_count_52 : decode cX12_count 52 = .ok (.aload_n 0, 1) := by decide +kernel
theorem dX12_count_53 : decode cX12_count 53 = .ok (.getfield 7, 3) := by decide +kernel
theorem dX12_count_56 : decode cX12_count 56 = .ok (.ireturn, 1) := by decide +kernel
theorem dX12_count_57 : decode cX12_count 57 = .ok (.aload_n 0, 1) := by decide +kernel
theorem dX12_count_58 : decode cX12_count 58 = .ok (.getfield 13, 3) := by decide +kernel
theorem dX12_count_61 : decode cX12_count 61 = .ok (.ireturn, 1) := by decide +kernel
theorem dX12_count_62 : decode cX12_count 62 = .ok (.aload_n 0, 1) := by decide +kernel
theorem dX12_count_63 : decode cX12_count 63 = .ok (.getfield 227, 3) := by decide +kernel
theorem dX12_count_66 : decode cX12_count 66 = .ok (.ireturn, 1) := by decide +kernel
theorem dX12_count_67 : decode cX12_count 67 = .ok (.aload_n 0, 1) := by decide +kernel
theorem dX12_count_68 : decode cX12_count 68 = .ok (.getfield 230, 3) := by decide +kernel
theorem dX12_count_71 : decode cX12_count 71 = .ok (.ireturn, 1) := by decide +kernel
theorem dX12_count_72 : decode cX12_count 72 = .ok (.aload_n 0, 1) := by decide +kernel
theorem dX12_count_73 : decode cX12_count 73 = .ok (.getfield 84, 3) := by decide +kernel
theorem dX12_count_76 : decode cX12_count 76 = .ok (.iconst 0, 1) := by decide +kernel
theorem dX12_count_77 : decode cX12_count 77 = .ok (.iaload, 1) := by decide +kernel
theorem dX12_count_78 : decode cX12_count 78 = .ok (.ireturn, 1) := by decide +kernel
theorem dX12_count_79 : decode cX12_count 79 = .ok (.aload_n 0, 1) := by decide +kernel
theorem dX12_count_80 : decode cX12_count 80 = .ok (.getfield 112, 3) := by decide +kernel
theorem dX12_count_83 : decode cX12_count 83 = .ok (.iconst 0, 1) := by decide +kernel
theorem dX12_count_84 : decode cX12_count 84 = .ok (.iaload, 1) := by decide +kernel
theorem dX12_count_85 : decode cX12_count 85 = .ok (.ireturn, 1) := by decide +kernel
theorem dX12_count_86 : decode cX12_count 86 = .ok (.aload_n 0, 1) := by decide +kernel
theorem dX12_count_87 : decode cX12_count 87 = .ok (.getfield 106, 3) := by decide +kernel
theorem dX12_count_90 : decode cX12_count 90 = .ok (.iconst 0, 1) := by decide +kernel
theorem dX12_count_91 : decode cX12_count 91 = .ok (.iaload, 1) := by decide +kernel
theorem dX12_count_92 : decode cX12_count 92 = .ok (.ireturn, 1) := by decide +kernel
theorem dX12_count_93 : decode cX12_count 93 = .ok (.aload_n 0, 1) := by decide +kernel
theorem dX12_count_94 : decode cX12_count 94 = .ok (.getfield 109, 3) := by decide +kernel
theorem dX12_count_97 : decode cX12_count 97 = .ok (.iconst 0, 1) := by decide +kernel
theorem dX12_count_98 : decode cX12_count 98 = .ok (.iaload, 1) := by decide +kernel
theorem dX12_count_99 : decode cX12_count 99 = .ok (.ireturn, 1) := by decide +kernel
theorem dX12_count_100 : decode cX12_count 100 = .ok (.iconst (-1), 1) := by decide +kernel
theorem dX12_count_101 : decode cX12_count 101 = .ok (.ireturn, 1) := by decide +kernel
theorem dL_law_0 : decode cL_law 0 = .ok (.new 7, 3) := by decide +kernel
theorem dL_law_3 : decode cL_law 3 = .ok (.dup, 1) := by decide +kernel
theorem dL_law_4 : decode cL_law 4 = .ok (.invokespecial 9, 3) := by decide +kernel
theorem dL_law_7 : decode cL_law 7 = .ok (.astore_n 1, 1) := by decide +kernel
theorem dL_law_8 : decode cL_law 8 = .ok (.new 10, 3) := by decide +kernel
theorem dL_law_11 : decode cL_law 11 = .ok (.dup, 1) := by decide +kernel
theorem dL_law_12 : decode cL_law 12 = .ok (.invokespecial 12, 3) := by decide +kernel
theorem dL_law_15 : decode cL_law 15 = .ok (.astore_n 2, 1) := by decide +kernel
theorem dL_law_16 : decode cL_law 16 = .ok (.iconst 0, 1) := by decide +kernel
theorem dL_law_17 : decode cL_law 17 = .ok (.istore_n 3, 1) := by decide +kernel
theorem dL_law_18 : decode cL_law 18 = .ok (.iload_n 3, 1) := by decide +kernel
theorem dL_law_19 : decode cL_law 19 = .ok (.aload_n 0, 1) := by decide +kernel
theorem dL_law_20 : decode cL_law 20 = .ok (.arraylength, 1) := by decide +kernel
theorem dL_law_21 : decode cL_law 21 = .ok (.bipush 7, 2) := by decide +kernel
theorem dL_law_23 : decode cL_law 23 = .ok (.isub, 1) := by decide +kernel
theorem dL_law_24 : decode cL_law 24 = .ok (.if_icmp .gt 1456, 3) := by decide +kernel
theorem dL_law_27 : decode cL_law 27 = .ok (.aload_n 0, 1) := by decide +kernel
theorem dL_law_28 : decode cL_law 28 = .ok (.iload_n 3, 1) := by decide +kernel
theorem dL_law_29 : decode cL_law 29 = .ok (.iaload, 1) := by decide +kernel
theorem dL_law_30 : decode cL_law 30 = .ok (.bipush 31, 2) := by decide +kernel
theorem dL_law_32 : decode cL_law 32 = .ok (.iand, 1) := by decide +kernel
theorem dL_law_33 : decode cL_law 33 = .ok (.tableswitch 1441 0 31 #[143, 176, 251, 294, 317, 370, 461, 514, 573, 606, 649, 672, 715, 728, 771, 824, 877, 930, 963, 976, 1025, 1088, 1111, 1134, 1197, 1240, 1263, 1296, 1329, 1352, 1385, 1418], 143) := by decide +kernel
theorem dL_law_176 : decode cL_law 176 = .ok (.aload_n 1, 1) := by decide +kernel
theorem dL_law_177 : decode cL_law 177 = .ok (.aload_n 0, 1) := by decide +kernel
theorem dL_law_178 : decode cL_law 178 = .ok (.iload_n 3, 1) := by decide +kernel
theorem dL_law_179 : decode cL_law 179 = .ok (.iconst 1, 1) := by decide +kernel
theorem dL_law_180 : decode cL_law 180 = .ok (.iadd, 1) := by decide +kernel
theorem dL_law_181 : decode cL_law 181 = .ok (.iaload, 1) := by decide +kernel
theorem dL_law_182 : decode cL_law 182 = .ok (.aload_n 0, 1) := by decide +kernel
theorem dL_law_183 : decode cL_law 183 = .ok (.iload_n 3, 1) := by decide +kernel
theorem dL_law_184 : decode cL_law 184 = .ok (.iconst 2, 1) := by decide +kernel
theorem dL_law_185 : decode cL_law 185 = .ok (.iadd, 1) := by decide +kernel
theorem dL_law_186 : decode cL_law 186 = .ok (.iaload, 1) := by decide +kernel
theorem dL_law_187 : decode cL_law 187 = .ok (.invokevirtual 13, 3) := by decide +kernel
theorem dL_law_190 : decode cL_law 190 = .ok (.pop, 1) := by decide +kernel
theorem dL_law_191 : decode cL_law 191 = .ok (.aload_n 2, 1) := by decide +kernel
theorem dL_law_192 : decode cL_law 192 = .ok (.aload_n 0, 1) := by decide +kernel
theorem dL_law_193 : decode cL_law 193 = .ok (.iload_n 3, 1) := by decide +kernel
theorem dL_law_194 : decode cL_law 194 = .ok (.iconst 1, 1) := by decide +kernel
theorem dL_law_195 : decode cL_law 195 = .ok (.iadd, 1) := by decide +kernel
theorem dL_law_196 : decode cL_law 196 = .ok (.iaload, 1) := by decide +kernel
theorem dL_law_197 : decode cL_law 197 = .ok (.aload_n 0, 1) := by decide +kernel
theorem dL_law_198 : decode cL_law 198 = .ok (.iload_n 3, 1) := by decide +kernel
theorem dL_law_199 : decode cL_law 199 = .ok (.iconst 2, 1) := by decide +kernel
theorem dL_law_200 : decode cL_law 200 = .ok (.iadd, 1) := by decide +kernel
theorem dL_law_201 : decode cL_law 201 = .ok (.iaload, 1) := by decide +kernel
theorem dL_law_202 : decode cL_law 202 = .ok (.invokevirtual 17, 3) := by decide +kernel
theorem dL_law_205 : decode cL_law 205 = .ok (.pop, 1) := by decide +kernel
theorem dL_law_206 : decode cL_law 206 = .ok (.goto 1268, 3) := by decide +kernel
theorem dL_law_209 : decode cL_law 209 = .ok (.aload_n 1, 1) := by decide +kernel
theorem dL_law_210 : decode cL_law 210 = .ok (.aload_n 0, 1) := by decide +kernel
theorem dL_law_211 : decode cL_law 211 = .ok (.iload_n 3, 1) := by decide +kernel
theorem dL_law_212 : decode cL_law 212 = .ok (.iconst 1, 1) := by decide +kernel
theorem dL_law_213 : decode cL_law 213 = .ok (.iadd, 1) := by decide +kernel
theorem dL_law_214 : decode cL_law 214 = .ok (.iaload, 1) := by decide +kernel
theorem dL_law_215 : decode cL_law 215 = .ok (.aload_n 0, 1) := by decide +kernel
theorem dL_law_216 : decode cL_law 216 = .ok (.iload_n 3, 1) := by decide +kernel
theorem dL_law_217 : decode cL_law 217 = .ok (.iconst 2, 1) := by decide +kernel
theorem dL_law_218 : decode cL_law 218 = .ok (.iadd, 1) := by decide +kernel
theorem dL_law_219 : decode cL_law 219 = .ok (.iaload, 1) := by decide +kernel
theorem dL_law_220 : decode cL_law 220 = .ok (.aload_n 0, 1) := by decide +kernel
theorem dL_law_221 : decode cL_law 221 = .ok (.iload_n 3, 1) := by decide +kernel
theorem dL_law_222 : decode cL_law 222 = .ok (.iconst 3, 1) := by decide +kernel
theorem dL_law_223 : decode cL_law 223 = .ok (.iadd, 1) := by decide +kernel
theorem dL_law_224 : decode cL_law 224 = .ok (.iaload, 1) := by decide +kernel
theorem dL_law_225 : decode cL_law 225 = .ok (.aload_n 0, 1) := by decide +kernel
theorem dL_law_226 : decode cL_law 226 = .ok (.iload_n 3, 1) := by decide +kernel
theorem dL_law_227 : decode cL_law 227 = .ok (.iconst 4, 1) := by decide +kernel
theorem dL_law_228 : decode cL_law 228 = .ok (.iadd, 1) := by decide +kernel
theorem dL_law_229 : decode cL_law 229 = .ok (.iaload, 1) := by decide +kernel
theorem dL_law_230 : decode cL_law 230 = .ok (.aload_n 0, 1) := by decide +kernel
theorem dL_law_231 : decode cL_law 231 = .ok (.iload_n 3, 1) := by decide +kernel
theorem dL_law_232 : decode cL_law 232 = .ok (.iconst 5, 1) := by decide +kernel
theorem dL_law_233 : decode cL_law 233 = .ok (.iadd, 1) := by decide +kernel
theorem dL_law_234 : decode cL_law 234 = .ok (.iaload, 1) := by decide +kernel
theorem dL_law_235 : decode cL_law 235 = .ok (.aload_n 0, 1) := by decide +kernel
theorem dL_law_236 : decode cL_law 236 = .ok (.iload_n 3, 1) := by decide +kernel
theorem dL_law_237 : decode cL_law 237 = .ok (.bipush 6, 2) := by decide +kernel
theorem dL_law_239 : decode cL_law 239 = .ok (.iadd, 1) := by decide +kernel
theorem dL_law_240 : decode cL_law 240 = .ok (.iaload, 1) := by decide +kernel
theorem dL_law_241 : decode cL_law 241 = .ok (.invokevirtual 18, 3) := by decide +kernel
theorem dL_law_244 : decode cL_law 244 = .ok (.pop, 1) := by decide +kernel
theorem dL_law_245 : decode cL_law 245 = .ok (.aload_n 2, 1) := by decide +kernel
theorem dL_law_246 : decode cL_law 246 = .ok (.aload_n 0, 1) := by decide +kernel
theorem dL_law_247 : decode cL_law 247 = .ok (.iload_n 3, 1) := by decide +kernel
theorem dL_law_248 : decode cL_law 248 = .ok (.iconst 1, 1) := by decide +kernel
theorem dL_law_249 : decode cL_law 249 = .ok (.iadd, 1) := by decide +kernel
theorem dL_law_250 : decode cL_law 250 = .ok (.iaload, 1) := by decide +kernel
theorem dL_law_251 : decode cL_law 251 = .ok (.aload_n 0, 1) := by decide +kernel
theorem dL_law_252 : decode cL_law 252 = .ok (.iload_n 3, 1) := by decide +kernel
theorem dL_law_253 : decode cL_law 253 = .ok (.iconst 2, 1) := by decide +kernel
theorem dL_law_254 : decode cL_law 254 = .ok (.iadd, 1) := by decide +kernel
theorem dL_law_255 : decode cL_law 255 = .ok (.iaload, 1) := by decide +kernel
theorem dL_law_256 : decode cL_law 256 = .ok (.aload_n 0, 1) := by decide +kernel
theorem dL_law_257 : decode cL_law 257 = .ok (.iload_n 3, 1) := by decide +kernel
theorem dL_law_258 : decode cL_law 258 = .ok (.iconst 3, 1) := by decide +kernel
theorem dL_law_259 : decode cL_law 259 = .ok (.iadd, 1) := by decide +kernel
theorem dL_law_260 : decode cL_law 260 = .ok (.iaload, 1) := by decide +kernel
theorem dL_law_261 : decode cL_law 261 = .ok (.aload_n 0, 1) := by decide +kernel
theorem dL_law_262 : decode cL_law 262 = .ok (.iload_n 3, 1) := by decide +kernel
theorem dL_law_263 : decode cL_law 263 = .ok (.iconst 4, 1) := by decide +kernel
theorem dL_law_264 : decode cL_law 264 = .ok (.iadd, 1) := by decide +kernel
theorem dL_law_265 : decode cL_law 265 = .ok (.iaload, 1) := by decide +kernel
theorem dL_law_266 : decode cL_law 266 = .ok (.aload_n 0, 1) := by decide +kernel
theorem dL_law_267 : decode cL_law 267 = .ok (.iload_n 3, 1) := by decide +kernel
theorem dL_law_268 : decode cL_law 268 = .ok (.iconst 5, 1) := by decide +kernel
theorem dL_law_269 : decode cL_law 269 = .ok (.iadd, 1) := by decide +kernel
theorem dL_law_270 : decode cL_law 270 = .ok (.iaload, 1) := by decide +kernel
theorem dL_law_271 : decode cL_law 271 = .ok (.aload_n 0, 1) := by decide +kernel
theorem dL_law_272 : decode cL_law 272 = .ok (.iload_n 3, 1) := by decide +kernel
theorem dL_law_273 : decode cL_law 273 = .ok (.bipush 6, 2) := by decide +kernel
theorem dL_law_275 : decode cL_law 275 = .ok (.iadd, 1) := by decide +kernel
theorem dL_law_276 : decode cL_law 276 = .ok (.iaload, 1) := by decide +kernel
theorem dL_law_277 : decode cL_law 277 = .ok (.invokevirtual 22, 3) := by decide +kernel
theorem dL_law_280 : decode cL_law 280 = .ok (.pop, 1) := by decide +kernel
theorem dL_law_281 : decode cL_law 281 = .ok (.goto 1193, 3) := by decide +kernel
theorem dL_law_284 : decode cL_law 284 = .ok (.aload_n 1, 1) := by decide +kernel
theorem dL_law_285 : decode cL_law 285 = .ok (.aload_n 0, 1) := by decide +kernel
theorem dL_law_286 : decode cL_law 286 = .ok (.iload_n 3, 1) := by decide +kernel
theorem dL_law_287 : decode cL_law 287 = .ok (.iconst 1, 1) := by decide +kernel
theorem dL_law_288 : decode cL_law 288 = .ok (.iadd, 1) := by decide +kernel
theorem dL_law_289 : decode cL_law 289 = .ok (.iaload, 1) := by decide +kernel
theorem dL_law_290 : decode cL_law 290 = .ok (.aload_n 0, 1) := by decide +kernel
theorem dL_law_291 : decode cL_law 291 = .ok (.iload_n 3, 1) := by decide +kernel
theorem dL_law_292 : decode cL_law 292 = .ok (.iconst 2, 1) := by decide +kernel
theorem dL_law_293 : decode cL_law 293 = .ok (.iadd, 1) := by decide +kernel
theorem dL_law_294 : decode cL_law 294 = .ok (.iaload, 1) := by decide +kernel
theorem dL_law_295 : decode cL_law 295 = .ok (.aload_n 0, 1) := by decide +kernel
theorem dL_law_296 : decode cL_law 296 = .ok (.iload_n 3, 1) := by decide +kernel
theorem dL_law_297 : decode cL_law 297 = .ok (.iconst 3, 1) := by decide +kernel
theorem dL_law_298 : decode cL_law 298 = .ok (.iadd, 1) := by decide +kernel
theorem dL_law_299 : decode cL_law 299 = .ok (.iaload, 1) := by decide +kernel
theorem dL_law_300 : decode cL_law 300 = .ok (.invokevirtual 23, 3) := by decide +kernel
theorem dL_law_303 : decode cL_law 303 = .ok (.pop, 1) := by decide +kernel
theorem dL_law_304 : decode cL_law 304 = .ok (.aload_n 2, 1) := by decide +kernel
theorem dL_law_305 : decode cL_law 305 = .ok (.aload_n 0, 1) := by decide +kernel
theorem dL_law_306 : decode cL_law 306 = .ok (.iload_n 3, 1) := by decide +kernel
theorem dL_law_307 : decode cL_law 307 = .ok (.iconst 1, 1) := by decide +kernel
theorem dL_law_308 : decode cL_law 308 = .ok (.iadd, 1) := by decide +kernel
theorem dL_law_309 : decode cL_law 309 = .ok (.iaload, 1) := by decide +kernel
theorem dL_law_310 : decode cL_law 310 = .ok (.aload_n 0, 1) := by decide +kernel
theorem dL_law_311 : decode cL_law 311 = .ok (.iload_n 3, 1) := by decide +kernel
theorem dL_law_312 : decode cL_law 312 = .ok (.iconst 2, 1) := by decide +kernel
theorem dL_law_313 : decode cL_law 313 = .ok (.iadd, 1) := by decide +kernel
theorem dL_law_314 : decode cL_law 314 = .ok (.iaload, 1) := by decide +kernel
theorem dL_law_315 : decode cL_law 315 = .ok (.aload_n 0, 1) := by decide +kernel
theorem dL_law_316 : decode cL_law 316 = .ok (.iload_n 3, 1) := by decide +kernel
theorem dL_law_317 : decode cL_law 317 = .ok (.iconst 3, 1) := by decide +kernel
theorem dL_law_318 : decode cL_law 318 = .ok (.iadd, 1) := by decide +kernel
theorem dL_law_319 : decode cL_law 319 = .ok (.iaload, 1) := by decide +kernel
theorem dL_law_320 : decode cL_law 320 = .ok (.invokevirtual 27, 3) := by decide +kernel
theorem dL_law_323 : decode cL_law 323 = .ok (.pop, 1) := by decide +kernel
theorem dL_law_324 : decode cL_law 324 = .ok (.goto 1150, 3) := by decide +kernel
theorem dL_law_327 : decode cL_law 327 = .ok (.aload_n 1, 1) := by decide +kernel
theorem dL_law_328 : decode cL_law 328 = .ok (.aload_n 0, 1) := by decide +kernel
theorem dL_law_329 : decode cL_law 329 = .ok (.iload_n 3, 1) := by decide +kernel
theorem dL_law_330 : decode cL_law 330 = .ok (.iconst 1, 1) := by decide +kernel
theorem dL_law_331 : decode cL_law 331 = .ok (.iadd, 1) := by decide +kernel
theorem dL_law_332 : decode cL_law 332 = .ok (.iaload, 1) := by decide +kernel
theorem dL_law_333 : decode cL_law 333 = .ok (.invokevirtual 28, 3) := by decide +kernel
theorem dL_law_336 : decode cL_law 336 = .ok (.pop, 1) := by decide +kernel
theorem dL_law_337 : decode cL_law 337 = .ok (.aload_n 2, 1) := by decide +kernel
theorem dL_law_338 : decode cL_law 338 = .ok (.aload_n 0, 1) := by decide +kernel
theorem dL_law_339 : decode cL_law 339 = .ok (.iload_n 3, 1) := by decide +kernel
theorem dL_law_340 : decode cL_law 340 = .ok (.iconst 1, 1) := by decide +kernel
theorem dL_law_341 : decode cL_law 341 = .ok (.iadd, 1) := by decide +kernel
theorem dL_law_342 : decode cL_law 342 = .ok (.iaload, 1) := by decide +kernel
theorem dL_law_343 : decode cL_law 343 = .ok (.invokevirtual 32, 3) := by decide +kernel
theorem dL_law_346 : decode cL_law 346 = .ok (.pop, 1) := by decide +kernel
theorem dL_law_347 : decode cL_law 347 = .ok (.goto 1127, 3) := by decide +kernel
theorem dL_law_350 : decode cL_law 350 = .ok (.aload_n 1, 1) := by decide +kernel
theorem dL_law_351 : decode cL_law 351 = .ok (.aload_n 0, 1) := by decide +kernel
theorem dL_law_352 : decode cL_law 352 = .ok (.iload_n 3, 1) := by decide +kernel
theorem dL_law_353 : decode cL_law 353 = .ok (.iconst 1, 1) := by decide +kernel
theorem dL_law_354 : decode cL_law 354 = .ok (.iadd, 1) := by decide +kernel
theorem dL_law_355 : decode cL_law 355 = .ok (.iaload, 1) := by decide +kernel
theorem dL_law_356 : decode cL_law 356 = .ok (.aload_n 0, 1) := by decide +kernel
theorem dL_law_357 : decode cL_law 357 = .ok (.iload_n 3, 1) := by decide +kernel
theorem dL_law_358 : decode cL_law 358 = .ok (.iconst 2, 1) := by decide +kernel
theorem dL_law_359 : decode cL_law 359 = .ok (.iadd, 1) := by decide +kernel
theorem dL_law_360 : decode cL_law 360 = .ok (.iaload, 1) := by decide +kernel
theorem dL_law_361 : decode cL_law 361 = .ok (.aload_n 0, 1) := by decide +kernel
theorem dL_law_362 : decode cL_law 362 = .ok (.iload_n 3, 1) := by decide +kernel
theorem dL_law_363 : decode cL_law 363 = .ok (.iconst 3, 1) := by decide +kernel
theorem dL_law_364 : decode cL_law 364 = .ok (.iadd, 1) := by decide +kernel
theorem dL_law_365 : decode cL_law 365 = .ok (.iaload, 1) := by decide +kernel
theorem dL_law_366 : decode cL_law 366 = .ok (.aload_n 0, 1) := by decide +kernel
theorem dL_law_367 : decode cL_law 367 = .ok (.iload_n 3, 1) := by decide +kernel
theorem dL_law_368 : decode cL_law 368 = .ok (.iconst 4, 1) := by decide +kernel
theorem dL_law_369 : decode cL_law 369 = .ok (.iadd, 1) := by decide +kernel
theorem dL_law_370 : decode cL_law 370 = .ok (.iaload, 1) := by decide +kernel
theorem dL_law_371 : decode cL_law 371 = .ok (.invokevirtual 33, 3) := by decide +kernel
theorem dL_law_374 : decode cL_law 374 = .ok (.pop, 1) := by decide +kernel
theorem dL_law_375 : decode cL_law 375 = .ok (.aload_n 2, 1) := by decide +kernel
theorem dL_law_376 : decode cL_law 376 = .ok (.aload_n 0, 1) := by decide +kernel
theorem dL_law_377 : decode cL_law 377 = .ok (.iload_n 3, 1) := by decide +kernel
theorem dL_law_378 : decode cL_law 378 = .ok (.iconst 1, 1) := by decide +kernel
theorem dL_law_379 : decode cL_law 379 = .ok (.iadd, 1) := by decide +kernel
theorem dL_law_380 : decode cL_law 380 = .ok (.iaload, 1) := by decide +kernel
theorem dL_law_381 : decode cL_law 381 = .ok (.aload_n 0, 1) := by decide +kernel
theorem dL_law_382 : decode cL_law 382 = .ok (.iload_n 3, 1) := by decide +kernel
theorem dL_law_383 : decode cL_law 383 = .ok (.iconst 2, 1) := by decide +kernel
theorem dL_law_384 : decode cL_law 384 = .ok (.iadd, 1) := by decide +kernel
theorem dL_law_385 : decode cL_law 385 = .ok (.iaload, 1) := by decide +kernel
theorem dL_law_386 : decode cL_law 386 = .ok (.aload_n 0, 1) := by decide +kernel
theorem dL_law_387 : decode cL_law 387 = .ok (.iload_n 3, 1) := by decide +kernel
theorem dL_law_388 : decode cL_law 388 = .ok (.iconst 3, 1) := by decide +kernel
theorem dL_law_389 : decode cL_law 389 = .ok (.iadd, 1) := by decide +kernel
theorem dL_law_390 : decode cL_law 390 = .ok (.iaload, 1) := by decide +kernel
theorem dL_law_391 : decode cL_law 391 = .ok (.aload_n 0, 1) := by decide +kernel
theorem dL_law_392 : decode cL_law 392 = .ok (.iload_n 3, 1) := by decide +kernel
theorem dL_law_393 : decode cL_law 393 = .ok (.iconst 4, 1) := by decide +kernel
theorem dL_law_394 : decode cL_law 394 = .ok (.iadd, 1) := by decide +kernel
theorem dL_law_395 : decode cL_law 395 = .ok (.iaload, 1) := by decide +kernel
theorem dL_law_396 : decode cL_law 396 = .ok (.invokevirtual 37, 3) := by decide +kernel
theorem dL_law_399 : decode cL_law 399 = .ok (.pop, 1) := by decide +kernel
theorem dL_law_400 : decode cL_law 400 = .ok (.goto 1074, 3) := by decide +kernel
theorem dL_law_403 : decode cL_law 403 = .ok (.aload_n 1, 1) := by decide +kernel
theorem dL_law_404 : decode cL_law 404 = .ok (.aload_n 0, 1) := by decide +kernel
theorem dL_law_405 : decode cL_law 405 = .ok (.iload_n 3, 1) := by decide +kernel
theorem dL_law_406 : decode cL_law 406 = .ok (.iconst 1, 1) := by decide +kernel
theorem dL_law_407 : decode cL_law 407 = .ok (.iadd, 1) := by decide +kernel
theorem dL_law_408 : decode cL_law 408 = .ok (.iaload, 1) := by decide +kernel
theorem dL_law_409 : decode cL_law 409 = .ok (.aload_n 0, 1) := by decide +kernel
theorem dL_law_410 : decode cL_law 410 = .ok (.iload_n 3, 1) := by decide +kernel
theorem dL_law_411 : decode cL_law 411 = .ok (.iconst 2, 1) := by decide +kernel
theorem dL_law_412 : decode cL_law 412 = .ok (.iadd, 1) := by decide +kernel
theorem dL_law_413 : decode cL_law 413 = .ok (.iaload, 1) := by decide +kernel
theorem dL_law_414 : decode cL_law 414 = .ok (.aload_n 0, 1) := by decide +kernel
theorem dL_law_415 : decode cL_law 415 = .ok (.iload_n 3, 1) := by decide +kernel
theorem dL_law_416 : decode cL_law 416 = .ok (.iconst 3, 1) := by decide +kernel
theorem dL_law_417 : decode cL_law 417 = .ok (.iadd, 1) := by decide +kernel
theorem dL_law_418 : decode cL_law 418 = .ok (.iaload, 1) := by decide +kernel
theorem dL_law_419 : decode cL_law 419 = .ok (.aload_n 0, 1) := by decide +kernel
theorem dL_law_420 : decode cL_law 420 = .ok (.iload_n 3, 1) := by decide +kernel
theorem dL_law_421 : decode cL_law 421 = .ok (.iconst 4, 1) := by decide +kernel
theorem dL_law_422 : decode cL_law 422 = .ok (.iadd, 1) := by decide +kernel
theorem dL_law_423 : decode cL_law 423 = .ok (.iaload, 1) := by decide +kernel
theorem dL_law_424 : decode cL_law 424 = .ok (.aload_n 0, 1) := by decide +kernel
theorem dL_law_425 : decode cL_law 425 = .ok (.iload_n 3, 1) := by decide +kernel
theorem dL_law_426 : decode cL_law 426 = .ok (.iconst 5, 1) := by decide +kernel
theorem dL_law_427 : decode cL_law 427 = .ok (.iadd, 1) := by decide +kernel
theorem dL_law_428 : decode cL_law 428 = .ok (.iaload, 1) := by decide +kernel
theorem dL_law_429 : decode cL_law 429 = .ok (.ifCond .eq 7, 3) := by decide +kernel
theorem dL_law_432 : decode cL_law 432 = .ok (.iconst 1, 1) := by decide +kernel
theorem dL_law_433 : decode cL_law 433 = .ok (.goto 4, 3) := by decide +kernel
theorem dL_law_436 : decode cL_law 436 = .ok (.iconst 0, 1) := by decide +kernel
theorem dL_law_437 : decode cL_law 437 = .ok (.aload_n 0, 1) := by decide +kernel
theorem dL_law_438 : decode cL_law 438 = .ok (.iload_n 3, 1) := by decide +kernel
theorem dL_law_439 : decode cL_law 439 = .ok (.bipush 6, 2) := by decide +kernel
theorem dL_law_441 : decode cL_law 441 = .ok (.iadd, 1) := by decide +kernel
theorem dL_law_442 : decode cL_law 442 = .ok (.iaload, 1) := by decide +kernel
theorem dL_law_443 : decode cL_law 443 = .ok (.invokevirtual 38, 3) := by decide +kernel
theorem dL_law_446 : decode cL_law 446 = .ok (.pop, 1) := by decide +kernel
theorem dL_law_447 : decode cL_law 447 = .ok (.aload_n 2, 1) := by decide +kernel
theorem dL_law_448 : decode cL_law 448 = .ok (.aload_n 0, 1) := by decide +kernel
theorem dL_law_449 : decode cL_law 449 = .ok (.iload_n 3, 1) := by decide +kernel
theorem dL_law_450 : decode cL_law 450 = .ok (.iconst 1, 1) := by decide +kernel
theorem dL_law_451 : decode cL_law 451 = .ok (.iadd, 1) := by decide +kernel
theorem dL_law_452 : decode cL_law 452 = .ok (.iaload, 1) := by decide +kernel
theorem dL_law_453 : decode cL_law 453 = .ok (.aload_n 0, 1) := by decide +kernel
theorem dL_law_454 : decode cL_law 454 = .ok (.iload_n 3, 1) := by decide +kernel
theorem dL_law_455 : decode cL_law 455 = .ok (.iconst 2, 1) := by decide +kernel
theorem dL_law_456 : decode cL_law 456 = .ok (.iadd, 1) := by decide +kernel
theorem dL_law_457 : decode cL_law 457 = .ok (.iaload, 1) := by decide +kernel
theorem dL_law_458 : decode cL_law 458 = .ok (.aload_n 0, 1) := by decide +kernel
theorem dL_law_459 : decode cL_law 459 = .ok (.iload_n 3, 1) := by decide +kernel
theorem dL_law_460 : decode cL_law 460 = .ok (.iconst 3, 1) := by decide +kernel
theorem dL_law_461 : decode cL_law 461 = .ok (.iadd, 1) := by decide +kernel
theorem dL_law_462 : decode cL_law 462 = .ok (.iaload, 1) := by decide +kernel
theorem dL_law_463 : decode cL_law 463 = .ok (.aload_n 0, 1) := by decide +kernel
theorem dL_law_464 : decode cL_law 464 = .ok (.iload_n 3, 1) := by decide +kernel
theorem dL_law_465 : decode cL_law 465 = .ok (.iconst 4, 1) := by decide +kernel
theorem dL_law_466 : decode cL_law 466 = .ok (.iadd, 1) := by decide +kernel
theorem dL_law_467 : decode cL_law 467 = .ok (.iaload, 1) := by decide +kernel
theorem dL_law_468 : decode cL_law 468 = .ok (.aload_n 0, 1) := by decide +kernel
theorem dL_law_469 : decode cL_law 469 = .ok (.iload_n 3, 1) := by decide +kernel
theorem dL_law_470 : decode cL_law 470 = .ok (.iconst 5, 1) := by decide +kernel
theorem dL_law_471 : decode cL_law 471 = .ok (.iadd, 1) := by decide +kernel
theorem dL_law_472 : decode cL_law 472 = .ok (.iaload, 1) := by decide +kernel
theorem dL_law_473 : decode cL_law 473 = .ok (.ifCond .eq 7, 3) := by decide +kernel
theorem dL_law_476 : decode cL_law 476 = .ok (.iconst 1, 1) := by decide +kernel
theorem dL_law_477 : decode cL_law 477 = .ok (.goto 4, 3) := by decide +kernel
theorem dL_law_480 : decode cL_law 480 = .ok (.iconst 0, 1) := by decide +kernel
theorem dL_law_481 : decode cL_law 481 = .ok (.aload_n 0, 1) := by decide +kernel
theorem dL_law_482 : decode cL_law 482 = .ok (.iload_n 3, 1) := by decide +kernel
theorem dL_law_483 : decode cL_law 483 = .ok (.bipush 6, 2) := by decide +kernel
theorem dL_law_485 : decode cL_law 485 = .ok (.iadd, 1) := by decide +kernel
theorem dL_law_486 : decode cL_law 486 = .ok (.iaload, 1) := by decide +kernel
theorem dL_law_487 : decode cL_law 487 = .ok (.invokevirtual 42, 3) := by decide +kernel
theorem dL_law_490 : decode cL_law 490 = .ok (.pop, 1) := by decide +kernel
theorem dL_law_491 : decode cL_law 491 = .ok (.goto 983, 3) := by decide +kernel
theorem dL_law_494 : decode cL_law 494 = .ok (.aload_n 1, 1) := by decide +kernel
theorem dL_law_495 : decode cL_law 495 = .ok (.aload_n 0, 1) := by decide +kernel
theorem dL_law_496 : decode cL_law 496 = .ok (.iload_n 3, 1) := by decide +kernel
theorem dL_law_497 : decode cL_law 497 = .ok (.iconst 1, 1) := by decide +kernel
theorem dL_law_498 : decode cL_law 498 = .ok (.iadd, 1) := by decide +kernel
theorem dL_law_499 : decode cL_law 499 = .ok (.iaload, 1) := by decide +kernel
theorem dL_law_500 : decode cL_law 500 = .ok (.aload_n 0, 1) := by decide +kernel
theorem dL_law_501 : decode cL_law 501 = .ok (.iload_n 3, 1) := by decide +kernel
theorem dL_law_502 : decode cL_law 502 = .ok (.iconst 2, 1) := by decide +kernel
theorem dL_law_503 : decode cL_law 503 = .ok (.iadd, 1) := by decide +kernel
theorem dL_law_504 : decode cL_law 504 = .ok (.iaload, 1) := by decide +kernel
theorem dL_law_505 : decode cL_law 505 = .ok (.aload_n 0, 1) := by decide +kernel
theorem dL_law_506 : decode cL_law 506 = .ok (.iload_n 3, 1) := by decide +kernel
theorem dL_law_507 : decode cL_law 507 = .ok (.iconst 3, 1) := by decide +kernel
theorem dL_law_508 : decode cL_law 508 = .ok (.iadd, 1) := by decide +kernel
theorem dL_law_509 : decode cL_law 509 = .ok (.iaload, 1) := by decide +kernel
theorem dL_law_510 : decode cL_law 510 = .ok (.aload_n 0, 1) := by decide +kernel
theorem dL_law_511 : decode cL_law 511 = .ok (.iload_n 3, 1) := by decide +kernel
theorem dL_law_512 : decode cL_law 512 = .ok (.iconst 4, 1) := by decide +kernel
theorem dL_law_513 : decode cL_law 513 = .ok (.iadd, 1) := by decide +kernel
theorem dL_law_514 : decode cL_law 514 = .ok (.iaload, 1) := by decide +kernel
theorem dL_law_515 : decode cL_law 515 = .ok (.invokevirtual 43, 3) := by decide +kernel
theorem dL_law_518 : decode cL_law 518 = .ok (.pop, 1) := by decide +kernel
theorem dL_law_519 : decode cL_law 519 = .ok (.aload_n 2, 1) := by decide +kernel
theorem dL_law_520 : decode cL_law 520 = .ok (.aload_n 0, 1) := by decide +kernel
theorem dL_law_521 : decode cL_law 521 = .ok (.iload_n 3, 1) := by decide +kernel
theorem dL_law_522 : decode cL_law 522 = .ok (.iconst 1, 1) := by decide +kernel
theorem dL_law_523 : decode cL_law 523 = .ok (.iadd, 1) := by decide +kernel
theorem dL_law_524 : decode cL_law 524 = .ok (.iaload, 1) := by decide +kernel
theorem dL_law_525 : decode cL_law 525 = .ok (.aload_n 0, 1) := by decide +kernel
theorem dL_law_526 : decode cL_law 526 = .ok (.iload_n 3, 1) := by decide +kernel
theorem dL_law_527 : decode cL_law 527 = .ok (.iconst 2, 1) := by decide +kernel
theorem dL_law_528 : decode cL_law 528 = .ok (.iadd, 1) := by decide +kernel
theorem dL_law_529 : decode cL_law 529 = .ok (.iaload, 1) := by decide +kernel
theorem dL_law_530 : decode cL_law 530 = .ok (.aload_n 0, 1) := by decide +kernel
theorem dL_law_531 : decode cL_law 531 = .ok (.iload_n 3, 1) := by decide +kernel
theorem dL_law_532 : decode cL_law 532 = .ok (.iconst 3, 1) := by decide +kernel
theorem dL_law_533 : decode cL_law 533 = .ok (.iadd, 1) := by decide +kernel
theorem dL_law_534 : decode cL_law 534 = .ok (.iaload, 1) := by decide +kernel
theorem dL_law_535 : decode cL_law 535 = .ok (.aload_n 0, 1) := by decide +kernel
theorem dL_law_536 : decode cL_law 536 = .ok (.iload_n 3, 1) := by decide +kernel
theorem dL_law_537 : decode cL_law 537 = .ok (.iconst 4, 1) := by decide +kernel
theorem dL_law_538 : decode cL_law 538 = .ok (.iadd, 1) := by decide +kernel
theorem dL_law_539 : decode cL_law 539 = .ok (.iaload, 1) := by decide +kernel
theorem dL_law_540 : decode cL_law 540 = .ok (.invokevirtual 47, 3) := by decide +kernel
theorem dL_law_543 : decode cL_law 543 = .ok (.pop, 1) := by decide +kernel
theorem dL_law_544 : decode cL_law 544 = .ok (.goto 930, 3) := by decide +kernel
theorem dL_law_547 : decode cL_law 547 = .ok (.aload_n 1, 1) := by decide +kernel
theorem dL_law_548 : decode cL_law 548 = .ok (.aload_n 0, 1) := by decide +kernel
theorem dL_law_549 : decode cL_law 549 = .ok (.iload_n 3, 1) := by decide +kernel
theorem dL_law_550 : decode cL_law 550 = .ok (.iconst 1, 1) := by decide +kernel
theorem dL_law_551 : decode cL_law 551 = .ok (.iadd, 1) := by decide +kernel
theorem dL_law_552 : decode cL_law 552 = .ok (.iaload, 1) := by decide +kernel
theorem dL_law_553 : decode cL_law 553 = .ok (.aload_n 0, 1) := by decide +kernel
theorem dL_law_554 : decode cL_law 554 = .ok (.iload_n 3, 1) := by decide +kernel
theorem dL_law_555 : decode cL_law 555 = .ok (.iconst 2, 1) := by decide +kernel
theorem dL_law_556 : decode cL_law 556 = .ok (.iadd, 1) := by decide +kernel
theorem dL_law_557 : decode cL_law 557 = .ok (.iaload, 1) := by decide +kernel
theorem dL_law_558 : decode cL_law 558 = .ok (.aload_n 0, 1) := by decide +kernel
theorem dL_law_559 : decode cL_law 559 = .ok (.iload_n 3, 1) := by decide +kernel
theorem dL_law_560 : decode cL_law 560 = .ok (.iconst 3, 1) := by decide +kernel
theorem dL_law_561 : decode cL_law 561 = .ok (.iadd, 1) := by decide +kernel
theorem dL_law_562 : decode cL_law 562 = .ok (.iaload, 1) := by decide +kernel
theorem dL_law_563 : decode cL_law 563 = .ok (.ifCond .eq 7, 3) := by decide +kernel
theorem dL_law_566 : decode cL_law 566 = .ok (.iconst 1, 1) := by decide +kernel
theorem dL_law_567 : decode cL_law 567 = .ok (.goto 4, 3) := by decide +kernel
theorem dL_law_570 : decode cL_law 570 = .ok (.iconst 0, 1) := by decide +kernel
theorem dL_law_571 : decode cL_law 571 = .ok (.invokevirtual 48, 3) := by decide +kernel
theorem dL_law_574 : decode cL_law 574 = .ok (.pop, 1) := by decide +kernel
theorem dL_law_575 : decode cL_law 575 = .ok (.aload_n 2, 1) := by decide +kernel
theorem dL_law_576 : decode cL_law 576 = .ok (.aload_n 0, 1) := by decide +kernel
theorem dL_law_577 : decode cL_law 577 = .ok (.iload_n 3, 1) := by decide +kernel
theorem dL_law_578 : decode cL_law 578 = .ok (.iconst 1, 1) := by decide +kernel
theorem dL_law_579 : decode cL_law 579 = .ok (.iadd, 1) := by decide +kernel
theorem dL_law_580 : decode cL_law 580 = .ok (.iaload, 1) := by decide +kernel
theorem dL_law_581 : decode cL_law 581 = .ok (.aload_n 0, 1) := by decide +kernel
theorem dL_law_582 : decode cL_law 582 = .ok (.iload_n 3, 1) := by decide +kernel
theorem dL_law_583 : decode cL_law 583 = .ok (.iconst 2, 1) := by decide +kernel
theorem dL_law_584 : decode cL_law 584 = .ok (.iadd, 1) := by decide +kernel
theorem dL_law_585 : decode cL_law 585 = .ok (.iaload, 1) := by decide +kernel
theorem dL_law_586 : decode cL_law 586 = .ok (.aload_n 0, 1) := by decide +kernel
theorem dL_law_587 : decode cL_law 587 = .ok (.iload_n 3, 1) := by decide +kernel
theorem dL_law_588 : decode cL_law 588 = .ok (.iconst 3, 1) := by decide +kernel
theorem dL_law_589 : decode cL_law 589 = .ok (.iadd, 1) := by decide +kernel
theorem dL_law_590 : decode cL_law 590 = .ok (.iaload, 1) := by decide +kernel
theorem dL_law_591 : decode cL_law 591 = .ok (.ifCond .eq 7, 3) := by decide +kernel
theorem dL_law_594 : decode cL_law 594 = .ok (.iconst 1, 1) := by decide +kernel
theorem dL_law_595 : decode cL_law 595 = .ok (.goto 4, 3) := by decide +kernel
theorem dL_law_598 : decode cL_law 598 = .ok (.iconst 0, 1) := by decide +kernel
theorem dL_law_599 : decode cL_law 599 = .ok (.invokevirtual 52, 3) := by decide +kernel
theorem dL_law_602 : decode cL_law 602 = .ok (.pop, 1) := by decide +kernel
theorem dL_law_603 : decode cL_law 603 = .ok (.goto 871, 3) := by decide +kernel
theorem dL_law_606 : decode cL_law 606 = .ok (.aload_n 1, 1) := by decide +kernel
theorem dL_law_607 : decode cL_law 607 = .ok (.aload_n 0, 1) := by decide +kernel
theorem dL_law_608 : decode cL_law 608 = .ok (.iload_n 3, 1) := by decide +kernel
theorem dL_law_609 : decode cL_law 609 = .ok (.iconst 1, 1) := by decide +kernel
theorem dL_law_610 : decode cL_law 610 = .ok (.iadd, 1) := by decide +kernel
theorem dL_law_611 : decode cL_law 611 = .ok (.iaload, 1) := by decide +kernel
theorem dL_law_612 : decode cL_law 612 = .ok (.aload_n 0, 1) := by decide +kernel
theorem dL_law_613 : decode cL_law 613 = .ok (.iload_n 3, 1) := by decide +kernel
theorem dL_law_614 : decode cL_law 614 = .ok (.iconst 2, 1) := by decide +kernel
theorem dL_law_615 : decode cL_law 615 = .ok (.iadd, 1) := by decide +kernel
theorem dL_law_616 : decode cL_law 616 = .ok (.iaload, 1) := by decide +kernel
theorem dL_law_617 : decode cL_law 617 = .ok (.invokevirtual 53, 3) := by decide +kernel
theorem dL_law_620 : decode cL_law 620 = .ok (.pop, 1) := by decide +kernel
theorem dL_law_621 : decode cL_law 621 = .ok (.aload_n 2, 1) := by decide +kernel
theorem dL_law_622 : decode cL_law 622 = .ok (.aload_n 0, 1) := by decide +kernel
theorem dL_law_623 : decode cL_law 623 = .ok (.iload_n 3, 1) := by decide +kernel
theorem dL_law_624 : decode cL_law 624 = .ok (.iconst 1, 1) := by decide +kernel
theorem dL_law_625 : decode cL_law 625 = .ok (.iadd, 1) := by decide +kernel
theorem dL_law_626 : decode cL_law 626 = .ok (.iaload, 1) := by decide +kernel
theorem dL_law_627 : decode cL_law 627 = .ok (.aload_n 0, 1) := by decide +kernel
theorem dL_law_628 : decode cL_law 628 = .ok (.iload_n 3, 1) := by decide +kernel
theorem dL_law_629 : decode cL_law 629 = .ok (.iconst 2, 1) := by decide +kernel
theorem dL_law_630 : decode cL_law 630 = .ok (.iadd, 1) := by decide +kernel
theorem dL_law_631 : decode cL_law 631 = .ok (.iaload, 1) := by decide +kernel
theorem dL_law_632 : decode cL_law 632 = .ok (.invokevirtual 57, 3) := by decide +kernel
theorem dL_law_635 : decode cL_law 635 = .ok (.pop, 1) := by decide +kernel
theorem dL_law_636 : decode cL_law 636 = .ok (.goto 838, 3) := by decide +kernel
theorem dL_law_639 : decode cL_law 639 = .ok (.aload_n 1, 1) := by decide +kernel
theorem dL_law_640 : decode cL_law 640 = .ok (.aload_n 0, 1) := by decide +kernel
theorem dL_law_641 : decode cL_law 641 = .ok (.iload_n 3, 1) := by decide +kernel
theorem dL_law_642 : decode cL_law 642 = .ok (.iconst 1, 1) := by decide +kernel
theorem dL_law_643 : decode cL_law 643 = .ok (.iadd, 1) := by decide +kernel
theorem dL_law_644 : decode cL_law 644 = .ok (.iaload, 1) := by decide +kernel
theorem dL_law_645 : decode cL_law 645 = .ok (.aload_n 0, 1) := by decide +kernel
theorem dL_law_646 : decode cL_law 646 = .ok (.iload_n 3, 1) := by decide +kernel
theorem dL_law_647 : decode cL_law 647 = .ok (.iconst 2, 1) := by decide +kernel
theorem dL_law_648 : decode cL_law 648 = .ok (.iadd, 1) := by decide +kernel
theorem dL_law_649 : decode cL_law 649 = .ok (.iaload, 1) := by decide +kernel
theorem dL_law_650 : decode cL_law 650 = .ok (.aload_n 0, 1) := by decide +kernel
theorem dL_law_651 : decode cL_law 651 = .ok (.iload_n 3, 1) := by decide +kernel
theorem dL_law_652 : decode cL_law 652 = .ok (.iconst 3, 1) := by decide +kernel
theorem dL_law_653 : decode cL_law 653 = .ok (.iadd, 1) := by decide +kernel
theorem dL_law_654 : decode cL_law 654 = .ok (.iaload, 1) := by decide +kernel
theorem dL_law_655 : decode cL_law 655 = .ok (.invokevirtual 58, 3) := by decide +kernel
theorem dL_law_658 : decode cL_law 658 = .ok (.pop, 1) := by decide +kernel
theorem dL_law_659 : decode cL_law 659 = .ok (.aload_n 2, 1) := by decide +kernel
theorem dL_law_660 : decode cL_law 660 = .ok (.aload_n 0, 1) := by decide +kernel
theorem dL_law_661 : decode cL_law 661 = .ok (.iload_n 3, 1) := by decide +kernel
theorem dL_law_662 : decode cL_law 662 = .ok (.iconst 1, 1) := by decide +kernel
theorem dL_law_663 : decode cL_law 663 = .ok (.iadd, 1) := by decide +kernel
theorem dL_law_664 : decode cL_law 664 = .ok (.iaload, 1) := by decide +kernel
theorem dL_law_665 : decode cL_law 665 = .ok (.aload_n 0, 1) := by decide +kernel
theorem dL_law_666 : decode cL_law 666 = .ok (.iload_n 3, 1) := by decide +kernel
theorem dL_law_667 : decode cL_law 667 = .ok (.iconst 2, 1) := by decide +kernel
theorem dL_law_668 : decode cL_law 668 = .ok (.iadd, 1) := by decide +kernel
theorem dL_law_669 : decode cL_law 669 = .ok (.iaload, 1) := by decide +kernel
theorem dL_law_670 : decode cL_law 670 = .ok (.aload_n 0, 1) := by decide +kernel
theorem dL_law_671 : decode cL_law 671 = .ok (.iload_n 3, 1) := by decide +kernel
theorem dL_law_672 : decode cL_law 672 = .ok (.iconst 3, 1) := by decide +kernel
theorem dL_law_673 : decode cL_law 673 = .ok (.iadd, 1) := by decide +kernel
theorem dL_law_674 : decode cL_law 674 = .ok (.iaload, 1) := by decide +kernel
theorem dL_law_675 : decode cL_law 675 = .ok (.invokevirtual 62, 3) := by decide +kernel
theorem dL_law_678 : decode cL_law 678 = .ok (.pop, 1) := by decide +kernel
theorem dL_law_679 : decode cL_law 679 = .ok (.goto 795, 3) := by decide +kernel
theorem dL_law_682 : decode cL_law 682 = .ok (.aload_n 1, 1) := by decide +kernel
theorem dL_law_683 : decode cL_law 683 = .ok (.aload_n 0, 1) := by decide +kernel
theorem dL_law_684 : decode cL_law 684 = .ok (.iload_n 3, 1) := by decide +kernel
theorem dL_law_685 : decode cL_law 685 = .ok (.iconst 1, 1) := by decide +kernel
theorem dL_law_686 : decode cL_law 686 = .ok (.iadd, 1) := by decide +kernel
theorem dL_law_687 : decode cL_law 687 = .ok (.iaload, 1) := by decide +kernel
theorem dL_law_688 : decode cL_law 688 = .ok (.invokevirtual 63, 3) := by decide +kernel
theorem dL_law_691 : decode cL_law 691 = .ok (.pop, 1) := by decide +kernel
theorem dL_law_692 : decode cL_law 692 = .ok (.aload_n 2, 1) := by decide +kernel
theorem dL_law_693 : decode cL_law 693 = .ok (.aload_n 0, 1) := by decide +kernel
theorem dL_law_694 : decode cL_law 694 = .ok (.iload_n 3, 1) := by decide +kernel
theorem dL_law_695 : decode cL_law 695 = .ok (.iconst 1, 1) := by decide +kernel
theorem dL_law_696 : decode cL_law 696 = .ok (.iadd, 1) := by decide +kernel
theorem dL_law_697 : decode cL_law 697 = .ok (.iaload, 1) := by decide +kernel
theorem dL_law_698 : decode cL_law 698 = .ok (.invokevirtual 67, 3) := by decide +kernel
theorem dL_law_701 : decode cL_law 701 = .ok (.pop, 1) := by decide +kernel
theorem dL_law_702 : decode cL_law 702 = .ok (.goto 772, 3) := by decide +kernel
theorem dL_law_705 : decode cL_law 705 = .ok (.aload_n 1, 1) := by decide +kernel
theorem dL_law_706 : decode cL_law 706 = .ok (.aload_n 0, 1) := by decide +kernel
theorem dL_law_707 : decode cL_law 707 = .ok (.iload_n 3, 1) := by decide +kernel
theorem dL_law_708 : decode cL_law 708 = .ok (.iconst 1, 1) := by decide +kernel
theorem dL_law_709 : decode cL_law 709 = .ok (.iadd, 1) := by decide +kernel
theorem dL_law_710 : decode cL_law 710 = .ok (.iaload, 1) := by decide +kernel
theorem dL_law_711 : decode cL_law 711 = .ok (.aload_n 0, 1) := by decide +kernel
theorem dL_law_712 : decode cL_law 712 = .ok (.iload_n 3, 1) := by decide +kernel
theorem dL_law_713 : decode cL_law 713 = .ok (.iconst 2, 1) := by decide +kernel
theorem dL_law_714 : decode cL_law 714 = .ok (.iadd, 1) := by decide +kernel
theorem dL_law_715 : decode cL_law 715 = .ok (.iaload, 1) := by decide +kernel
theorem dL_law_716 : decode cL_law 716 = .ok (.aload_n 0, 1) := by decide +kernel
theorem dL_law_717 : decode cL_law 717 = .ok (.iload_n 3, 1) := by decide +kernel
theorem dL_law_718 : decode cL_law 718 = .ok (.iconst 3, 1) := by decide +kernel
theorem dL_law_719 : decode cL_law 719 = .ok (.iadd, 1) := by decide +kernel
theorem dL_law_720 : decode cL_law 720 = .ok (.iaload, 1) := by decide +kernel
theorem dL_law_721 : decode cL_law 721 = .ok (.invokevirtual 68, 3) := by decide +kernel
theorem dL_law_724 : decode cL_law 724 = .ok (.pop, 1) := by decide +kernel
theorem dL_law_725 : decode cL_law 725 = .ok (.aload_n 2, 1) := by decide +kernel
theorem dL_law_726 : decode cL_law 726 = .ok (.aload_n 0, 1) := by decide +kernel
theorem dL_law_727 : decode cL_law 727 = .ok (.iload_n 3, 1) := by decide +kernel
theorem dL_law_728 : decode cL_law 728 = .ok (.iconst 1, 1) := by decide +kernel
theorem dL_law_729 : decode cL_law 729 = .ok (.iadd, 1) := by decide +kernel
theorem dL_law_730 : decode cL_law 730 = .ok (.iaload, 1) := by decide +kernel
theorem dL_law_731 : decode cL_law 731 = .ok (.aload_n 0, 1) := by decide +kernel
theorem dL_law_732 : decode cL_law 732 = .ok (.iload_n 3, 1) := by decide +kernel
theorem dL_law_733 : decode cL_law 733 = .ok (.iconst 2, 1) := by decide +kernel
theorem dL_law_734 : decode cL_law 734 = .ok (.iadd, 1) := by decide +kernel
theorem dL_law_735 : decode cL_law 735 = .ok (.iaload, 1) := by decide +kernel
theorem dL_law_736 : decode cL_law 736 = .ok (.aload_n 0, 1) := by decide +kernel
theorem dL_law_737 : decode cL_law 737 = .ok (.iload_n 3, 1) := by decide +kernel
theorem dL_law_738 : decode cL_law 738 = .ok (.iconst 3, 1) := by decide +kernel
theorem dL_law_739 : decode cL_law 739 = .ok (.iadd, 1) := by decide +kernel
theorem dL_law_740 : decode cL_law 740 = .ok (.iaload, 1) := by decide +kernel
theorem dL_law_741 : decode cL_law 741 = .ok (.invokevirtual 71, 3) := by decide +kernel
theorem dL_law_744 : decode cL_law 744 = .ok (.pop, 1) := by decide +kernel
theorem dL_law_745 : decode cL_law 745 = .ok (.goto 729, 3) := by decide +kernel
theorem dL_law_748 : decode cL_law 748 = .ok (.aload_n 1, 1) := by decide +kernel
theorem dL_law_749 : decode cL_law 749 = .ok (.invokevirtual 72, 3) := by decide +kernel
theorem dL_law_752 : decode cL_law 752 = .ok (.pop, 1) := by decide +kernel
theorem dL_law_753 : decode cL_law 753 = .ok (.aload_n 2, 1) := by decide +kernel
theorem dL_law_754 : decode cL_law 754 = .ok (.invokevirtual 76, 3) := by decide +kernel
theorem dL_law_757 : decode cL_law 757 = .ok (.pop, 1) := by decide +kernel
theorem dL_law_758 : decode cL_law 758 = .ok (.goto 716, 3) := by decide +kernel
theorem dL_law_761 : decode cL_law 761 = .ok (.aload_n 1, 1) := by decide +kernel
theorem dL_law_762 : decode cL_law 762 = .ok (.aload_n 0, 1) := by decide +kernel
theorem dL_law_763 : decode cL_law 763 = .ok (.iload_n 3, 1) := by decide +kernel
theorem dL_law_764 : decode cL_law 764 = .ok (.iconst 1, 1) := by decide +kernel
theorem dL_law_765 : decode cL_law 765 = .ok (.iadd, 1) := by decide +kernel
theorem dL_law_766 : decode cL_law 766 = .ok (.iaload, 1) := by decide +kernel
theorem dL_law_767 : decode cL_law 767 = .ok (.aload_n 0, 1) := by decide +kernel
theorem dL_law_768 : decode cL_law 768 = .ok (.iload_n 3, 1) := by decide +kernel
theorem dL_law_769 : decode cL_law 769 = .ok (.iconst 2, 1) := by decide +kernel
theorem dL_law_770 : decode cL_law 770 = .ok (.iadd, 1) := by decide +kernel
theorem dL_law_771 : decode cL_law 771 = .ok (.iaload, 1) := by decide +kernel
theorem dL_law_772 : decode cL_law 772 = .ok (.aload_n 0, 1) := by decide +kernel
theorem dL_law_773 : decode cL_law 773 = .ok (.iload_n 3, 1) := by decide +kernel
theorem dL_law_774 : decode cL_law 774 = .ok (.iconst 3, 1) := by decide +kernel
theorem dL_law_775 : decode cL_law 775 = .ok (.iadd, 1) := by decide +kernel
theorem dL_law_776 : decode cL_law 776 = .ok (.iaload, 1) := by decide +kernel
theorem dL_law_777 : decode cL_law 777 = .ok (.invokevirtual 77, 3) := by decide +kernel
theorem dL_law_780 : decode cL_law 780 = .ok (.pop, 1) := by decide +kernel
theorem dL_law_781 : decode cL_law 781 = .ok (.aload_n 2, 1) := by decide +kernel
theorem dL_law_782 : decode cL_law 782 = .ok (.aload_n 0, 1) := by decide +kernel
theorem dL_law_783 : decode cL_law 783 = .ok (.iload_n 3, 1) := by decide +kernel
theorem dL_law_784 : decode cL_law 784 = .ok (.iconst 1, 1) := by decide +kernel
theorem dL_law_785 : decode cL_law 785 = .ok (.iadd, 1) := by decide +kernel
theorem dL_law_786 : decode cL_law 786 = .ok (.iaload, 1) := by decide +kernel
theorem dL_law_787 : decode cL_law 787 = .ok (.aload_n 0, 1) := by decide +kernel
theorem dL_law_788 : decode cL_law 788 = .ok (.iload_n 3, 1) := by decide +kernel
theorem dL_law_789 : decode cL_law 789 = .ok (.iconst 2, 1) := by decide +kernel
theorem dL_law_790 : decode cL_law 790 = .ok (.iadd, 1) := by decide +kernel
theorem dL_law_791 : decode cL_law 791 = .ok (.iaload, 1) := by decide +kernel
theorem dL_law_792 : decode cL_law 792 = .ok (.aload_n 0, 1) := by decide +kernel
theorem dL_law_793 : decode cL_law 793 = .ok (.iload_n 3, 1) := by decide +kernel
theorem dL_law_794 : decode cL_law 794 = .ok (.iconst 3, 1) := by decide +kernel
theorem dL_law_795 : decode cL_law 795 = .ok (.iadd, 1) := by decide +kernel
theorem dL_law_796 : decode cL_law 796 = .ok (.iaload, 1) := by decide +kernel
theorem dL_law_797 : decode cL_law 797 = .ok (.invokevirtual 80, 3) := by decide +kernel
theorem dL_law_800 : decode cL_law 800 = .ok (.pop, 1) := by decide +kernel
theorem dL_law_801 : decode cL_law 801 = .ok (.goto 673, 3) := by decide +kernel
theorem dL_law_804 : decode cL_law 804 = .ok (.aload_n 1, 1) := by decide +kernel
theorem dL_law_805 : decode cL_law 805 = .ok (.aload_n 0, 1) := by decide +kernel
theorem dL_law_806 : decode cL_law 806 = .ok (.iload_n 3, 1) := by decide +kernel
theorem dL_law_807 : decode cL_law 807 = .ok (.iconst 1, 1) := by decide +kernel
theorem dL_law_808 : decode cL_law 808 = .ok (.iadd, 1) := by decide +kernel
theorem dL_law_809 : decode cL_law 809 = .ok (.iaload, 1) := by decide +kernel
theorem dL_law_810 : decode cL_law 810 = .ok (.aload_n 0, 1) := by decide +kernel
theorem dL_law_811 : decode cL_law 811 = .ok (.iload_n 3, 1) := by decide +kernel
theorem dL_law_812 : decode cL_law 812 = .ok (.iconst 2, 1) := by decide +kernel
theorem dL_law_813 : decode cL_law 813 = .ok (.iadd, 1) := by decide +kernel
theorem dL_law_814 : decode cL_law 814 = .ok (.iaload, 1) := by decide +kernel
theorem dL_law_815 : decode cL_law 815 = .ok (.aload_n 0, 1) := by decide +kernel
theorem dL_law_816 : decode cL_law 816 = .ok (.iload_n 3, 1) := by decide +kernel
theorem dL_law_817 : decode cL_law 817 = .ok (.iconst 3, 1) := by decide +kernel
theorem dL_law_818 : decode cL_law 818 = .ok (.iadd, 1) := by decide +kernel
theorem dL_law_819 : decode cL_law 819 = .ok (.iaload, 1) := by decide +kernel
theorem dL_law_820 : decode cL_law 820 = .ok (.aload_n 0, 1) := by decide +kernel
theorem dL_law_821 : decode cL_law 821 = .ok (.iload_n 3, 1) := by decide +kernel
theorem dL_law_822 : decode cL_law 822 = .ok (.iconst 4, 1) := by decide +kernel
theorem dL_law_823 : decode cL_law 823 = .ok (.iadd, 1) := by decide +kernel
theorem dL_law_824 : decode cL_law 824 = .ok (.iaload, 1) := by decide +kernel
theorem dL_law_825 : decode cL_law 825 = .ok (.invokevirtual 81, 3) := by decide +kernel
theorem dL_law_828 : decode cL_law 828 = .ok (.pop, 1) := by decide +kernel
theorem dL_law_829 : decode cL_law 829 = .ok (.aload_n 2, 1) := by decide +kernel
theorem dL_law_830 : decode cL_law 830 = .ok (.aload_n 0, 1) := by decide +kernel
theorem dL_law_831 : decode cL_law 831 = .ok (.iload_n 3, 1) := by decide +kernel
theorem dL_law_832 : decode cL_law 832 = .ok (.iconst 1, 1) := by decide +kernel
theorem dL_law_833 : decode cL_law 833 = .ok (.iadd, 1) := by decide +kernel
theorem dL_law_834 : decode cL_law 834 = .ok (.iaload, 1) := by decide +kernel
theorem dL_law_835 : decode cL_law 835 = .ok (.aload_n 0, 1) := by decide +kernel
theorem dL_law_836 : decode cL_law 836 = .ok (.iload_n 3, 1) := by decide +kernel
theorem dL_law_837 : decode cL_law 837 = .ok (.iconst 2, 1) := by decide +kernel
theorem dL_law_838 : decode cL_law 838 = .ok (.iadd, 1) := by decide +kernel
theorem dL_law_839 : decode cL_law 839 = .ok (.iaload, 1) := by decide +kernel
theorem dL_law_840 : decode cL_law 840 = .ok (.aload_n 0, 1) := by decide +kernel
theorem dL_law_841 : decode cL_law 841 = .ok (.iload_n 3, 1) := by decide +kernel
theorem dL_law_842 : decode cL_law 842 = .ok (.iconst 3, 1) := by decide +kernel
theorem dL_law_843 : decode cL_law 843 = .ok (.iadd, 1) := by decide +kernel
theorem dL_law_844 : decode cL_law 844 = .ok (.iaload, 1) := by decide +kernel
theorem dL_law_845 : decode cL_law 845 = .ok (.aload_n 0, 1) := by decide +kernel
theorem dL_law_846 : decode cL_law 846 = .ok (.iload_n 3, 1) := by decide +kernel
theorem dL_law_847 : decode cL_law 847 = .ok (.iconst 4, 1) := by decide +kernel
theorem dL_law_848 : decode cL_law 848 = .ok (.iadd, 1) := by decide +kernel
theorem dL_law_849 : decode cL_law 849 = .ok (.iaload, 1) := by decide +kernel
theorem dL_law_850 : decode cL_law 850 = .ok (.invokevirtual 84, 3) := by decide +kernel
theorem dL_law_853 : decode cL_law 853 = .ok (.pop, 1) := by decide +kernel
theorem dL_law_854 : decode cL_law 854 = .ok (.goto 620, 3) := by decide +kernel
theorem dL_law_857 : decode cL_law 857 = .ok (.aload_n 1, 1) := by decide +kernel
theorem dL_law_858 : decode cL_law 858 = .ok (.aload_n 0, 1) := by decide +kernel
theorem dL_law_859 : decode cL_law 859 = .ok (.iload_n 3, 1) := by decide +kernel
theorem dL_law_860 : decode cL_law 860 = .ok (.iconst 1, 1) := by decide +kernel
theorem dL_law_861 : decode cL_law 861 = .ok (.iadd, 1) := by decide +kernel
theorem dL_law_862 : decode cL_law 862 = .ok (.iaload, 1) := by decide +kernel
theorem dL_law_863 : decode cL_law 863 = .ok (.aload_n 0, 1) := by decide +kernel
theorem dL_law_864 : decode cL_law 864 = .ok (.iload_n 3, 1) := by decide +kernel
theorem dL_law_865 : decode cL_law 865 = .ok (.iconst 2, 1) := by decide +kernel
theorem dL_law_866 : decode cL_law 866 = .ok (.iadd, 1) := by decide +kernel
theorem dL_law_867 : decode cL_law 867 = .ok (.iaload, 1) := by decide +kernel
theorem dL_law_868 : decode cL_law 868 = .ok (.aload_n 0, 1) := by decide +kernel
theorem dL_law_869 : decode cL_law 869 = .ok (.iload_n 3, 1) := by decide +kernel
theorem dL_law_870 : decode cL_law 870 = .ok (.iconst 3, 1) := by decide +kernel
theorem dL_law_871 : decode cL_law 871 = .ok (.iadd, 1) := by decide +kernel
theorem dL_law_872 : decode cL_law 872 = .ok (.iaload, 1) := by decide +kernel
theorem dL_law_873 : decode cL_law 873 = .ok (.aload_n 0, 1) := by decide +kernel
theorem dL_law_874 : decode cL_law 874 = .ok (.iload_n 3, 1) := by decide +kernel
theorem dL_law_875 : decode cL_law 875 = .ok (.iconst 4, 1) := by decide +kernel
theorem dL_law_876 : decode cL_law 876 = .ok (.iadd, 1) := by decide +kernel
theorem dL_law_877 : decode cL_law 877 = .ok (.iaload, 1) := by decide +kernel
theorem dL_law_878 : decode cL_law 878 = .ok (.invokevirtual 85, 3) := by decide +kernel
theorem dL_law_881 : decode cL_law 881 = .ok (.pop, 1) := by decide +kernel
theorem dL_law_882 : decode cL_law 882 = .ok (.aload_n 2, 1) := by decide +kernel
theorem dL_law_883 : decode cL_law 883 = .ok (.aload_n 0, 1) := by decide +kernel
theorem dL_law_884 : decode cL_law 884 = .ok (.iload_n 3, 1) := by decide +kernel
theorem dL_law_885 : decode cL_law 885 = .ok (.iconst 1, 1) := by decide +kernel
theorem dL_law_886 : decode cL_law 886 = .ok (.iadd, 1) := by decide +kernel
theorem dL_law_887 : decode cL_law 887 = .ok (.iaload, 1) := by decide +kernel
theorem dL_law_888 : decode cL_law 888 = .ok (.aload_n 0, 1) := by decide +kernel
theorem dL_law_889 : decode cL_law 889 = .ok (.iload_n 3, 1) := by decide +kernel
theorem dL_law_890 : decode cL_law 890 = .ok (.iconst 2, 1) := by decide +kernel
theorem dL_law_891 : decode cL_law 891 = .ok (.iadd, 1) := by decide +kernel
theorem dL_law_892 : decode cL_law 892 = .ok (.iaload, 1) := by decide +kernel
theorem dL_law_893 : decode cL_law 893 = .ok (.aload_n 0, 1) := by decide +kernel
theorem dL_law_894 : decode cL_law 894 = .ok (.iload_n 3, 1) := by decide +kernel
theorem dL_law_895 : decode cL_law 895 = .ok (.iconst 3, 1) := by decide +kernel
theorem dL_law_896 : decode cL_law 896 = .ok (.iadd, 1) := by decide +kernel
theorem dL_law_897 : decode cL_law 897 = .ok (.iaload, 1) := by decide +kernel
theorem dL_law_898 : decode cL_law 898 = .ok (.aload_n 0, 1) := by decide +kernel
theorem dL_law_899 : decode cL_law 899 = .ok (.iload_n 3, 1) := by decide +kernel
theorem dL_law_900 : decode cL_law 900 = .ok (.iconst 4, 1) := by decide +kernel
theorem dL_law_901 : decode cL_law 901 = .ok (.iadd, 1) := by decide +kernel
theorem dL_law_902 : decode cL_law 902 = .ok (.iaload, 1) := by decide +kernel
theorem dL_law_903 : decode cL_law 903 = .ok (.invokevirtual 88, 3) := by decide +kernel
theorem dL_law_906 : decode cL_law 906 = .ok (.pop, 1) := by decide +kernel
theorem dL_law_907 : decode cL_law 907 = .ok (.goto 567, 3) := by decide +kernel
theorem dL_law_910 : decode cL_law 910 = .ok (.aload_n 1, 1) := by decide +kernel
theorem dL_law_911 : decode cL_law 911 = .ok (.aload_n 0, 1) := by decide +kernel
theorem dL_law_912 : decode cL_law 912 = .ok (.iload_n 3, 1) := by decide +kernel
theorem dL_law_913 : decode cL_law 913 = .ok (.iconst 1, 1) := by decide +kernel
theorem dL_law_914 : decode cL_law 914 = .ok (.iadd, 1) := by decide +kernel
theorem dL_law_915 : decode cL_law 915 = .ok (.iaload, 1) := by decide +kernel
theorem dL_law_916 : decode cL_law 916 = .ok (.aload_n 0, 1) := by decide +kernel
theorem dL_law_917 : decode cL_law 917 = .ok (.iload_n 3, 1) := by decide +kernel
theorem dL_law_918 : decode cL_law 918 = .ok (.iconst 2, 1) := by decide +kernel
theorem dL_law_919 : decode cL_law 919 = .ok (.iadd, 1) := by decide +kernel
theorem dL_law_920 : decode cL_law 920 = .ok (.iaload, 1) := by decide +kernel
theorem dL_law_921 : decode cL_law 921 = .ok (.aload_n 0, 1) := by decide +kernel
theorem dL_law_922 : decode cL_law 922 = .ok (.iload_n 3, 1) := by decide +kernel
theorem dL_law_923 : decode cL_law 923 = .ok (.iconst 3, 1) := by decide +kernel
theorem dL_law_924 : decode cL_law 924 = .ok (.iadd, 1) := by decide +kernel
theorem dL_law_925 : decode cL_law 925 = .ok (.iaload, 1) := by decide +kernel
theorem dL_law_926 : decode cL_law 926 = .ok (.aload_n 0, 1) := by decide +kernel
theorem dL_law_927 : decode cL_law 927 = .ok (.iload_n 3, 1) := by decide +kernel
theorem dL_law_928 : decode cL_law 928 = .ok (.iconst 4, 1) := by decide +kernel
theorem dL_law_929 : decode cL_law 929 = .ok (.iadd, 1) := by decide +kernel
theorem dL_law_930 : decode cL_law 930 = .ok (.iaload, 1) := by decide +kernel
theorem dL_law_931 : decode cL_law 931 = .ok (.invokevirtual 89, 3) := by decide +kernel
theorem dL_law_934 : decode cL_law 934 = .ok (.pop, 1) := by decide +kernel
theorem dL_law_935 : decode cL_law 935 = .ok (.aload_n 2, 1) := by decide +kernel
theorem dL_law_936 : decode cL_law 936 = .ok (.aload_n 0, 1) := by decide +kernel
theorem dL_law_937 : decode cL_law 937 = .ok (.iload_n 3, 1) := by decide +kernel
theorem dL_law_938 : decode cL_law 938 = .ok (.iconst 1, 1) := by decide +kernel
theorem dL_law_939 : decode cL_law 939 = .ok (.iadd, 1) := by decide +kernel
theorem dL_law_940 : decode cL_law 940 = .ok (.iaload, 1) := by decide +kernel
theorem dL_law_941 : decode cL_law 941 = .ok (.aload_n 0, 1) := by decide +kernel
theorem dL_law_942 : decode cL_law 942 = .ok (.iload_n 3, 1) := by decide +kernel
theorem dL_law_943 : decode cL_law 943 = .ok (.iconst 2, 1) := by decide +kernel
theorem dL_law_944 : decode cL_law 944 = .ok (.iadd, 1) := by decide +kernel
theorem dL_law_945 : decode cL_law 945 = .ok (.iaload, 1) := by decide +kernel
theorem dL_law_946 : decode cL_law 946 = .ok (.aload_n 0, 1) := by decide +kernel
theorem dL_law_947 : decode cL_law 947 = .ok (.iload_n 3, 1) := by decide +kernel
theorem dL_law_948 : decode cL_law 948 = .ok (.iconst 3, 1) := by decide +kernel
theorem dL_law_949 : decode cL_law 949 = .ok (.iadd, 1) := by decide +kernel
theorem dL_law_950 : decode cL_law 950 = .ok (.iaload, 1) := by decide +kernel
theorem dL_law_951 : decode cL_law 951 = .ok (.aload_n 0, 1) := by decide +kernel
theorem dL_law_952 : decode cL_law 952 = .ok (.iload_n 3, 1) := by decide +kernel
theorem dL_law_953 : decode cL_law 953 = .ok (.iconst 4, 1) := by decide +kernel
theorem dL_law_954 : decode cL_law 954 = .ok (.iadd, 1) := by decide +kernel
theorem dL_law_955 : decode cL_law 955 = .ok (.iaload, 1) := by decide +kernel
theorem dL_law_956 : decode cL_law 956 = .ok (.invokevirtual 92, 3) := by decide +kernel
theorem dL_law_959 : decode cL_law 959 = .ok (.pop, 1) := by decide +kernel
theorem dL_law_960 : decode cL_law 960 = .ok (.goto 514, 3) := by decide +kernel
theorem dL_law_963 : decode cL_law 963 = .ok (.aload_n 1, 1) := by decide +kernel
theorem dL_law_964 : decode cL_law 964 = .ok (.aload_n 0, 1) := by decide +kernel
theorem dL_law_965 : decode cL_law 965 = .ok (.iload_n 3, 1) := by decide +kernel
theorem dL_law_966 : decode cL_law 966 = .ok (.iconst 1, 1) := by decide +kernel
theorem dL_law_967 : decode cL_law 967 = .ok (.iadd, 1) := by decide +kernel
theorem dL_law_968 : decode cL_law 968 = .ok (.iaload, 1) := by decide +kernel
theorem dL_law_969 : decode cL_law 969 = .ok (.aload_n 0, 1) := by decide +kernel
theorem dL_law_970 : decode cL_law 970 = .ok (.iload_n 3, 1) := by decide +kernel
theorem dL_law_971 : decode cL_law 971 = .ok (.iconst 2, 1) := by decide +kernel
theorem dL_law_972 : decode cL_law 972 = .ok (.iadd, 1) := by decide +kernel
theorem dL_law_973 : decode cL_law 973 = .ok (.iaload, 1) := by decide +kernel
theorem dL_law_974 : decode cL_law 974 = .ok (.invokevirtual 93, 3) := by decide +kernel
theorem dL_law_977 : decode cL_law 977 = .ok (.pop, 1) := by decide +kernel
theorem dL_law_978 : decode cL_law 978 = .ok (.aload_n 2, 1) := by decide +kernel
theorem dL_law_979 : decode cL_law 979 = .ok (.aload_n 0, 1) := by decide +kernel
theorem dL_law_980 : decode cL_law 980 = .ok (.iload_n 3, 1) := by decide +kernel
theorem dL_law_981 : decode cL_law 981 = .ok (.iconst 1, 1) := by decide +kernel
theorem dL_law_982 : decode cL_law 982 = .ok (.iadd, 1) := by decide +kernel
theorem dL_law_983 : decode cL_law 983 = .ok (.iaload, 1) := by decide +kernel
theorem dL_law_984 : decode cL_law 984 = .ok (.aload_n 0, 1) := by decide +kernel
theorem dL_law_985 : decode cL_law 985 = .ok (.iload_n 3, 1) := by decide +kernel
theorem dL_law_986 : decode cL_law 986 = .ok (.iconst 2, 1) := by decide +kernel
theorem dL_law_987 : decode cL_law 987 = .ok (.iadd, 1) := by decide +kernel
theorem dL_law_988 : decode cL_law 988 = .ok (.iaload, 1) := by decide +kernel
theorem dL_law_989 : decode cL_law 989 = .ok (.invokevirtual 96, 3) := by decide +kernel
theorem dL_law_992 : decode cL_law 992 = .ok (.pop, 1) := by decide +kernel
theorem dL_law_993 : decode cL_law 993 = .ok (.goto 481, 3) := by decide +kernel
theorem dL_law_996 : decode cL_law 996 = .ok (.aload_n 1, 1) := by decide +kernel
theorem dL_law_997 : decode cL_law 997 = .ok (.invokevirtual 97, 3) := by decide +kernel
theorem dL_law_1000 : decode cL_law 1000 = .ok (.aload_n 2, 1) := by decide +kernel
theorem dL_law_1001 : decode cL_law 1001 = .ok (.invokevirtual 100, 3) := by decide +kernel
theorem dL_law_1004 : decode cL_law 1004 = .ok (.if_icmp .eq 470, 3) := by decide +kernel
theorem dL_law_1007 : decode cL_law 1007 = .ok (.iconst 0, 1) := by decide +kernel
theorem dL_law_1008 : decode cL_law 1008 = .ok (.ireturn, 1) := by decide +kernel
theorem dL_law_1009 : decode cL_law 1009 = .ok (.aload_n 1, 1) := by decide +kernel
theorem dL_law_1010 : decode cL_law 1010 = .ok (.aload_n 0, 1) := by decide +kernel
theorem dL_law_1011 : decode cL_law 1011 = .ok (.iload_n 3, 1) := by decide +kernel
theorem dL_law_1012 : decode cL_law 1012 = .ok (.iconst 1, 1) := by decide +kernel
theorem dL_law_1013 : decode cL_law 1013 = .ok (.iadd, 1) := by decide +kernel
theorem dL_law_1014 : decode cL_law 1014 = .ok (.iaload, 1) := by decide +kernel
theorem dL_law_1015 : decode cL_law 1015 = .ok (.aload_n 0, 1) := by decide +kernel
theorem dL_law_1016 : decode cL_law 1016 = .ok (.iload_n 3, 1) := by decide +kernel
theorem dL_law_1017 : decode cL_law 1017 = .ok (.iconst 2, 1) := by decide +kernel
theorem dL_law_1018 : decode cL_law 1018 = .ok (.iadd, 1) := by decide +kernel
theorem dL_law_1019 : decode cL_law 1019 = .ok (.iaload, 1) := by decide +kernel
theorem dL_law_1020 : decode cL_law 1020 = .ok (.ifCond .eq 7, 3) := by decide +kernel
theorem dL_law_1023 : decode cL_law 1023 = .ok (.iconst 1, 1) := by decide +kernel
theorem dL_law_1024 : decode cL_law 1024 = .ok (.goto 4, 3) := by decide +kernel
theorem dL_law_1027 : decode cL_law 1027 = .ok (.iconst 0, 1) := by decide +kernel
theorem dL_law_1028 : decode cL_law 1028 = .ok (.invokevirtual 101, 3) := by decide +kernel
theorem dL_law_1031 : decode cL_law 1031 = .ok (.pop, 1) := by decide +kernel
theorem dL_law_1032 : decode cL_law 1032 = .ok (.aload_n 2, 1) := by decide +kernel
theorem dL_law_1033 : decode cL_law 1033 = .ok (.aload_n 0, 1) := by decide +kernel
theorem dL_law_1034 : decode cL_law 1034 = .ok (.iload_n 3, 1) := by decide +kernel
theorem dL_law_1035 : decode cL_law 1035 = .ok (.iconst 1, 1) := by decide +kernel
theorem dL_law_1036 : decode cL_law 1036 = .ok (.iadd, 1) := by decide +kernel
theorem dL_law_1037 : decode cL_law 1037 = .ok (.iaload, 1) := by decide +kernel
theorem dL_law_1038 : decode cL_law 1038 = .ok (.aload_n 0, 1) := by decide +kernel
theorem dL_law_1039 : decode cL_law 1039 = .ok (.iload_n 3, 1) := by decide +kernel
theorem dL_law_1040 : decode cL_law 1040 = .ok (.iconst 2, 1) := by decide +kernel
theorem dL_law_1041 : decode cL_law 1041 = .ok (.iadd, 1) := by decide +kernel
theorem dL_law_1042 : decode cL_law 1042 = .ok (.iaload, 1) := by decide +kernel
theorem dL_law_1043 : decode cL_law 1043 = .ok (.ifCond .eq 7, 3) := by decide +kernel
theorem dL_law_1046 : decode cL_law 1046 = .ok (.iconst 1, 1) := by decide +kernel
theorem dL_law_1047 : decode cL_law 1047 = .ok (.goto 4, 3) := by decide +kernel
theorem dL_law_1050 : decode cL_law 1050 = .ok (.iconst 0, 1) := by decide +kernel
theorem dL_law_1051 : decode cL_law 1051 = .ok (.invokevirtual 105, 3) := by decide +kernel
theorem dL_law_1054 : decode cL_law 1054 = .ok (.pop, 1) := by decide +kernel
theorem dL_law_1055 : decode cL_law 1055 = .ok (.goto 419, 3) := by decide +kernel
theorem dL_law_1058 : decode cL_law 1058 = .ok (.aload_n 1, 1) := by decide +kernel
theorem dL_law_1059 : decode cL_law 1059 = .ok (.aload_n 0, 1) := by decide +kernel
theorem dL_law_1060 : decode cL_law 1060 = .ok (.iload_n 3, 1) := by decide +kernel
theorem dL_law_1061 : decode cL_law 1061 = .ok (.iconst 1, 1) := by decide +kernel
theorem dL_law_1062 : decode cL_law 1062 = .ok (.iadd, 1) := by decide +kernel
theorem dL_law_1063 : decode cL_law 1063 = .ok (.iaload, 1) := by decide +kernel
theorem dL_law_1064 : decode cL_law 1064 = .ok (.aload_n 0, 1) := by decide +kernel
theorem dL_law_1065 : decode cL_law 1065 = .ok (.iload_n 3, 1) := by decide +kernel
theorem dL_law_1066 : decode cL_law 1066 = .ok (.iconst 2, 1) := by decide +kernel
theorem dL_law_1067 : decode cL_law 1067 = .ok (.iadd, 1) := by decide +kernel
theorem dL_law_1068 : decode cL_law 1068 = .ok (.iaload, 1) := by decide +kernel
theorem dL_law_1069 : decode cL_law 1069 = .ok (.aload_n 0, 1) := by decide +kernel
theorem dL_law_1070 : decode cL_law 1070 = .ok (.iload_n 3, 1) := by decide +kernel
theorem dL_law_1071 : decode cL_law 1071 = .ok (.iconst 3, 1) := by decide +kernel
theorem dL_law_1072 : decode cL_law 1072 = .ok (.iadd, 1) := by decide +kernel
theorem dL_law_1073 : decode cL_law 1073 = .ok (.iaload, 1) := by decide +kernel
theorem dL_law_1074 : decode cL_law 1074 = .ok (.aload_n 0, 1) := by decide +kernel
theorem dL_law_1075 : decode cL_law 1075 = .ok (.iload_n 3, 1) := by decide +kernel
theorem dL_law_1076 : decode cL_law 1076 = .ok (.iconst 4, 1) := by decide +kernel
theorem dL_law_1077 : decode cL_law 1077 = .ok (.iadd, 1) := by decide +kernel
theorem dL_law_1078 : decode cL_law 1078 = .ok (.iaload, 1) := by decide +kernel
theorem dL_law_1079 : decode cL_law 1079 = .ok (.aload_n 0, 1) := by decide +kernel
theorem dL_law_1080 : decode cL_law 1080 = .ok (.iload_n 3, 1) := by decide +kernel
theorem dL_law_1081 : decode cL_law 1081 = .ok (.iconst 5, 1) := by decide +kernel
theorem dL_law_1082 : decode cL_law 1082 = .ok (.iadd, 1) := by decide +kernel
theorem dL_law_1083 : decode cL_law 1083 = .ok (.iaload, 1) := by decide +kernel
theorem dL_law_1084 : decode cL_law 1084 = .ok (.invokevirtual 106, 3) := by decide +kernel
theorem dL_law_1087 : decode cL_law 1087 = .ok (.pop, 1) := by decide +kernel
theorem dL_law_1088 : decode cL_law 1088 = .ok (.aload_n 2, 1) := by decide +kernel
theorem dL_law_1089 : decode cL_law 1089 = .ok (.aload_n 0, 1) := by decide +kernel
theorem dL_law_1090 : decode cL_law 1090 = .ok (.iload_n 3, 1) := by decide +kernel
theorem dL_law_1091 : decode cL_law 1091 = .ok (.iconst 1, 1) := by decide +kernel
theorem dL_law_1092 : decode cL_law 1092 = .ok (.iadd, 1) := by decide +kernel
theorem dL_law_1093 : decode cL_law 1093 = .ok (.iaload, 1) := by decide +kernel
theorem dL_law_1094 : decode cL_law 1094 = .ok (.aload_n 0, 1) := by decide +kernel
theorem dL_law_1095 : decode cL_law 1095 = .ok (.iload_n 3, 1) := by decide +kernel
theorem dL_law_1096 : decode cL_law 1096 = .ok (.iconst 2, 1) := by decide +kernel
theorem dL_law_1097 : decode cL_law 1097 = .ok (.iadd, 1) := by decide +kernel
theorem dL_law_1098 : decode cL_law 1098 = .ok (.iaload, 1) := by decide +kernel
theorem dL_law_1099 : decode cL_law 1099 = .ok (.aload_n 0, 1) := by decide +kernel
theorem dL_law_1100 : decode cL_law 1100 = .ok (.iload_n 3, 1) := by decide +kernel
theorem dL_law_1101 : decode cL_law 1101 = .ok (.iconst 3, 1) := by decide +kernel
theorem dL_law_1102 : decode cL_law 1102 = .ok (.iadd, 1) := by decide +kernel
theorem dL_law_1103 : decode cL_law 1103 = .ok (.iaload, 1) := by decide +kernel
theorem dL_law_1104 : decode cL_law 1104 = .ok (.aload_n 0, 1) := by decide +kernel
theorem dL_law_1105 : decode cL_law 1105 = .ok (.iload_n 3, 1) := by decide +kernel
theorem dL_law_1106 : decode cL_law 1106 = .ok (.iconst 4, 1) := by decide +kernel
theorem dL_law_1107 : decode cL_law 1107 = .ok (.iadd, 1) := by decide +kernel
theorem dL_law_1108 : decode cL_law 1108 = .ok (.iaload, 1) := by decide +kernel
theorem dL_law_1109 : decode cL_law 1109 = .ok (.aload_n 0, 1) := by decide +kernel
theorem dL_law_1110 : decode cL_law 1110 = .ok (.iload_n 3, 1) := by decide +kernel
theorem dL_law_1111 : decode cL_law 1111 = .ok (.iconst 5, 1) := by decide +kernel
theorem dL_law_1112 : decode cL_law 1112 = .ok (.iadd, 1) := by decide +kernel
theorem dL_law_1113 : decode cL_law 1113 = .ok (.iaload, 1) := by decide +kernel
theorem dL_law_1114 : decode cL_law 1114 = .ok (.invokevirtual 110, 3) := by decide +kernel
theorem dL_law_1117 : decode cL_law 1117 = .ok (.pop, 1) := by decide +kernel
theorem dL_law_1118 : decode cL_law 1118 = .ok (.goto 356, 3) := by decide +kernel
theorem dL_law_1121 : decode cL_law 1121 = .ok (.aload_n 1, 1) := by decide +kernel
theorem dL_law_1122 : decode cL_law 1122 = .ok (.aload_n 0, 1) := by decide +kernel
theorem dL_law_1123 : decode cL_law 1123 = .ok (.iload_n 3, 1) := by decide +kernel
theorem dL_law_1124 : decode cL_law 1124 = .ok (.iconst 1, 1) := by decide +kernel
theorem dL_law_1125 : decode cL_law 1125 = .ok (.iadd, 1) := by decide +kernel
theorem dL_law_1126 : decode cL_law 1126 = .ok (.iaload, 1) := by decide +kernel
theorem dL_law_1127 : decode cL_law 1127 = .ok (.invokevirtual 111, 3) := by decide +kernel
theorem dL_law_1130 : decode cL_law 1130 = .ok (.pop, 1) := by decide +kernel
theorem dL_law_1131 : decode cL_law 1131 = .ok (.aload_n 2, 1) := by decide +kernel
theorem dL_law_1132 : decode cL_law 1132 = .ok (.aload_n 0, 1) := by decide +kernel
theorem dL_law_1133 : decode cL_law 1133 = .ok (.iload_n 3, 1) := by decide +kernel
theorem dL_law_1134 : decode cL_law 1134 = .ok (.iconst 1, 1) := by decide +kernel
theorem dL_law_1135 : decode cL_law 1135 = .ok (.iadd, 1) := by decide +kernel
theorem dL_law_1136 : decode cL_law 1136 = .ok (.iaload, 1) := by decide +kernel
theorem dL_law_1137 : decode cL_law 1137 = .ok (.invokevirtual 114, 3) := by decide +kernel
theorem dL_law_1140 : decode cL_law 1140 = .ok (.pop, 1) := by decide +kernel
theorem dL_law_1141 : decode cL_law 1141 = .ok (.goto 333, 3) := by decide +kernel
theorem dL_law_1144 : decode cL_law 1144 = .ok (.aload_n 1, 1) := by decide +kernel
theorem dL_law_1145 : decode cL_law 1145 = .ok (.aload_n 0, 1) := by decide +kernel
theorem dL_law_1146 : decode cL_law 1146 = .ok (.iload_n 3, 1) := by decide +kernel
theorem dL_law_1147 : decode cL_law 1147 = .ok (.iconst 1, 1) := by decide +kernel
theorem dL_law_1148 : decode cL_law 1148 = .ok (.iadd, 1) := by decide +kernel
theorem dL_law_1149 : decode cL_law 1149 = .ok (.iaload, 1) := by decide +kernel
theorem dL_law_1150 : decode cL_law 1150 = .ok (.invokevirtual 115, 3) := by decide +kernel
theorem dL_law_1153 : decode cL_law 1153 = .ok (.pop, 1) := by decide +kernel
theorem dL_law_1154 : decode cL_law 1154 = .ok (.aload_n 2, 1) := by decide +kernel
theorem dL_law_1155 : decode cL_law 1155 = .ok (.aload_n 0, 1) := by decide +kernel
theorem dL_law_1156 : decode cL_law 1156 = .ok (.iload_n 3, 1) := by decide +kernel
theorem dL_law_1157 : decode cL_law 1157 = .ok (.iconst 1, 1) := by decide +kernel
theorem dL_law_1158 : decode cL_law 1158 = .ok (.iadd, 1) := by decide +kernel
theorem dL_law_1159 : decode cL_law 1159 = .ok (.iaload, 1) := by decide +kernel
theorem dL_law_1160 : decode cL_law 1160 = .ok (.invokevirtual 118, 3) := by decide +kernel
theorem dL_law_1163 : decode cL_law 1163 = .ok (.pop, 1) := by decide +kernel
theorem dL_law_1164 : decode cL_law 1164 = .ok (.goto 310, 3) := by decide +kernel
theorem dL_law_1167 : decode cL_law 1167 = .ok (.aload_n 1, 1) := by decide +kernel
theorem dL_law_1168 : decode cL_law 1168 = .ok (.aload_n 0, 1) := by decide +kernel
theorem dL_law_1169 : decode cL_law 1169 = .ok (.iload_n 3, 1) := by decide +kernel
theorem dL_law_1170 : decode cL_law 1170 = .ok (.iconst 1, 1) := by decide +kernel
theorem dL_law_1171 : decode cL_law 1171 = .ok (.iadd, 1) := by decide +kernel
theorem dL_law_1172 : decode cL_law 1172 = .ok (.iaload, 1) := by decide +kernel
theorem dL_law_1173 : decode cL_law 1173 = .ok (.aload_n 0, 1) := by decide +kernel
theorem dL_law_1174 : decode cL_law 1174 = .ok (.iload_n 3, 1) := by decide +kernel
theorem dL_law_1175 : decode cL_law 1175 = .ok (.iconst 2, 1) := by decide +kernel
theorem dL_law_1176 : decode cL_law 1176 = .ok (.iadd, 1) := by decide +kernel
theorem dL_law_1177 : decode cL_law 1177 = .ok (.iaload, 1) := by decide +kernel
theorem dL_law_1178 : decode cL_law 1178 = .ok (.aload_n 0, 1) := by decide +kernel
theorem dL_law_1179 : decode cL_law 1179 = .ok (.iload_n 3, 1) := by decide +kernel
theorem dL_law_1180 : decode cL_law 1180 = .ok (.iconst 3, 1) := by decide +kernel
theorem dL_law_1181 : decode cL_law 1181 = .ok (.iadd, 1) := by decide +kernel
theorem dL_law_1182 : decode cL_law 1182 = .ok (.iaload, 1) := by decide +kernel
theorem dL_law_1183 : decode cL_law 1183 = .ok (.aload_n 0, 1) := by decide +kernel
theorem dL_law_1184 : decode cL_law 1184 = .ok (.iload_n 3, 1) := by decide +kernel
theorem dL_law_1185 : decode cL_law 1185 = .ok (.iconst 4, 1) := by decide +kernel
theorem dL_law_1186 : decode cL_law 1186 = .ok (.iadd, 1) := by decide +kernel
theorem dL_law_1187 : decode cL_law 1187 = .ok (.iaload, 1) := by decide +kernel
theorem dL_law_1188 : decode cL_law 1188 = .ok (.aload_n 0, 1) := by decide +kernel
theorem dL_law_1189 : decode cL_law 1189 = .ok (.iload_n 3, 1) := by decide +kernel
theorem dL_law_1190 : decode cL_law 1190 = .ok (.iconst 5, 1) := by decide +kernel
theorem dL_law_1191 : decode cL_law 1191 = .ok (.iadd, 1) := by decide +kernel
theorem dL_law_1192 : decode cL_law 1192 = .ok (.iaload, 1) := by decide +kernel
theorem dL_law_1193 : decode cL_law 1193 = .ok (.invokevirtual 119, 3) := by decide +kernel
theorem dL_law_1196 : decode cL_law 1196 = .ok (.pop, 1) := by decide +kernel
theorem dL_law_1197 : decode cL_law 1197 = .ok (.aload_n 2, 1) := by decide +kernel
theorem dL_law_1198 : decode cL_law 1198 = .ok (.aload_n 0, 1) := by decide +kernel
theorem dL_law_1199 : decode cL_law 1199 = .ok (.iload_n 3, 1) := by decide +kernel
theorem dL_law_1200 : decode cL_law 1200 = .ok (.iconst 1, 1) := by decide +kernel
theorem dL_law_1201 : decode cL_law 1201 = .ok (.iadd, 1) := by decide +kernel
theorem dL_law_1202 : decode cL_law 1202 = .ok (.iaload, 1) := by decide +kernel
theorem dL_law_1203 : decode cL_law 1203 = .ok (.aload_n 0, 1) := by decide +kernel
theorem dL_law_1204 : decode cL_law 1204 = .ok (.iload_n 3, 1) := by decide +kernel
theorem dL_law_1205 : decode cL_law 1205 = .ok (.iconst 2, 1) := by decide +kernel
theorem dL_law_1206 : decode cL_law 1206 = .ok (.iadd, 1) := by decide +kernel
theorem dL_law_1207 : decode cL_law 1207 = .ok (.iaload, 1) := by decide +kernel
theorem dL_law_1208 : decode cL_law 1208 = .ok (.aload_n 0, 1) := by decide +kernel
theorem dL_law_1209 : decode cL_law 1209 = .ok (.iload_n 3, 1) := by decide +kernel
theorem dL_law_1210 : decode cL_law 1210 = .ok (.iconst 3, 1) := by decide +kernel
theorem dL_law_1211 : decode cL_law 1211 = .ok (.iadd, 1) := by decide +kernel
theorem dL_law_1212 : decode cL_law 1212 = .ok (.iaload, 1) := by decide +kernel
theorem dL_law_1213 : decode cL_law 1213 = .ok (.aload_n 0, 1) := by decide +kernel
theorem dL_law_1214 : decode cL_law 1214 = .ok (.iload_n 3, 1) := by decide +kernel
theorem dL_law_1215 : decode cL_law 1215 = .ok (.iconst 4, 1) := by decide +kernel
theorem dL_law_1216 : decode cL_law 1216 = .ok (.iadd, 1) := by decide +kernel
theorem dL_law_1217 : decode cL_law 1217 = .ok (.iaload, 1) := by decide +kernel
theorem dL_law_1218 : decode cL_law 1218 = .ok (.aload_n 0, 1) := by decide +kernel
theorem dL_law_1219 : decode cL_law 1219 = .ok (.iload_n 3, 1) := by decide +kernel
theorem dL_law_1220 : decode cL_law 1220 = .ok (.iconst 5, 1) := by decide +kernel
theorem dL_law_1221 : decode cL_law 1221 = .ok (.iadd, 1) := by decide +kernel
theorem dL_law_1222 : decode cL_law 1222 = .ok (.iaload, 1) := by decide +kernel
theorem dL_law_1223 : decode cL_law 1223 = .ok (.invokevirtual 122, 3) := by decide +kernel
theorem dL_law_1226 : decode cL_law 1226 = .ok (.pop, 1) := by decide +kernel
theorem dL_law_1227 : decode cL_law 1227 = .ok (.goto 247, 3) := by decide +kernel
theorem dL_law_1230 : decode cL_law 1230 = .ok (.aload_n 1, 1) := by decide +kernel
theorem dL_law_1231 : decode cL_law 1231 = .ok (.aload_n 0, 1) := by decide +kernel
theorem dL_law_1232 : decode cL_law 1232 = .ok (.iload_n 3, 1) := by decide +kernel
theorem dL_law_1233 : decode cL_law 1233 = .ok (.iconst 1, 1) := by decide +kernel
theorem dL_law_1234 : decode cL_law 1234 = .ok (.iadd, 1) := by decide +kernel
theorem dL_law_1235 : decode cL_law 1235 = .ok (.iaload, 1) := by decide +kernel
theorem dL_law_1236 : decode cL_law 1236 = .ok (.aload_n 0, 1) := by decide +kernel
theorem dL_law_1237 : decode cL_law 1237 = .ok (.iload_n 3, 1) := by decide +kernel
theorem dL_law_1238 : decode cL_law 1238 = .ok (.iconst 2, 1) := by decide +kernel
theorem dL_law_1239 : decode cL_law 1239 = .ok (.iadd, 1) := by decide +kernel
theorem dL_law_1240 : decode cL_law 1240 = .ok (.iaload, 1) := by decide +kernel
theorem dL_law_1241 : decode cL_law 1241 = .ok (.aload_n 0, 1) := by decide +kernel
theorem dL_law_1242 : decode cL_law 1242 = .ok (.iload_n 3, 1) := by decide +kernel
theorem dL_law_1243 : decode cL_law 1243 = .ok (.iconst 3, 1) := by decide +kernel
theorem dL_law_1244 : decode cL_law 1244 = .ok (.iadd, 1) := by decide +kernel
theorem dL_law_1245 : decode cL_law 1245 = .ok (.iaload, 1) := by decide +kernel
theorem dL_law_1246 : decode cL_law 1246 = .ok (.invokevirtual 123, 3) := by decide +kernel
theorem dL_law_1249 : decode cL_law 1249 = .ok (.pop, 1) := by decide +kernel
theorem dL_law_1250 : decode cL_law 1250 = .ok (.aload_n 2, 1) := by decide +kernel
theorem dL_law_1251 : decode cL_law 1251 = .ok (.aload_n 0, 1) := by decide +kernel
theorem dL_law_1252 : decode cL_law 1252 = .ok (.iload_n 3, 1) := by decide +kernel
theorem dL_law_1253 : decode cL_law 1253 = .ok (.iconst 1, 1) := by decide +kernel
theorem dL_law_1254 : decode cL_law 1254 = .ok (.iadd, 1) := by decide +kernel
theorem dL_law_1255 : decode cL_law 1255 = .ok (.iaload, 1) := by decide +kernel
theorem dL_law_1256 : decode cL_law 1256 = .ok (.aload_n 0, 1) := by decide +kernel
theorem dL_law_1257 : decode cL_law 1257 = .ok (.iload_n 3, 1) := by decide +kernel
theorem dL_law_1258 : decode cL_law 1258 = .ok (.iconst 2, 1) := by decide +kernel
theorem dL_law_1259 : decode cL_law 1259 = .ok (.iadd, 1) := by decide +kernel
theorem dL_law_1260 : decode cL_law 1260 = .ok (.iaload, 1) := by decide +kernel
theorem dL_law_1261 : decode cL_law 1261 = .ok (.aload_n 0, 1) := by decide +kernel
theorem dL_law_1262 : decode cL_law 1262 = .ok (.iload_n 3, 1) := by decide +kernel
theorem dL_law_1263 : decode cL_law 1263 = .ok (.iconst 3, 1) := by decide +kernel
theorem dL_law_1264 : decode cL_law 1264 = .ok (.iadd, 1) := by decide +kernel
theorem dL_law_1265 : decode cL_law 1265 = .ok (.iaload, 1) := by decide +kernel
theorem dL_law_1266 : decode cL_law 1266 = .ok (.invokevirtual 126, 3) := by decide +kernel
theorem dL_law_1269 : decode cL_law 1269 = .ok (.pop, 1) := by decide +kernel
theorem dL_law_1270 : decode cL_law 1270 = .ok (.goto 204, 3) := by decide +kernel
theorem dL_law_1273 : decode cL_law 1273 = .ok (.aload_n 1, 1) := by decide +kernel
theorem dL_law_1274 : decode cL_law 1274 = .ok (.aload_n 0, 1) := by decide +kernel
theorem dL_law_1275 : decode cL_law 1275 = .ok (.iload_n 3, 1) := by decide +kernel
theorem dL_law_1276 : decode cL_law 1276 = .ok (.iconst 1, 1) := by decide +kernel
theorem dL_law_1277 : decode cL_law 1277 = .ok (.iadd, 1) := by decide +kernel
theorem dL_law_1278 : decode cL_law 1278 = .ok (.iaload, 1) := by decide +kernel
theorem dL_law_1279 : decode cL_law 1279 = .ok (.invokevirtual 127, 3) := by decide +kernel
theorem dL_law_1282 : decode cL_law 1282 = .ok (.pop, 1) := by decide +kernel
theorem dL_law_1283 : decode cL_law 1283 = .ok (.aload_n 2, 1) := by decide +kernel
theorem dL_law_1284 : decode cL_law 1284 = .ok (.aload_n 0, 1) := by decide +kernel
theorem dL_law_1285 : decode cL_law 1285 = .ok (.iload_n 3, 1) := by decide +kernel
theorem dL_law_1286 : decode cL_law 1286 = .ok (.iconst 1, 1) := by decide +kernel
theorem dL_law_1287 : decode cL_law 1287 = .ok (.iadd, 1) := by decide +kernel
theorem dL_law_1288 : decode cL_law 1288 = .ok (.iaload, 1) := by decide +kernel
theorem dL_law_1289 : decode cL_law 1289 = .ok (.invokevirtual 130, 3) := by decide +kernel
theorem dL_law_1292 : decode cL_law 1292 = .ok (.pop, 1) := by decide +kernel
theorem dL_law_1293 : decode cL_law 1293 = .ok (.goto 181, 3) := by decide +kernel
theorem dL_law_1296 : decode cL_law 1296 = .ok (.aload_n 1, 1) := by decide +kernel
theorem dL_law_1297 : decode cL_law 1297 = .ok (.aload_n 0, 1) := by decide +kernel
theorem dL_law_1298 : decode cL_law 1298 = .ok (.iload_n 3, 1) := by decide +kernel
theorem dL_law_1299 : decode cL_law 1299 = .ok (.iconst 1, 1) := by decide +kernel
theorem dL_law_1300 : decode cL_law 1300 = .ok (.iadd, 1) := by decide +kernel
theorem dL_law_1301 : decode cL_law 1301 = .ok (.iaload, 1) := by decide +kernel
theorem dL_law_1302 : decode cL_law 1302 = .ok (.aload_n 0, 1) := by decide +kernel
theorem dL_law_1303 : decode cL_law 1303 = .ok (.iload_n 3, 1) := by decide +kernel
theorem dL_law_1304 : decode cL_law 1304 = .ok (.iconst 2, 1) := by decide +kernel
theorem dL_law_1305 : decode cL_law 1305 = .ok (.iadd, 1) := by decide +kernel
theorem dL_law_1306 : decode cL_law 1306 = .ok (.iaload, 1) := by decide +kernel
theorem dL_law_1307 : decode cL_law 1307 = .ok (.invokevirtual 131, 3) := by decide +kernel
theorem dL_law_1310 : decode cL_law 1310 = .ok (.pop, 1) := by decide +kernel
theorem dL_law_1311 : decode cL_law 1311 = .ok (.aload_n 2, 1) := by decide +kernel
theorem dL_law_1312 : decode cL_law 1312 = .ok (.aload_n 0, 1) := by decide +kernel
theorem dL_law_1313 : decode cL_law 1313 = .ok (.iload_n 3, 1) := by decide +kernel
theorem dL_law_1314 : decode cL_law 1314 = .ok (.iconst 1, 1) := by decide +kernel
theorem dL_law_1315 : decode cL_law 1315 = .ok (.iadd, 1) := by decide +kernel
theorem dL_law_1316 : decode cL_law 1316 = .ok (.iaload, 1) := by decide +kernel
theorem dL_law_1317 : decode cL_law 1317 = .ok (.aload_n 0, 1) := by decide +kernel
theorem dL_law_1318 : decode cL_law 1318 = .ok (.iload_n 3, 1) := by decide +kernel
theorem dL_law_1319 : decode cL_law 1319 = .ok (.iconst 2, 1) := by decide +kernel
theorem dL_law_1320 : decode cL_law 1320 = .ok (.iadd, 1) := by decide +kernel
theorem dL_law_1321 : decode cL_law 1321 = .ok (.iaload, 1) := by decide +kernel
theorem dL_law_1322 : decode cL_law 1322 = .ok (.invokevirtual 134, 3) := by decide +kernel
theorem dL_law_1325 : decode cL_law 1325 = .ok (.pop, 1) := by decide +kernel
theorem dL_law_1326 : decode cL_law 1326 = .ok (.goto 148, 3) := by decide +kernel
theorem dL_law_1329 : decode cL_law 1329 = .ok (.aload_n 1, 1) := by decide +kernel
theorem dL_law_1330 : decode cL_law 1330 = .ok (.aload_n 0, 1) := by decide +kernel
theorem dL_law_1331 : decode cL_law 1331 = .ok (.iload_n 3, 1) := by decide +kernel
theorem dL_law_1332 : decode cL_law 1332 = .ok (.iconst 1, 1) := by decide +kernel
theorem dL_law_1333 : decode cL_law 1333 = .ok (.iadd, 1) := by decide +kernel
theorem dL_law_1334 : decode cL_law 1334 = .ok (.iaload, 1) := by decide +kernel
theorem dL_law_1335 : decode cL_law 1335 = .ok (.aload_n 0, 1) := by decide +kernel
theorem dL_law_1336 : decode cL_law 1336 = .ok (.iload_n 3, 1) := by decide +kernel
theorem dL_law_1337 : decode cL_law 1337 = .ok (.iconst 2, 1) := by decide +kernel
theorem dL_law_1338 : decode cL_law 1338 = .ok (.iadd, 1) := by decide +kernel
theorem dL_law_1339 : decode cL_law 1339 = .ok (.iaload, 1) := by decide +kernel
theorem dL_law_1340 : decode cL_law 1340 = .ok (.invokevirtual 135, 3) := by decide +kernel
theorem dL_law_1343 : decode cL_law 1343 = .ok (.pop, 1) := by decide +kernel
theorem dL_law_1344 : decode cL_law 1344 = .ok (.aload_n 2, 1) := by decide +kernel
theorem dL_law_1345 : decode cL_law 1345 = .ok (.aload_n 0, 1) := by decide +kernel
theorem dL_law_1346 : decode cL_law 1346 = .ok (.iload_n 3, 1) := by decide +kernel
theorem dL_law_1347 : decode cL_law 1347 = .ok (.iconst 1, 1) := by decide +kernel
theorem dL_law_1348 : decode cL_law 1348 = .ok (.iadd, 1) := by decide +kernel
theorem dL_law_1349 : decode cL_law 1349 = .ok (.iaload, 1) := by decide +kernel
theorem dL_law_1350 : decode cL_law 1350 = .ok (.aload_n 0, 1) := by decide +kernel
theorem dL_law_1351 : decode cL_law 1351 = .ok (.iload_n 3, 1) := by decide +kernel
theorem dL_law_1352 : decode cL_law 1352 = .ok (.iconst 2, 1) := by decide +kernel
theorem dL_law_1353 : decode cL_law 1353 = .ok (.iadd, 1) := by decide +kernel
theorem dL_law_1354 : decode cL_law 1354 = .ok (.iaload, 1) := by decide +kernel
theorem dL_law_1355 : decode cL_law 1355 = .ok (.invokevirtual 138, 3) := by decide +kernel
theorem dL_law_1358 : decode cL_law 1358 = .ok (.pop, 1) := by decide +kernel
theorem dL_law_1359 : decode cL_law 1359 = .ok (.goto 115, 3) := by decide +kernel
theorem dL_law_1362 : decode cL_law 1362 = .ok (.aload_n 1, 1) := by decide +kernel
theorem dL_law_1363 : decode cL_law 1363 = .ok (.aload_n 0, 1) := by decide +kernel
theorem dL_law_1364 : decode cL_law 1364 = .ok (.iload_n 3, 1) := by decide +kernel
theorem dL_law_1365 : decode cL_law 1365 = .ok (.iconst 1, 1) := by decide +kernel
theorem dL_law_1366 : decode cL_law 1366 = .ok (.iadd, 1) := by decide +kernel
theorem dL_law_1367 : decode cL_law 1367 = .ok (.iaload, 1) := by decide +kernel
theorem dL_law_1368 : decode cL_law 1368 = .ok (.invokevirtual 139, 3) := by decide +kernel
theorem dL_law_1371 : decode cL_law 1371 = .ok (.pop, 1) := by decide +kernel
theorem dL_law_1372 : decode cL_law 1372 = .ok (.aload_n 2, 1) := by decide +kernel
theorem dL_law_1373 : decode cL_law 1373 = .ok (.aload_n 0, 1) := by decide +kernel
theorem dL_law_1374 : decode cL_law 1374 = .ok (.iload_n 3, 1) := by decide +kernel
theorem dL_law_1375 : decode cL_law 1375 = .ok (.iconst 1, 1) := by decide +kernel
theorem dL_law_1376 : decode cL_law 1376 = .ok (.iadd, 1) := by decide +kernel
theorem dL_law_1377 : decode cL_law 1377 = .ok (.iaload, 1) := by decide +kernel
theorem dL_law_1378 : decode cL_law 1378 = .ok (.invokevirtual 142, 3) := by decide +kernel
theorem dL_law_1381 : decode cL_law 1381 = .ok (.pop, 1) := by decide +kernel
theorem dL_law_1382 : decode cL_law 1382 = .ok (.goto 92, 3) := by decide +kernel
theorem dL_law_1385 : decode cL_law 1385 = .ok (.aload_n 1, 1) := by decide +kernel
theorem dL_law_1386 : decode cL_law 1386 = .ok (.aload_n 0, 1) := by decide +kernel
theorem dL_law_1387 : decode cL_law 1387 = .ok (.iload_n 3, 1) := by decide +kernel
theorem dL_law_1388 : decode cL_law 1388 = .ok (.iconst 1, 1) := by decide +kernel
theorem dL_law_1389 : decode cL_law 1389 = .ok (.iadd, 1) := by decide +kernel
theorem dL_law_1390 : decode cL_law 1390 = .ok (.iaload, 1) := by decide +kernel
theorem dL_law_1391 : decode cL_law 1391 = .ok (.aload_n 0, 1) := by decide +kernel
theorem dL_law_1392 : decode cL_law 1392 = .ok (.iload_n 3, 1) := by decide +kernel
theorem dL_law_1393 : decode cL_law 1393 = .ok (.iconst 2, 1) := by decide +kernel
theorem dL_law_1394 : decode cL_law 1394 = .ok (.iadd, 1) := by decide +kernel
theorem dL_law_1395 : decode cL_law 1395 = .ok (.iaload, 1) := by decide +kernel
theorem dL_law_1396 : decode cL_law 1396 = .ok (.invokevirtual 143, 3) := by decide +kernel
theorem dL_law_1399 : decode cL_law 1399 = .ok (.pop, 1) := by decide +kernel
theorem dL_law_1400 : decode cL_law 1400 = .ok (.aload_n 2, 1) := by decide +kernel
theorem dL_law_1401 : decode cL_law 1401 = .ok (.aload_n 0, 1) := by decide +kernel
theorem dL_law_1402 : decode cL_law 1402 = .ok (.iload_n 3, 1) := by decide +kernel
theorem dL_law_1403 : decode cL_law 1403 = .ok (.iconst 1, 1) := by decide +kernel
theorem dL_law_1404 : decode cL_law 1404 = .ok (.iadd, 1) := by decide +kernel
theorem dL_law_1405 : decode cL_law 1405 = .ok (.iaload, 1) := by decide +kernel
theorem dL_law_1406 : decode cL_law 1406 = .ok (.aload_n 0, 1) := by decide +kernel
theorem dL_law_1407 : decode cL_law 1407 = .ok (.iload_n 3, 1) := by decide +kernel
theorem dL_law_1408 : decode cL_law 1408 = .ok (.iconst 2, 1) := by decide +kernel
theorem dL_law_1409 : decode cL_law 1409 = .ok (.iadd, 1) := by decide +kernel
theorem dL_law_1410 : decode cL_law 1410 = .ok (.iaload, 1) := by decide +kernel
theorem dL_law_1411 : decode cL_law 1411 = .ok (.invokevirtual 146, 3) := by decide +kernel
theorem dL_law_1414 : decode cL_law 1414 = .ok (.pop, 1) := by decide +kernel
theorem dL_law_1415 : decode cL_law 1415 = .ok (.goto 59, 3) := by decide +kernel
theorem dL_law_1418 : decode cL_law 1418 = .ok (.aload_n 1, 1) := by decide +kernel
theorem dL_law_1419 : decode cL_law 1419 = .ok (.aload_n 0, 1) := by decide +kernel
theorem dL_law_1420 : decode cL_law 1420 = .ok (.iload_n 3, 1) := by decide +kernel
theorem dL_law_1421 : decode cL_law 1421 = .ok (.iconst 1, 1) := by decide +kernel
theorem dL_law_1422 : decode cL_law 1422 = .ok (.iadd, 1) := by decide +kernel
theorem dL_law_1423 : decode cL_law 1423 = .ok (.iaload, 1) := by decide +kernel
theorem dL_law_1424 : decode cL_law 1424 = .ok (.aload_n 0, 1) := by decide +kernel
theorem dL_law_1425 : decode cL_law 1425 = .ok (.iload_n 3, 1) := by decide +kernel
theorem dL_law_1426 : decode cL_law 1426 = .ok (.iconst 2, 1) := by decide +kernel
theorem dL_law_1427 : decode cL_law 1427 = .ok (.iadd, 1) := by decide +kernel
theorem dL_law_1428 : decode cL_law 1428 = .ok (.iaload, 1) := by decide +kernel
theorem dL_law_1429 : decode cL_law 1429 = .ok (.invokevirtual 147, 3) := by decide +kernel
theorem dL_law_1432 : decode cL_law 1432 = .ok (.pop, 1) := by decide +kernel
theorem dL_law_1433 : decode cL_law 1433 = .ok (.aload_n 2, 1) := by decide +kernel
theorem dL_law_1434 : decode cL_law 1434 = .ok (.aload_n 0, 1) := by decide +kernel
theorem dL_law_1435 : decode cL_law 1435 = .ok (.iload_n 3, 1) := by decide +kernel
theorem dL_law_1436 : decode cL_law 1436 = .ok (.iconst 1, 1) := by decide +kernel
theorem dL_law_1437 : decode cL_law 1437 = .ok (.iadd, 1) := by decide +kernel
theorem dL_law_1438 : decode cL_law 1438 = .ok (.iaload, 1) := by decide +kernel
theorem dL_law_1439 : decode cL_law 1439 = .ok (.aload_n 0, 1) := by decide +kernel
theorem dL_law_1440 : decode cL_law 1440 = .ok (.iload_n 3, 1) := by decide +kernel
theorem dL_law_1441 : decode cL_law 1441 = .ok (.iconst 2, 1) := by decide +kernel
theorem dL_law_1442 : decode cL_law 1442 = .ok (.iadd, 1) := by decide +kernel
theorem dL_law_1443 : decode cL_law 1443 = .ok (.iaload, 1) := by decide +kernel
theorem dL_law_1444 : decode cL_law 1444 = .ok (.invokevirtual 150, 3) := by decide +kernel
theorem dL_law_1447 : decode cL_law 1447 = .ok (.pop, 1) := by decide +kernel
theorem dL_law_1448 : decode cL_law 1448 = .ok (.goto 26, 3) := by decide +kernel
theorem dL_law_1451 : decode cL_law 1451 = .ok (.aload_n 1, 1) := by decide +kernel
theorem dL_law_1452 : decode cL_law 1452 = .ok (.aload_n 0, 1) := by decide +kernel
theorem dL_law_1453 : decode cL_law 1453 = .ok (.iload_n 3, 1) := by decide +kernel
theorem dL_law_1454 : decode cL_law 1454 = .ok (.iconst 1, 1) := by decide +kernel
theorem dL_law_1455 : decode cL_law 1455 = .ok (.iadd, 1) := by decide +kernel
theorem dL_law_1456 : decode cL_law 1456 = .ok (.iaload, 1) := by decide +kernel
theorem dL_law_1457 : decode cL_law 1457 = .ok (.invokevirtual 151, 3) := by decide +kernel
theorem dL_law_1460 : decode cL_law 1460 = .ok (.pop, 1) := by decide +kernel
theorem dL_law_1461 : decode cL_law 1461 = .ok (.aload_n 2, 1) := by decide +kernel
theorem dL_law_1462 : decode cL_law 1462 = .ok (.aload_n 0, 1) := by decide +kernel
theorem dL_law_1463 : decode cL_law 1463 = .ok (.iload_n 3, 1) := by decide +kernel
theorem dL_law_1464 : decode cL_law 1464 = .ok (.iconst 1, 1) := by decide +kernel
theorem dL_law_1465 : decode cL_law 1465 = .ok (.iadd, 1) := by decide +kernel
theorem dL_law_1466 : decode cL_law 1466 = .ok (.iaload, 1) := by decide +kernel
theorem dL_law_1467 : decode cL_law 1467 = .ok (.invokevirtual 154, 3) := by decide +kernel
theorem dL_law_1470 : decode cL_law 1470 = .ok (.pop, 1) := by decide +kernel
theorem dL_law_1471 : decode cL_law 1471 = .ok (.goto 3, 3) := by decide +kernel
theorem dL_law_1474 : decode cL_law 1474 = .ok (.iinc 3 7, 3) := by decide +kernel
theorem dL_law_1477 : decode cL_law 1477 = .ok (.goto (-1459), 3) := by decide +kernel
theorem dL_law_1480 : decode cL_law 1480 = .ok (.iconst 1, 1) := by decide +kernel
theorem dL_law_1481 : decode cL_law 1481 = .ok (.ireturn, 1) := by decide +kernel
