theorem xX11_order_0 : dcd mX11_order 0 = some (.iload 1, 1, 0, 0) := by decide +kernel
theorem xX11_order_1 : dcd mX11_order 1 = some (.i2l, 1, 0, 0) := by decide +kernel
theorem xX11_order_2 : dcd mX11_order 2 = some (.lconst 1, 1, 0, 0) := by decide +kernel
theorem xX11_order_3 : dcd mX11_order 3 = some (.ldc2_w 502, 3, 0, 0) := by decide +kernel
theorem xX11_order_6 : dcd mX11_order 6 = some (.invokestatic 203, 3, 0, 0) := by decide +kernel
theorem xX11_order_9 : dcd mX11_order 9 = some (.ifCond .eq 0, 3, 42, 0) := by decide +kernel
theorem xX11_order_12 : dcd mX11_order 12 = some (.iload 2, 1, 0, 0) := by decide +kernel
theorem xX11_order_13 : dcd mX11_order 13 = some (.i2l, 1, 0, 0) := by decide +kernel
theorem xX11_order_14 : dcd mX11_order 14 = some (.lconst 0, 1, 0, 0) := by decide +kernel
theorem xX11_order_15 : dcd mX11_order 15 = some (.ldc2_w 209, 3, 0, 0) := by decide +kernel
theorem xX11_order_18 : dcd mX11_order 18 = some (.invokestatic 203, 3, 0, 0) := by decide +kernel
theorem xX11_order_21 : dcd mX11_order 21 = some (.ifCond .eq 0, 3, 42, 0) := by decide +kernel
theorem xX11_order_24 : dcd mX11_order 24 = some (.iload 3, 1, 0, 0) := by decide +kernel
theorem xX11_order_25 : dcd mX11_order 25 = some (.i2l, 1, 0, 0) := by decide +kernel
theorem xX11_order_26 : dcd mX11_order 26 = some (.ldc2_w 400, 3, 0, 0) := by decide +kernel
theorem xX11_order_29 : dcd mX11_order 29 = some (.iload 1, 1, 0, 0) := by decide +kernel
theorem xX11_order_30 : dcd mX11_order 30 = some (.invokestatic 504, 3, 0, 0) := by decide +kernel
theorem xX11_order_33 : dcd mX11_order 33 = some (.iconst 0, 1, 0, 1) := by decide +kernel
theorem xX11_order_34 : dcd mX11_order 34 = some (.isub, 1, 0, 0) := by decide +kernel
theorem xX11_order_35 : dcd mX11_order 35 = some (.i2l, 1, 0, 0) := by decide +kernel
theorem xX11_order_36 : dcd mX11_order 36 = some (.invokestatic 203, 3, 0, 0) := by decide +kernel
theorem xX11_order_39 : dcd mX11_order 39 = some (.ifCond .ne 0, 3, 44, 0) := by decide +kernel
theorem xX11_order_42 : dcd mX11_order 42 = some (.iconst 0, 1, 0, (-1)) := by decide +kernel
theorem xX11_order_43 : dcd mX11_order 43 = some (.ireturn, 1, 0, 0) := by decide +kernel
theorem xX11_order_44 : dcd mX11_order 44 = some (.iload 1, 1, 0, 0) := by decide +kernel
theorem xX11_order_45 : dcd mX11_order 45 = some (.istore 4, 2, 0, 0) := by decide +kernel
theorem xX11_order_47 : dcd mX11_order 47 = some (.iload 4, 2, 0, 0) := by decide +kernel
theorem xX11_order_49 : dcd mX11_order 49 = some (.ifCond .lt 0, 3, 162, 0) := by decide +kernel
theorem xX11_order_52 : dcd mX11_order 52 = some (.iload 4, 2, 0, 0) := by decide +kernel
theorem xX11_order_54 : dcd mX11_order 54 = some (.iload 1, 1, 0, 0) := by decide +kernel
theorem xX11_order_55 : dcd mX11_order 55 = some (.iconst 0, 1, 0, (-1)) := by decide +kernel
theorem xX11_order_56 : dcd mX11_order 56 = some (.ixor, 1, 0, 0) := by decide +kernel
theorem xX11_order_57 : dcd mX11_order 57 = some (.iand, 1, 0, 0) := by decide +kernel
theorem xX11_order_58 : dcd mX11_order 58 = some (.ifCond .eq 0, 3, 64, 0) := by decide +kernel
theorem xX11_order_61 : dcd mX11_order 61 = some (.goto 0, 3, 156, 0) := by decide +kernel
theorem xX11_order_64 : dcd mX11_order 64 = some (.aload 0, 1, 0, 0) := by decide +kernel
theorem xX11_order_65 : dcd mX11_order 65 = some (.getfield 164, 3, 0, 0) := by decide +kernel
theorem xX11_order_68 : dcd mX11_order 68 = some (.iload 4, 2, 0, 0) := by decide +kernel
theorem xX11_order_70 : dcd mX11_order 70 = some (.iconst 0, 1, 0, 0) := by decide +kernel
theorem xX11_order_71 : dcd mX11_order 71 = some (.iastore, 1, 0, 0) := by decide +kernel
theorem xX11_order_72 : dcd mX11_order 72 = some (.aload 0, 1, 0, 0) := by decide +kernel
theorem xX11_order_73 : dcd mX11_order 73 = some (.iload 4, 2, 0, 0) := by decide +kernel
theorem xX11_order_75 : dcd mX11_order 75 = some (.iload 2, 1, 0, 0) := by decide +kernel
theorem xX11_order_76 : dcd mX11_order 76 = some (.invokevirtual 496, 3, 0, 0) := by decide +kernel
theorem xX11_order_79 : dcd mX11_order 79 = some (.ifCond .eq 0, 3, 93, 0) := by decide +kernel
theorem xX11_order_82 : dcd mX11_order 82 = some (.aload 0, 1, 0, 0) := by decide +kernel
theorem xX11_order_83 : dcd mX11_order 83 = some (.getfield 164, 3, 0, 0) := by decide +kernel
theorem xX11_order_86 : dcd mX11_order 86 = some (.iload 4, 2, 0, 0) := by decide +kernel
theorem xX11_order_88 : dcd mX11_order 88 = some (.iconst 0, 1, 0, (-1)) := by decide +kernel
theorem xX11_order_89 : dcd mX11_order 89 = some (.iastore, 1, 0, 0) := by decide +kernel
theorem xX11_order_90 : dcd mX11_order 90 = some (.goto 0, 3, 156, 0) := by decide +kernel
theorem xX11_order_93 : dcd mX11_order 93 = some (.iconst 0, 1, 0, 0) := by decide +kernel
theorem xX11_order_94 : dcd mX11_order 94 = some (.istore 5, 2, 0, 0) := by decide +kernel
theorem xX11_order_96 : dcd mX11_order 96 = some (.iload 5, 2, 0, 0) := by decide +kernel
theorem xX11_order_98 : dcd mX11_order 98 = some (.iconst 0, 2, 0, 8) := by decide +kernel
theorem xX11_order_100 : dcd mX11_order 100 = some (.if_icmp .ge 0, 3, 156, 0) := by decide +kernel
theorem xX11_order_103 : dcd mX11_order 103 = some (.iload 1, 1, 0, 0) := by decide +kernel
theorem xX11_order_104 : dcd mX11_order 104 = some (.iload 4, 2, 0, 0) := by decide +kernel
theorem xX11_order_106 : dcd mX11_order 106 = some (.iconst 0, 1, 0, (-1)) := by decide +kernel
theorem xX11_order_107 : dcd mX11_order 107 = some (.ixor, 1, 0, 0) := by decide +kernel
theorem xX11_order_108 : dcd mX11_order 108 = some (.iand, 1, 0, 0) := by decide +kernel
theorem xX11_order_109 : dcd mX11_order 109 = some (.iload 5, 2, 0, 0) := by decide +kernel
theorem xX11_order_111 : dcd mX11_order 111 = some (.invokestatic 491, 3, 0, 0) := by decide +kernel
theorem xX11_order_114 : dcd mX11_order 114 = some (.ifCond .eq 0, 3, 150, 0) := by decide +kernel
theorem xX11_order_117 : dcd mX11_order 117 = some (.aload 0, 1, 0, 0) := by decide +kernel
theorem xX11_order_118 : dcd mX11_order 118 = some (.iload 4, 2, 0, 0) := by decide +kernel
theorem xX11_order_120 : dcd mX11_order 120 = some (.iload 5, 2, 0, 0) := by decide +kernel
theorem xX11_order_122 : dcd mX11_order 122 = some (.invokevirtual 507, 3, 0, 0) := by decide +kernel
theorem xX11_order_125 : dcd mX11_order 125 = some (.aload 0, 1, 0, 0) := by decide +kernel
theorem xX11_order_126 : dcd mX11_order 126 = some (.getfield 164, 3, 0, 0) := by decide +kernel
theorem xX11_order_129 : dcd mX11_order 129 = some (.iload 4, 2, 0, 0) := by decide +kernel
theorem xX11_order_131 : dcd mX11_order 131 = some (.iaload, 1, 0, 0) := by decide +kernel
theorem xX11_order_132 : dcd mX11_order 132 = some (.if_icmp .le 0, 3, 150, 0) := by decide +kernel
theorem xX11_order_135 : dcd mX11_order 135 = some (.aload 0, 1, 0, 0) := by decide +kernel
theorem xX11_order_136 : dcd mX11_order 136 = some (.getfield 164, 3, 0, 0) := by decide +kernel
theorem xX11_order_139 : dcd mX11_order 139 = some (.iload 4, 2, 0, 0) := by decide +kernel
theorem xX11_order_141 : dcd mX11_order 141 = some (.aload 0, 1, 0, 0) := by decide +kernel
theorem xX11_order_142 : dcd mX11_order 142 = some (.iload 4, 2, 0, 0) := by decide +kernel
theorem xX11_order_144 : dcd mX11_order 144 = some (.iload 5, 2, 0, 0) := by decide +kernel
theorem xX11_order_146 : dcd mX11_order 146 = some (.invokevirtual 507, 3, 0, 0) := by decide +kernel
theorem xX11_order_149 : dcd mX11_order 149 = some (.iastore, 1, 0, 0) := by decide +kernel
theorem xX11_order_150 : dcd mX11_order 150 = some (.iinc 5 0, 3, 0, 1) := by decide +kernel
theorem xX11_order_153 : dcd mX11_order 153 = some (.goto 0, 3, 96, 0) := by decide +kernel
theorem xX11_order_156 : dcd mX11_order 156 = some (.iinc 4 0, 3, 0, (-1)) := by decide +kernel
theorem xX11_order_159 : dcd mX11_order 159 = some (.goto 0, 3, 47, 0) := by decide +kernel
theorem xX11_order_162 : dcd mX11_order 162 = some (.aload 0, 1, 0, 0) := by decide +kernel
theorem xX11_order_163 : dcd mX11_order 163 = some (.getfield 164, 3, 0, 0) := by decide +kernel
theorem xX11_order_166 : dcd mX11_order 166 = some (.iconst 0, 1, 0, 0) := by decide +kernel
theorem xX11_order_167 : dcd mX11_order 167 = some (.iaload, 1, 0, 0) := by decide +kernel
theorem xX11_order_168 : dcd mX11_order 168 = some (.ifCond .ge 0, 3, 175, 0) := by decide +kernel
theorem xX11_order_171 : dcd mX11_order 171 = some (.iconst 0, 1, 0, 0) := by decide +kernel
theorem xX11_order_172 : dcd mX11_order 172 = some (.goto 0, 3, 181, 0) := by decide +kernel
theorem xX11_order_175 : dcd mX11_order 175 = some (.aload 0, 1, 0, 0) := by decide +kernel
theorem xX11_order_176 : dcd mX11_order 176 = some (.getfield 164, 3, 0, 0) := by decide +kernel
theorem xX11_order_179 : dcd mX11_order 179 = some (.iconst 0, 1, 0, 0) := by decide +kernel
theorem xX11_order_180 : dcd mX11_order 180 = some (.iaload, 1, 0, 0) := by decide +kernel
theorem xX11_order_181 : dcd mX11_order 181 = some (.istore 4, 2, 0, 0) := by decide +kernel
theorem xX11_order_183 : dcd mX11_order 183 = some (.iload 3, 1, 0, 0) := by decide +kernel
theorem xX11_order_184 : dcd mX11_order 184 = some (.iconst 0, 1, 0, (-1)) := by decide +kernel
theorem xX11_order_185 : dcd mX11_order 185 = some (.if_icmp .ne 0, 3, 191, 0) := by decide +kernel
theorem xX11_order_188 : dcd mX11_order 188 = some (.iload 4, 2, 0, 0) := by decide +kernel
theorem xX11_order_190 : dcd mX11_order 190 = some (.ireturn, 1, 0, 0) := by decide +kernel
theorem xX11_order_191 : dcd mX11_order 191 = some (.iconst 0, 1, 0, 0) := by decide +kernel
theorem xX11_order_192 : dcd mX11_order 192 = some (.istore 5, 2, 0, 0) := by decide +kernel
theorem xX11_order_194 : dcd mX11_order 194 = some (.iconst 0, 1, 0, (-1)) := by decide +kernel
theorem xX11_order_195 : dcd mX11_order 195 = some (.istore 6, 2, 0, 0) := by decide +kernel
theorem xX11_order_197 : dcd mX11_order 197 = some (.iconst 0, 1, 0, 0) := by decide +kernel
theorem xX11_order_198 : dcd mX11_order 198 = some (.istore 7, 2, 0, 0) := by decide +kernel
theorem xX11_order_200 : dcd mX11_order 200 = some (.iload 7, 2, 0, 0) := by decide +kernel
theorem xX11_order_202 : dcd mX11_order 202 = some (.iload 3, 1, 0, 0) := by decide +kernel
theorem xX11_order_203 : dcd mX11_order 203 = some (.if_icmp .gt 0, 3, 302, 0) := by decide +kernel
theorem xX11_order_206 : dcd mX11_order 206 = some (.iconst 0, 1, 0, 0) := by decide +kernel
theorem xX11_order_207 : dcd mX11_order 207 = some (.istore 6, 2, 0, 0) := by decide +kernel
theorem xX11_order_209 : dcd mX11_order 209 = some (.iload 1, 1, 0, 0) := by decide +kernel
theorem xX11_order_210 : dcd mX11_order 210 = some (.iload 5, 2, 0, 0) := by decide +kernel
theorem xX11_order_212 : dcd mX11_order 212 = some (.iconst 0, 1, 0, (-1)) := by decide +kernel
theorem xX11_order_213 : dcd mX11_order 213 = some (.ixor, 1, 0, 0) := by decide +kernel
theorem xX11_order_214 : dcd mX11_order 214 = some (.iand, 1, 0, 0) := by decide +kernel
theorem xX11_order_215 : dcd mX11_order 215 = some (.iload 6, 2, 0, 0) := by decide +kernel
theorem xX11_order_217 : dcd mX11_order 217 = some (.invokestatic 491, 3, 0, 0) := by decide +kernel
theorem xX11_order_220 : dcd mX11_order 220 = some (.ifCond .eq 0, 3, 251, 0) := by decide +kernel
theorem xX11_order_223 : dcd mX11_order 223 = some (.aload 0, 1, 0, 0) := by decide +kernel
theorem xX11_order_224 : dcd mX11_order 224 = some (.getfield 164, 3, 0, 0) := by decide +kernel
theorem xX11_order_227 : dcd mX11_order 227 = some (.iload 5, 2, 0, 0) := by decide +kernel
theorem xX11_order_229 : dcd mX11_order 229 = some (.iaload, 1, 0, 0) := by decide +kernel
theorem xX11_order_230 : dcd mX11_order 230 = some (.ifCond .lt 0, 3, 257, 0) := by decide +kernel
theorem xX11_order_233 : dcd mX11_order 233 = some (.aload 0, 1, 0, 0) := by decide +kernel
theorem xX11_order_234 : dcd mX11_order 234 = some (.iload 5, 2, 0, 0) := by decide +kernel
theorem xX11_order_236 : dcd mX11_order 236 = some (.iload 6, 2, 0, 0) := by decide +kernel
theorem xX11_order_238 : dcd mX11_order 238 = some (.invokevirtual 507, 3, 0, 0) := by decide +kernel
theorem xX11_order_241 : dcd mX11_order 241 = some (.aload 0, 1, 0, 0) := by decide +kernel
theorem xX11_order_242 : dcd mX11_order 242 = some (.getfield 164, 3, 0, 0) := by decide +kernel
theorem xX11_order_245 : dcd mX11_order 245 = some (.iload 5, 2, 0, 0) := by decide +kernel
theorem xX11_order_247 : dcd mX11_order 247 = some (.iaload, 1, 0, 0) := by decide +kernel
theorem xX11_order_248 : dcd mX11_order 248 = some (.if_icmp .eq 0, 3, 257, 0) := by decide +kernel
theorem xX11_order_251 : dcd mX11_order 251 = some (.iinc 6 0, 3, 0, 1) := by decide +kernel
theorem xX11_order_254 : dcd mX11_order 254 = some (.goto 0, 3, 209, 0) := by decide +kernel
theorem xX11_order_257 : dcd mX11_order 257 = some (.aload 0, 1, 0, 0) := by decide +kernel
theorem xX11_order_258 : dcd mX11_order 258 = some (.getfield 164, 3, 0, 0) := by decide +kernel
theorem xX11_order_261 : dcd mX11_order 261 = some (.iload 5, 2, 0, 0) := by decide +kernel
theorem xX11_order_263 : dcd mX11_order 263 = some (.iaload, 1, 0, 0) := by decide +kernel
theorem xX11_order_264 : dcd mX11_order 264 = some (.ifCond .ge 0, 3, 271, 0) := by decide +kernel
theorem xX11_order_267 : dcd mX11_order 267 = some (.iconst 0, 1, 0, 1) := by decide +kernel
theorem xX11_order_268 : dcd mX11_order 268 = some (.goto 0, 3, 272, 0) := by decide +kernel
theorem xX11_order_271 : dcd mX11_order 271 = some (.iconst 0, 1, 0, 0) := by decide +kernel
theorem xX11_order_272 : dcd mX11_order 272 = some (.istore 8, 2, 0, 0) := by decide +kernel
theorem xX11_order_274 : dcd mX11_order 274 = some (.iload 5, 2, 0, 0) := by decide +kernel
theorem xX11_order_276 : dcd mX11_order 276 = some (.iconst 0, 1, 0, 1) := by decide +kernel
theorem xX11_order_277 : dcd mX11_order 277 = some (.iload 6, 2, 0, 0) := by decide +kernel
theorem xX11_order_279 : dcd mX11_order 279 = some (.ishl, 1, 0, 0) := by decide +kernel
theorem xX11_order_280 : dcd mX11_order 280 = some (.ior, 1, 0, 0) := by decide +kernel
theorem xX11_order_281 : dcd mX11_order 281 = some (.istore 5, 2, 0, 0) := by decide +kernel
theorem xX11_order_283 : dcd mX11_order 283 = some (.iload 8, 2, 0, 0) := by decide +kernel
theorem xX11_order_285 : dcd mX11_order 285 = some (.ifCond .eq 0, 3, 296, 0) := by decide +kernel
theorem xX11_order_288 : dcd mX11_order 288 = some (.aload 0, 1, 0, 0) := by decide +kernel
theorem xX11_order_289 : dcd mX11_order 289 = some (.getfield 164, 3, 0, 0) := by decide +kernel
theorem xX11_order_292 : dcd mX11_order 292 = some (.iload 5, 2, 0, 0) := by decide +kernel
theorem xX11_order_294 : dcd mX11_order 294 = some (.iconst 0, 1, 0, (-1)) := by decide +kernel
theorem xX11_order_295 : dcd mX11_order 295 = some (.iastore, 1, 0, 0) := by decide +kernel
theorem xX11_order_296 : dcd mX11_order 296 = some (.iinc 7 0, 3, 0, 1) := by decide +kernel
theorem xX11_order_299 : dcd mX11_order 299 = some (.goto 0, 3, 200, 0) := by decide +kernel
theorem xX11_order_302 : dcd mX11_order 302 = some (.iload 6, 2, 0, 0) := by decide +kernel
theorem xX11_order_304 : dcd mX11_order 304 = some (.ireturn, 1, 0, 0) := by decide +kernel
theorem xX11_seed_0 : dcd mX11_seed 0 = some (.iload 1, 1, 0, 0) := by decide +kernel
theorem xX11_seed_1 : dcd mX11_seed 1 = some (.i2l, 1, 0, 0) := by decide +kernel
theorem xX11_seed_2 : dcd mX11_seed 2 = some (.lconst 0, 1, 0, 0) := by decide +kernel
theorem xX11_seed_3 : dcd mX11_seed 3 = some (.ldc2_w 511, 3, 0, 0) := by decide +kernel
theorem xX11_seed_6 : dcd mX11_seed 6 = some (.invokestatic 203, 3, 0, 0) := by decide +kernel
theorem xX11_seed_9 : dcd mX11_seed 9 = some (.ifCond .ne 0, 3, 14, 0) := by decide +kernel
theorem xX11_seed_12 : dcd mX11_seed 12 = some (.iconst 0, 1, 0, 0) := by decide +kernel
theorem xX11_seed_13 : dcd mX11_seed 13 = some (.ireturn, 1, 0, 0) := by decide +kernel
theorem xX11_seed_14 : dcd mX11_seed 14 = some (.aload 0, 1, 0, 0) := by decide +kernel
theorem xX11_seed_15 : dcd mX11_seed 15 = some (.iload 1, 1, 0, 0) := by decide +kernel
theorem xX11_seed_16 : dcd mX11_seed 16 = some (.putfield 17, 3, 0, 0) := by decide +kernel
theorem xX11_seed_19 : dcd mX11_seed 19 = some (.iconst 0, 1, 0, 1) := by decide +kernel
theorem xX11_seed_20 : dcd mX11_seed 20 = some (.ireturn, 1, 0, 0) := by decide +kernel
theorem xX11_someLeans_0 : dcd mX11_someLeans 0 = some (.aload 0, 1, 0, 0) := by decide +kernel
theorem xX11_someLeans_1 : dcd mX11_someLeans 1 = some (.invokevirtual 381, 3, 0, 0) := by decide +kernel
theorem xX11_someLeans_4 : dcd mX11_someLeans 4 = some (.iconst 0, 1, 0, 0) := by decide +kernel
theorem xX11_someLeans_5 : dcd mX11_someLeans 5 = some (.istore 1, 1, 0, 0) := by decide +kernel
theorem xX11_someLeans_6 : dcd mX11_someLeans 6 = some (.iload 1, 1, 0, 0) := by decide +kernel
theorem xX11_someLeans_7 : dcd mX11_someLeans 7 = some (.aload 0, 1, 0, 0) := by decide +kernel
theorem xX11_someLeans_8 : dcd mX11_someLeans 8 = some (.getfield 13, 3, 0, 0) := by decide +kernel
theorem xX11_someLeans_11 : dcd mX11_someLeans 11 = some (.if_icmp .ge 0, 3, 40, 0) := by decide +kernel
theorem xX11_someLeans_14 : dcd mX11_someLeans 14 = some (.aload 0, 1, 0, 0) := by decide +kernel
theorem xX11_someLeans_15 : dcd mX11_someLeans 15 = some (.getfield 30, 3, 0, 0) := by decide +kernel
theorem xX11_someLeans_18 : dcd mX11_someLeans 18 = some (.iload 1, 1, 0, 0) := by decide +kernel
theorem xX11_someLeans_19 : dcd mX11_someLeans 19 = some (.baload, 1, 0, 0) := by decide +kernel
theorem xX11_someLeans_20 : dcd mX11_someLeans 20 = some (.ifCond .eq 0, 3, 34, 0) := by decide +kernel
theorem xX11_someLeans_23 : dcd mX11_someLeans 23 = some (.aload 0, 1, 0, 0) := by decide +kernel
theorem xX11_someLeans_24 : dcd mX11_someLeans 24 = some (.getfield 109, 3, 0, 0) := by decide +kernel
theorem xX11_someLeans_27 : dcd mX11_someLeans 27 = some (.iload 1, 1, 0, 0) := by decide +kernel
theorem xX11_someLeans_28 : dcd mX11_someLeans 28 = some (.iaload, 1, 0, 0) := by decide +kernel
theorem xX11_someLeans_29 : dcd mX11_someLeans 29 = some (.ifCond .eq 0, 3, 34, 0) := by decide +kernel
theorem xX11_someLeans_32 : dcd mX11_someLeans 32 = some (.iconst 0, 1, 0, 1) := by decide +kernel
theorem xX11_someLeans_33 : dcd mX11_someLeans 33 = some (.ireturn, 1, 0, 0) := by decide +kernel
theorem xX11_someLeans_34 : dcd mX11_someLeans 34 = some (.iinc 1 0, 3, 0, 1) := by decide +kernel
theorem xX11_someLeans_37 : dcd mX11_someLeans 37 = some (.goto 0, 3, 6, 0) := by decide +kernel
theorem xX11_someLeans_40 : dcd mX11_someLeans 40 = some (.iconst 0, 1, 0, 0) := by decide +kernel
theorem xX11_someLeans_41 : dcd mX11_someLeans 41 = some (.ireturn, 1, 0, 0) := by decide +kernel
theorem xX11_draw_0 : dcd mX11_draw 0 = some (.iload 1, 1, 0, 0) := by decide +kernel
theorem xX11_draw_1 : dcd mX11_draw 1 = some (.i2l, 1, 0, 0) := by decide +kernel
theorem xX11_draw_2 : dcd mX11_draw 2 = some (.lconst 1, 1, 0, 0) := by decide +kernel
theorem xX11_draw_3 : dcd mX11_draw 3 = some (.ldc2_w 513, 3, 0, 0) := by decide +kernel
theorem xX11_draw_6 : dcd mX11_draw 6 = some (.invokestatic 203, 3, 0, 0) := by decide +kernel
theorem xX11_draw_9 : dcd mX11_draw 9 = some (.ifCond .ne 0, 3, 14, 0) := by decide +kernel
theorem xX11_draw_12 : dcd mX11_draw 12 = some (.iconst 0, 1, 0, (-1)) := by decide +kernel
theorem xX11_draw_13 : dcd mX11_draw 13 = some (.ireturn, 1, 0, 0) := by decide +kernel
theorem xX11_draw_14 : dcd mX11_draw 14 = some (.iconst 0, 1, 0, 0) := by decide +kernel
theorem xX11_draw_15 : dcd mX11_draw 15 = some (.istore 2, 1, 0, 0) := by decide +kernel
theorem xX11_draw_16 : dcd mX11_draw 16 = some (.iconst 0, 1, 0, 0) := by decide +kernel
theorem xX11_draw_17 : dcd mX11_draw 17 = some (.istore 3, 1, 0, 0) := by decide +kernel
theorem xX11_draw_18 : dcd mX11_draw 18 = some (.iload 3, 1, 0, 0) := by decide +kernel
theorem xX11_draw_19 : dcd mX11_draw 19 = some (.iload 1, 1, 0, 0) := by decide +kernel
theorem xX11_draw_20 : dcd mX11_draw 20 = some (.if_icmp .ge 0, 3, 78, 0) := by decide +kernel
theorem xX11_draw_23 : dcd mX11_draw 23 = some (.aload 0, 1, 0, 0) := by decide +kernel
theorem xX11_draw_24 : dcd mX11_draw 24 = some (.iconst 0, 3, 0, 25173) := by decide +kernel
theorem xX11_draw_27 : dcd mX11_draw 27 = some (.aload 0, 1, 0, 0) := by decide +kernel
theorem xX11_draw_28 : dcd mX11_draw 28 = some (.getfield 17, 3, 0, 0) := by decide +kernel
theorem xX11_draw_31 : dcd mX11_draw 31 = some (.imul, 1, 0, 0) := by decide +kernel
theorem xX11_draw_32 : dcd mX11_draw 32 = some (.iconst 0, 3, 0, 13849) := by decide +kernel
theorem xX11_draw_35 : dcd mX11_draw 35 = some (.iadd, 1, 0, 0) := by decide +kernel
theorem xX11_draw_36 : dcd mX11_draw 36 = some (.ldc 515, 3, 0, 0) := by decide +kernel
theorem xX11_draw_39 : dcd mX11_draw 39 = some (.irem, 1, 0, 0) := by decide +kernel
theorem xX11_draw_40 : dcd mX11_draw 40 = some (.putfield 17, 3, 0, 0) := by decide +kernel
theorem xX11_draw_43 : dcd mX11_draw 43 = some (.aload 0, 1, 0, 0) := by decide +kernel
theorem xX11_draw_44 : dcd mX11_draw 44 = some (.aload 0, 1, 0, 0) := by decide +kernel
theorem xX11_draw_45 : dcd mX11_draw 45 = some (.getfield 17, 3, 0, 0) := by decide +kernel
theorem xX11_draw_48 : dcd mX11_draw 48 = some (.iconst 0, 2, 0, 19) := by decide +kernel
theorem xX11_draw_50 : dcd mX11_draw 50 = some (.irem, 1, 0, 0) := by decide +kernel
theorem xX11_draw_51 : dcd mX11_draw 51 = some (.iconst 0, 2, 0, 9) := by decide +kernel
theorem xX11_draw_53 : dcd mX11_draw 53 = some (.isub, 1, 0, 0) := by decide +kernel
theorem xX11_draw_54 : dcd mX11_draw 54 = some (.putfield 234, 3, 0, 0) := by decide +kernel
theorem xX11_draw_57 : dcd mX11_draw 57 = some (.iload 2, 1, 0, 0) := by decide +kernel
theorem xX11_draw_58 : dcd mX11_draw 58 = some (.aload 0, 1, 0, 0) := by decide +kernel
theorem xX11_draw_59 : dcd mX11_draw 59 = some (.invokevirtual 516, 3, 0, 0) := by decide +kernel
theorem xX11_draw_62 : dcd mX11_draw 62 = some (.ifCond .eq 0, 3, 69, 0) := by decide +kernel
theorem xX11_draw_65 : dcd mX11_draw 65 = some (.iconst 0, 1, 0, 1) := by decide +kernel
theorem xX11_draw_66 : dcd mX11_draw 66 = some (.goto 0, 3, 70, 0) := by decide +kernel
theorem xX11_draw_69 : dcd mX11_draw 69 = some (.iconst 0, 1, 0, 0) := by decide +kernel
theorem xX11_draw_70 : dcd mX11_draw 70 = some (.iadd, 1, 0, 0) := by decide +kernel
theorem xX11_draw_71 : dcd mX11_draw 71 = some (.istore 2, 1, 0, 0) := by decide +kernel
theorem xX11_draw_72 : dcd mX11_draw 72 = some (.iinc 3 0, 3, 0, 1) := by decide +kernel
theorem xX11_draw_75 : dcd mX11_draw 75 = some (.goto 0, 3, 18, 0) := by decide +kernel
theorem xX11_draw_78 : dcd mX11_draw 78 = some (.iload 2, 1, 0, 0) := by decide +kernel
theorem xX11_draw_79 : dcd mX11_draw 79 = some (.ireturn, 1, 0, 0) := by decide +kernel
theorem xX11_hanging_0 : dcd mX11_hanging 0 = some (.iconst 0, 1, 0, 0) := by decide +kernel
theorem xX11_hanging_1 : dcd mX11_hanging 1 = some (.istore 1, 1, 0, 0) := by decide +kernel
theorem xX11_hanging_2 : dcd mX11_hanging 2 = some (.iconst 0, 1, 0, 0) := by decide +kernel
theorem xX11_hanging_3 : dcd mX11_hanging 3 = some (.istore 2, 1, 0, 0) := by decide +kernel
theorem xX11_hanging_4 : dcd mX11_hanging 4 = some (.iload 2, 1, 0, 0) := by decide +kernel
theorem xX11_hanging_5 : dcd mX11_hanging 5 = some (.aload 0, 1, 0, 0) := by decide +kernel
theorem xX11_hanging_6 : dcd mX11_hanging 6 = some (.getfield 213, 3, 0, 0) := by decide +kernel
theorem xX11_hanging_9 : dcd mX11_hanging 9 = some (.if_icmp .ge 0, 3, 35, 0) := by decide +kernel
theorem xX11_hanging_12 : dcd mX11_hanging 12 = some (.iload 1, 1, 0, 0) := by decide +kernel
theorem xX11_hanging_13 : dcd mX11_hanging 13 = some (.aload 0, 1, 0, 0) := by decide +kernel
theorem xX11_hanging_14 : dcd mX11_hanging 14 = some (.getfield 55, 3, 0, 0) := by decide +kernel
theorem xX11_hanging_17 : dcd mX11_hanging 17 = some (.iload 2, 1, 0, 0) := by decide +kernel
theorem xX11_hanging_18 : dcd mX11_hanging 18 = some (.baload, 1, 0, 0) := by decide +kernel
theorem xX11_hanging_19 : dcd mX11_hanging 19 = some (.ifCond .eq 0, 3, 26, 0) := by decide +kernel
theorem xX11_hanging_22 : dcd mX11_hanging 22 = some (.iconst 0, 1, 0, 1) := by decide +kernel
theorem xX11_hanging_23 : dcd mX11_hanging 23 = some (.goto 0, 3, 27, 0) := by decide +kernel
theorem xX11_hanging_26 : dcd mX11_hanging 26 = some (.iconst 0, 1, 0, 0) := by decide +kernel
theorem xX11_hanging_27 : dcd mX11_hanging 27 = some (.iadd, 1, 0, 0) := by decide +kernel
theorem xX11_hanging_28 : dcd mX11_hanging 28 = some (.istore 1, 1, 0, 0) := by decide +kernel
theorem xX11_hanging_29 : dcd mX11_hanging 29 = some (.iinc 2 0, 3, 0, 1) := by decide +kernel
theorem xX11_hanging_32 : dcd mX11_hanging 32 = some (.goto 0, 3, 4, 0) := by decide +kernel
theorem xX11_hanging_35 : dcd mX11_hanging 35 = some (.iload 1, 1, 0, 0) := by decide +kernel
theorem xX11_hanging_36 : dcd mX11_hanging 36 = some (.ireturn, 1, 0, 0) := by decide +kernel
theorem xX11_keep_0 : dcd mX11_keep 0 = some (.aload 0, 1, 0, 0) := by decide +kernel
theorem xX11_keep_1 : dcd mX11_keep 1 = some (.iconst 0, 1, 0, 1) := by decide +kernel
theorem xX11_keep_2 : dcd mX11_keep 2 = some (.putfield 519, 3, 0, 0) := by decide +kernel
theorem xX11_keep_5 : dcd mX11_keep 5 = some (.aload 0, 1, 0, 0) := by decide +kernel
theorem xX11_keep_6 : dcd mX11_keep 6 = some (.aload 0, 1, 0, 0) := by decide +kernel
theorem xX11_keep_7 : dcd mX11_keep 7 = some (.getfield 13, 3, 0, 0) := by decide +kernel
theorem xX11_keep_10 : dcd mX11_keep 10 = some (.putfield 522, 3, 0, 0) := by decide +kernel
theorem xX11_keep_13 : dcd mX11_keep 13 = some (.aload 0, 1, 0, 0) := by decide +kernel
theorem xX11_keep_14 : dcd mX11_keep 14 = some (.aload 0, 1, 0, 0) := by decide +kernel
theorem xX11_keep_15 : dcd mX11_keep 15 = some (.getfield 213, 3, 0, 0) := by decide +kernel
theorem xX11_keep_18 : dcd mX11_keep 18 = some (.putfield 525, 3, 0, 0) := by decide +kernel
theorem xX11_keep_21 : dcd mX11_keep 21 = some (.aload 0, 1, 0, 0) := by decide +kernel
theorem xX11_keep_22 : dcd mX11_keep 22 = some (.aload 0, 1, 0, 0) := by decide +kernel
theorem xX11_keep_23 : dcd mX11_keep 23 = some (.getfield 234, 3, 0, 0) := by decide +kernel
theorem xX11_keep_26 : dcd mX11_keep 26 = some (.putfield 528, 3, 0, 0) := by decide +kernel
theorem xX11_keep_29 : dcd mX11_keep 29 = some (.aload 0, 1, 0, 0) := by decide +kernel
theorem xX11_keep_30 : dcd mX11_keep 30 = some (.aload 0, 1, 0, 0) := by decide +kernel
theorem xX11_keep_31 : dcd mX11_keep 31 = some (.getfield 17, 3, 0, 0) := by decide +kernel
theorem xX11_keep_34 : dcd mX11_keep 34 = some (.putfield 531, 3, 0, 0) := by decide +kernel
theorem xX11_keep_37 : dcd mX11_keep 37 = some (.iconst 0, 1, 0, 0) := by decide +kernel
theorem xX11_keep_38 : dcd mX11_keep 38 = some (.istore 1, 1, 0, 0) := by decide +kernel
theorem xX11_keep_39 : dcd mX11_keep 39 = some (.iload 1, 1, 0, 0) := by decide +kernel
theorem xX11_keep_40 : dcd mX11_keep 40 = some (.iconst 0, 2, 0, 10) := by decide +kernel
theorem xX11_keep_42 : dcd mX11_keep 42 = some (.if_icmp .ge 0, 3, 111, 0) := by decide +kernel
theorem xX11_keep_45 : dcd mX11_keep 45 = some (.aload 0, 1, 0, 0) := by decide +kernel
theorem xX11_keep_46 : dcd mX11_keep 46 = some (.getfield 170, 3, 0, 0) := by decide +kernel
theorem xX11_keep_49 : dcd mX11_keep 49 = some (.iload 1, 1, 0, 0) := by decide +kernel
theorem xX11_keep_50 : dcd mX11_keep 50 = some (.aload 0, 1, 0, 0) := by decide +kernel
theorem xX11_keep_51 : dcd mX11_keep 51 = some (.getfield 20, 3, 0, 0) := by decide +kernel
theorem xX11_keep_54 : dcd mX11_keep 54 = some (.iload 1, 1, 0, 0) := by decide +kernel
theorem xX11_keep_55 : dcd mX11_keep 55 = some (.iaload, 1, 0, 0) := by decide +kernel
theorem xX11_keep_56 : dcd mX11_keep 56 = some (.iastore, 1, 0, 0) := by decide +kernel
theorem xX11_keep_57 : dcd mX11_keep 57 = some (.aload 0, 1, 0, 0) := by decide +kernel
theorem xX11_keep_58 : dcd mX11_keep 58 = some (.getfield 173, 3, 0, 0) := by decide +kernel
theorem xX11_keep_61 : dcd mX11_keep 61 = some (.iload 1, 1, 0, 0) := by decide +kernel
theorem xX11_keep_62 : dcd mX11_keep 62 = some (.aload 0, 1, 0, 0) := by decide +kernel
theorem xX11_keep_63 : dcd mX11_keep 63 = some (.getfield 24, 3, 0, 0) := by decide +kernel
theorem xX11_keep_66 : dcd mX11_keep 66 = some (.iload 1, 1, 0, 0) := by decide +kernel
theorem xX11_keep_67 : dcd mX11_keep 67 = some (.iaload, 1, 0, 0) := by decide +kernel
theorem xX11_keep_68 : dcd mX11_keep 68 = some (.iastore, 1, 0, 0) := by decide +kernel
theorem xX11_keep_69 : dcd mX11_keep 69 = some (.aload 0, 1, 0, 0) := by decide +kernel
theorem xX11_keep_70 : dcd mX11_keep 70 = some (.getfield 167, 3, 0, 0) := by decide +kernel
theorem xX11_keep_73 : dcd mX11_keep 73 = some (.iload 1, 1, 0, 0) := by decide +kernel
theorem xX11_keep_74 : dcd mX11_keep 74 = some (.aload 0, 1, 0, 0) := by decide +kernel
theorem xX11_keep_75 : dcd mX11_keep 75 = some (.getfield 27, 3, 0, 0) := by decide +kernel
theorem xX11_keep_78 : dcd mX11_keep 78 = some (.iload 1, 1, 0, 0) := by decide +kernel
theorem xX11_keep_79 : dcd mX11_keep 79 = some (.iaload, 1, 0, 0) := by decide +kernel
theorem xX11_keep_80 : dcd mX11_keep 80 = some (.iastore, 1, 0, 0) := by decide +kernel
theorem xX11_keep_81 : dcd mX11_keep 81 = some (.aload 0, 1, 0, 0) := by decide +kernel
theorem xX11_keep_82 : dcd mX11_keep 82 = some (.getfield 176, 3, 0, 0) := by decide +kernel
theorem xX11_keep_85 : dcd mX11_keep 85 = some (.iload 1, 1, 0, 0) := by decide +kernel
theorem xX11_keep_86 : dcd mX11_keep 86 = some (.aload 0, 1, 0, 0) := by decide +kernel
theorem xX11_keep_87 : dcd mX11_keep 87 = some (.getfield 30, 3, 0, 0) := by decide +kernel
theorem xX11_keep_90 : dcd mX11_keep 90 = some (.iload 1, 1, 0, 0) := by decide +kernel
theorem xX11_keep_91 : dcd mX11_keep 91 = some (.baload, 1, 0, 0) := by decide +kernel
theorem xX11_keep_92 : dcd mX11_keep 92 = some (.bastore, 1, 0, 0) := by decide +kernel
theorem xX11_keep_93 : dcd mX11_keep 93 = some (.aload 0, 1, 0, 0) := by decide +kernel
theorem xX11_keep_94 : dcd mX11_keep 94 = some (.getfield 179, 3, 0, 0) := by decide +kernel
theorem xX11_keep_97 : dcd mX11_keep 97 = some (.iload 1, 1, 0, 0) := by decide +kernel
theorem xX11_keep_98 : dcd mX11_keep 98 = some (.aload 0, 1, 0, 0) := by decide +kernel
theorem xX11_keep_99 : dcd mX11_keep 99 = some (.getfield 34, 3, 0, 0) := by decide +kernel
theorem xX11_keep_102 : dcd mX11_keep 102 = some (.iload 1, 1, 0, 0) := by decide +kernel
theorem xX11_keep_103 : dcd mX11_keep 103 = some (.baload, 1, 0, 0) := by decide +kernel
theorem xX11_keep_104 : dcd mX11_keep 104 = some (.bastore, 1, 0, 0) := by decide +kernel
theorem xX11_keep_105 : dcd mX11_keep 105 = some (.iinc 1 0, 3, 0, 1) := by decide +kernel
theorem xX11_keep_108 : dcd mX11_keep 108 = some (.goto 0, 3, 39, 0) := by decide +kernel
theorem xX11_keep_111 : dcd mX11_keep 111 = some (.iconst 0, 1, 0, 0) := by decide +kernel
theorem xX11_keep_112 : dcd mX11_keep 112 = some (.istore 1, 1, 0, 0) := by decide +kernel
theorem xX11_keep_113 : dcd mX11_keep 113 = some (.iload 1, 1, 0, 0) := by decide +kernel
theorem xX11_keep_114 : dcd mX11_keep 114 = some (.iconst 0, 2, 0, 40) := by decide +kernel
theorem xX11_keep_116 : dcd mX11_keep 116 = some (.if_icmp .ge 0, 3, 209, 0) := by decide +kernel
theorem xX11_keep_119 : dcd mX11_keep 119 = some (.aload 0, 1, 0, 0) := by decide +kernel
theorem xX11_keep_120 : dcd mX11_keep 120 = some (.getfield 182, 3, 0, 0) := by decide +kernel
theorem xX11_keep_123 : dcd mX11_keep 123 = some (.iload 1, 1, 0, 0) := by decide +kernel
theorem xX11_keep_124 : dcd mX11_keep 124 = some (.aload 0, 1, 0, 0) := by decide +kernel
theorem xX11_keep_125 : dcd mX11_keep 125 = some (.getfield 37, 3, 0, 0) := by decide +kernel
theorem xX11_keep_128 : dcd mX11_keep 128 = some (.iload 1, 1, 0, 0) := by decide +kernel
theorem xX11_keep_129 : dcd mX11_keep 129 = some (.iaload, 1, 0, 0) := by decide +kernel
theorem xX11_keep_130 : dcd mX11_keep 130 = some (.iastore, 1, 0, 0) := by decide +kernel
theorem xX11_keep_131 : dcd mX11_keep 131 = some (.aload 0, 1, 0, 0) := by decide +kernel
theorem xX11_keep_132 : dcd mX11_keep 132 = some (.getfield 185, 3, 0, 0) := by decide +kernel
theorem xX11_keep_135 : dcd mX11_keep 135 = some (.iload 1, 1, 0, 0) := by decide +kernel
theorem xX11_keep_136 : dcd mX11_keep 136 = some (.aload 0, 1, 0, 0) := by decide +kernel
theorem xX11_keep_137 : dcd mX11_keep 137 = some (.getfield 40, 3, 0, 0) := by decide +kernel
theorem xX11_keep_140 : dcd mX11_keep 140 = some (.iload 1, 1, 0, 0) := by decide +kernel
theorem xX11_keep_141 : dcd mX11_keep 141 = some (.iaload, 1, 0, 0) := by decide +kernel
theorem xX11_keep_142 : dcd mX11_keep 142 = some (.iastore, 1, 0, 0) := by decide +kernel
theorem xX11_keep_143 : dcd mX11_keep 143 = some (.aload 0, 1, 0, 0) := by decide +kernel
theorem xX11_keep_144 : dcd mX11_keep 144 = some (.getfield 188, 3, 0, 0) := by decide +kernel
theorem xX11_keep_147 : dcd mX11_keep 147 = some (.iload 1, 1, 0, 0) := by decide +kernel
theorem xX11_keep_148 : dcd mX11_keep 148 = some (.aload 0, 1, 0, 0) := by decide +kernel
theorem xX11_keep_149 : dcd mX11_keep 149 = some (.getfield 43, 3, 0, 0) := by decide +kernel
theorem xX11_keep_152 : dcd mX11_keep 152 = some (.iload 1, 1, 0, 0) := by decide +kernel
theorem xX11_keep_153 : dcd mX11_keep 153 = some (.iaload, 1, 0, 0) := by decide +kernel
theorem xX11_keep_154 : dcd mX11_keep 154 = some (.iastore, 1, 0, 0) := by decide +kernel
theorem xX11_keep_155 : dcd mX11_keep 155 = some (.aload 0, 1, 0, 0) := by decide +kernel
theorem xX11_keep_156 : dcd mX11_keep 156 = some (.getfield 191, 3, 0, 0) := by decide +kernel
theorem xX11_keep_159 : dcd mX11_keep 159 = some (.iload 1, 1, 0, 0) := by decide +kernel
theorem xX11_keep_160 : dcd mX11_keep 160 = some (.aload 0, 1, 0, 0) := by decide +kernel
theorem xX11_keep_161 : dcd mX11_keep 161 = some (.getfield 46, 3, 0, 0) := by decide +kernel
theorem xX11_keep_164 : dcd mX11_keep 164 = some (.iload 1, 1, 0, 0) := by decide +kernel
theorem xX11_keep_165 : dcd mX11_keep 165 = some (.iaload, 1, 0, 0) := by decide +kernel
theorem xX11_keep_166 : dcd mX11_keep 166 = some (.iastore, 1, 0, 0) := by decide +kernel
theorem xX11_keep_167 : dcd mX11_keep 167 = some (.aload 0, 1, 0, 0) := by decide +kernel
theorem xX11_keep_168 : dcd mX11_keep 168 = some (.getfield 194, 3, 0, 0) := by decide +kernel
theorem xX11_keep_171 : dcd mX11_keep 171 = some (.iload 1, 1, 0, 0) := by decide +kernel
theorem xX11_keep_172 : dcd mX11_keep 172 = some (.aload 0, 1, 0, 0) := by decide +kernel
theorem xX11_keep_173 : dcd mX11_keep 173 = some (.getfield 49, 3, 0, 0) := by decide +kernel
theorem xX11_keep_176 : dcd mX11_keep 176 = some (.iload 1, 1, 0, 0) := by decide +kernel
theorem xX11_keep_177 : dcd mX11_keep 177 = some (.iaload, 1, 0, 0) := by decide +kernel
theorem xX11_keep_178 : dcd mX11_keep 178 = some (.iastore, 1, 0, 0) := by decide +kernel
theorem xX11_keep_179 : dcd mX11_keep 179 = some (.aload 0, 1, 0, 0) := by decide +kernel
theorem xX11_keep_180 : dcd mX11_keep 180 = some (.getfield 197, 3, 0, 0) := by decide +kernel
theorem xX11_keep_183 : dcd mX11_keep 183 = some (.iload 1, 1, 0, 0) := by decide +kernel
theorem xX11_keep_184 : dcd mX11_keep 184 = some (.aload 0, 1, 0, 0) := by decide +kernel
theorem xX11_keep_185 : dcd mX11_keep 185 = some (.getfield 52, 3, 0, 0) := by decide +kernel
theorem xX11_keep_188 : dcd mX11_keep 188 = some (.iload 1, 1, 0, 0) := by decide +kernel
theorem xX11_keep_189 : dcd mX11_keep 189 = some (.iaload, 1, 0, 0) := by decide +kernel
theorem xX11_keep_190 : dcd mX11_keep 190 = some (.iastore, 1, 0, 0) := by decide +kernel
theorem xX11_keep_191 : dcd mX11_keep 191 = some (.aload 0, 1, 0, 0) := by decide +kernel
theorem xX11_keep_192 : dcd mX11_keep 192 = some (.getfield 200, 3, 0, 0) := by decide +kernel
theorem xX11_keep_195 : dcd mX11_keep 195 = some (.iload 1, 1, 0, 0) := by decide +kernel
theorem xX11_keep_196 : dcd mX11_keep 196 = some (.aload 0, 1, 0, 0) := by decide +kernel
theorem xX11_keep_197 : dcd mX11_keep 197 = some (.getfield 55, 3, 0, 0) := by decide +kernel
theorem xX11_keep_200 : dcd mX11_keep 200 = some (.iload 1, 1, 0, 0) := by decide +kernel
theorem xX11_keep_201 : dcd mX11_keep 201 = some (.baload, 1, 0, 0) := by decide +kernel
theorem xX11_keep_202 : dcd mX11_keep 202 = some (.bastore, 1, 0, 0) := by decide +kernel
theorem xX11_keep_203 : dcd mX11_keep 203 = some (.iinc 1 0, 3, 0, 1) := by decide +kernel
theorem xX11_keep_206 : dcd mX11_keep 206 = some (.goto 0, 3, 113, 0) := by decide +kernel
theorem xX11_keep_209 : dcd mX11_keep 209 = some (.aload 0, 1, 0, 0) := by decide +kernel
theorem xX11_keep_210 : dcd mX11_keep 210 = some (.invokevirtual 534, 3, 0, 0) := by decide +kernel
theorem xX11_keep_213 : dcd mX11_keep 213 = some (.ireturn, 1, 0, 0) := by decide +kernel
theorem xX11_undo_0 : dcd mX11_undo 0 = some (.aload 0, 1, 0, 0) := by decide +kernel
theorem xX11_undo_1 : dcd mX11_undo 1 = some (.getfield 519, 3, 0, 0) := by decide +kernel
theorem xX11_undo_4 : dcd mX11_undo 4 = some (.ifCond .ne 0, 3, 9, 0) := by decide +kernel
theorem xX11_undo_7 : dcd mX11_undo 7 = some (.iconst 0, 1, 0, 0) := by decide +kernel
theorem xX11_undo_8 : dcd mX11_undo 8 = some (.ireturn, 1, 0, 0) := by decide +kernel
theorem xX11_undo_9 : dcd mX11_undo 9 = some (.aload 0, 1, 0, 0) := by decide +kernel
theorem xX11_undo_10 : dcd mX11_undo 10 = some (.aload 0, 1, 0, 0) := by decide +kernel
theorem xX11_undo_11 : dcd mX11_undo 11 = some (.getfield 522, 3, 0, 0) := by decide +kernel
theorem xX11_undo_14 : dcd mX11_undo 14 = some (.putfield 13, 3, 0, 0) := by decide +kernel
theorem xX11_undo_17 : dcd mX11_undo 17 = some (.aload 0, 1, 0, 0) := by decide +kernel
theorem xX11_undo_18 : dcd mX11_undo 18 = some (.aload 0, 1, 0, 0) := by decide +kernel
theorem xX11_undo_19 : dcd mX11_undo 19 = some (.getfield 525, 3, 0, 0) := by decide +kernel
theorem xX11_undo_22 : dcd mX11_undo 22 = some (.putfield 213, 3, 0, 0) := by decide +kernel
theorem xX11_undo_25 : dcd mX11_undo 25 = some (.aload 0, 1, 0, 0) := by decide +kernel
theorem xX11_undo_26 : dcd mX11_undo 26 = some (.aload 0, 1, 0, 0) := by decide +kernel
theorem xX11_undo_27 : dcd mX11_undo 27 = some (.getfield 528, 3, 0, 0) := by decide +kernel
theorem xX11_undo_30 : dcd mX11_undo 30 = some (.putfield 234, 3, 0, 0) := by decide +kernel
theorem xX11_undo_33 : dcd mX11_undo 33 = some (.aload 0, 1, 0, 0) := by decide +kernel
theorem xX11_undo_34 : dcd mX11_undo 34 = some (.aload 0, 1, 0, 0) := by decide +kernel
theorem xX11_undo_35 : dcd mX11_undo 35 = some (.getfield 531, 3, 0, 0) := by decide +kernel
theorem xX11_undo_38 : dcd mX11_undo 38 = some (.putfield 17, 3, 0, 0) := by decide +kernel
theorem xX11_undo_41 : dcd mX11_undo 41 = some (.iconst 0, 1, 0, 0) := by decide +kernel
theorem xX11_undo_42 : dcd mX11_undo 42 = some (.istore 1, 1, 0, 0) := by decide +kernel
theorem xX11_undo_43 : dcd mX11_undo 43 = some (.iload 1, 1, 0, 0) := by decide +kernel
theorem xX11_undo_44 : dcd mX11_undo 44 = some (.iconst 0, 2, 0, 10) := by decide +kernel
theorem xX11_undo_46 : dcd mX11_undo 46 = some (.if_icmp .ge 0, 3, 115, 0) := by decide +kernel
theorem xX11_undo_49 : dcd mX11_undo 49 = some (.aload 0, 1, 0, 0) := by decide +kernel
theorem xX11_undo_50 : dcd mX11_undo 50 = some (.getfield 20, 3, 0, 0) := by decide +kernel
theorem xX11_undo_53 : dcd mX11_undo 53 = some (.iload 1, 1, 0, 0) := by decide +kernel
theorem xX11_undo_54 : dcd mX11_undo 54 = some (.aload 0, 1, 0, 0) := by decide +kernel
theorem xX11_undo_55 : dcd mX11_undo 55 = some (.getfield 170, 3, 0, 0) := by decide +kernel
theorem xX11_undo_58 : dcd mX11_undo 58 = some (.iload 1, 1, 0, 0) := by decide +kernel
theorem xX11_undo_59 : dcd mX11_undo 59 = some (.iaload, 1, 0, 0) := by decide +kernel
theorem xX11_undo_60 : dcd mX11_undo 60 = some (.iastore, 1, 0, 0) := by decide +kernel
theorem xX11_undo_61 : dcd mX11_undo 61 = some (.aload 0, 1, 0, 0) := by decide +kernel
theorem xX11_undo_62 : dcd mX11_undo 62 = some (.getfield 24, 3, 0, 0) := by decide +kernel
theorem xX11_undo_65 : dcd mX11_undo 65 = some (.iload 1, 1, 0, 0) := by decide +kernel
theorem xX11_undo_66 : dcd mX11_undo 66 = some (.aload 0, 1, 0, 0) := by decide +kernel
theorem xX11_undo_67 : dcd mX11_undo 67 = some (.getfield 173, 3, 0, 0) := by decide +kernel
theorem xX11_undo_70 : dcd mX11_undo 70 = some (.iload 1, 1, 0, 0) := by decide +kernel
theorem xX11_undo_71 : dcd mX11_undo 71 = some (.iaload, 1, 0, 0) := by decide +kernel
theorem xX11_undo_72 : dcd mX11_undo 72 = some (.iastore, 1, 0, 0) := by decide +kernel
theorem xX11_undo_73 : dcd mX11_undo 73 = some (.aload 0, 1, 0, 0) := by decide +kernel
theorem xX11_undo_74 : dcd mX11_undo 74 = some (.getfield 27, 3, 0, 0) := by decide +kernel
theorem xX11_undo_77 : dcd mX11_undo 77 = some (.iload 1, 1, 0, 0) := by decide +kernel
theorem xX11_undo_78 : dcd mX11_undo 78 = some (.aload 0, 1, 0, 0) := by decide +kernel
theorem xX11_undo_79 : dcd mX11_undo 79 = some (.getfield 167, 3, 0, 0) := by decide +kernel
theorem xX11_undo_82 : dcd mX11_undo 82 = some (.iload 1, 1, 0, 0) := by decide +kernel
theorem xX11_undo_83 : dcd mX11_undo 83 = some (.iaload, 1, 0, 0) := by decide +kernel
theorem xX11_undo_84 : dcd mX11_undo 84 = some (.iastore, 1, 0, 0) := by decide +kernel
theorem xX11_undo_85 : dcd mX11_undo 85 = some (.aload 0, 1, 0, 0) := by decide +kernel
theorem xX11_undo_86 : dcd mX11_undo 86 = some (.getfield 30, 3, 0, 0) := by decide +kernel
theorem xX11_undo_89 : dcd mX11_undo 89 = some (.iload 1, 1, 0, 0) := by decide +kernel
theorem xX11_undo_90 : dcd mX11_undo 90 = some (.aload 0, 1, 0, 0) := by decide +kernel
theorem xX11_undo_91 : dcd mX11_undo 91 = some (.getfield 176, 3, 0, 0) := by decide +kernel
theorem xX11_undo_94 : dcd mX11_undo 94 = some (.iload 1, 1, 0, 0) := by decide +kernel
theorem xX11_undo_95 : dcd mX11_undo 95 = some (.baload, 1, 0, 0) := by decide +kernel
theorem xX11_undo_96 : dcd mX11_undo 96 = some (.bastore, 1, 0, 0) := by decide +kernel
theorem xX11_undo_97 : dcd mX11_undo 97 = some (.aload 0, 1, 0, 0) := by decide +kernel
theorem xX11_undo_98 : dcd mX11_undo 98 = some (.getfield 34, 3, 0, 0) := by decide +kernel
theorem xX11_undo_101 : dcd mX11_undo 101 = some (.iload 1, 1, 0, 0) := by decide +kernel
theorem xX11_undo_102 : dcd mX11_undo 102 = some (.aload 0, 1, 0, 0) := by decide +kernel
theorem xX11_undo_103 : dcd mX11_undo 103 = some (.getfield 179, 3, 0, 0) := by decide +kernel
theorem xX11_undo_106 : dcd mX11_undo 106 = some (.iload 1, 1, 0, 0) := by decide +kernel
theorem xX11_undo_107 : dcd mX11_undo 107 = some (.baload, 1, 0, 0) := by decide +kernel
theorem xX11_undo_108 : dcd mX11_undo 108 = some (.bastore, 1, 0, 0) := by decide +kernel
theorem xX11_undo_109 : dcd mX11_undo 109 = some (.iinc 1 0, 3, 0, 1) := by decide +kernel
theorem xX11_undo_112 : dcd mX11_undo 112 = some (.goto 0, 3, 43, 0) := by decide +kernel
theorem xX11_undo_115 : dcd mX11_undo 115 = some (.iconst 0, 1, 0, 0) := by decide +kernel
theorem xX11_undo_116 : dcd mX11_undo 116 = some (.istore 1, 1, 0, 0) := by decide +kernel
theorem xX11_undo_117 : dcd mX11_undo 117 = some (.iload 1, 1, 0, 0) := by decide +kernel
theorem xX11_undo_118 : dcd mX11_undo 118 = some (.iconst 0, 2, 0, 40) := by decide +kernel
theorem xX11_undo_120 : dcd mX11_undo 120 = some (.if_icmp .ge 0, 3, 213, 0) := by decide +kernel
theorem xX11_undo_123 : dcd mX11_undo 123 = some (.aload 0, 1, 0, 0) := by decide +kernel
theorem xX11_undo_124 : dcd mX11_undo 124 = some (.getfield 37, 3, 0, 0) := by decide +kernel
theorem xX11_undo_127 : dcd mX11_undo 127 = some (.iload 1, 1, 0, 0) := by decide +kernel
theorem xX11_undo_128 : dcd mX11_undo 128 = some (.aload 0, 1, 0, 0) := by decide +kernel
theorem xX11_undo_129 : dcd mX11_undo 129 = some (.getfield 182, 3, 0, 0) := by decide +kernel
theorem xX11_undo_132 : dcd mX11_undo 132 = some (.iload 1, 1, 0, 0) := by decide +kernel
theorem xX11_undo_133 : dcd mX11_undo 133 = some (.iaload, 1, 0, 0) := by decide +kernel
theorem xX11_undo_134 : dcd mX11_undo 134 = some (.iastore, 1, 0, 0) := by decide +kernel
theorem xX11_undo_135 : dcd mX11_undo 135 = some (.aload 0, 1, 0, 0) := by decide +kernel
theorem xX11_undo_136 : dcd mX11_undo 136 = some (.getfield 40, 3, 0, 0) := by decide +kernel
theorem xX11_undo_139 : dcd mX11_undo 139 = some (.iload 1, 1, 0, 0) := by decide +kernel
theorem xX11_undo_140 : dcd mX11_undo 140 = some (.aload 0, 1, 0, 0) := by decide +kernel
theorem xX11_undo_141 : dcd mX11_undo 141 = some (.getfield 185, 3, 0, 0) := by decide +kernel
theorem xX11_undo_144 : dcd mX11_undo 144 = some (.iload 1, 1, 0, 0) := by decide +kernel
theorem xX11_undo_145 : dcd mX11_undo 145 = some (.iaload, 1, 0, 0) := by decide +kernel
theorem xX11_undo_146 : dcd mX11_undo 146 = some (.iastore, 1, 0, 0) := by decide +kernel
theorem xX11_undo_147 : dcd mX11_undo 147 = some (.aload 0, 1, 0, 0) := by decide +kernel
theorem xX11_undo_148 : dcd mX11_undo 148 = some (.getfield 43, 3, 0, 0) := by decide +kernel
theorem xX11_undo_151 : dcd mX11_undo 151 = some (.iload 1, 1, 0, 0) := by decide +kernel
theorem xX11_undo_152 : dcd mX11_undo 152 = some (.aload 0, 1, 0, 0) := by decide +kernel
theorem xX11_undo_153 : dcd mX11_undo 153 = some (.getfield 188, 3, 0, 0) := by decide +kernel
theorem xX11_undo_156 : dcd mX11_undo 156 = some (.iload 1, 1, 0, 0) := by decide +kernel
theorem xX11_undo_157 : dcd mX11_undo 157 = some (.iaload, 1, 0, 0) := by decide +kernel
theorem xX11_undo_158 : dcd mX11_undo 158 = some (.iastore, 1, 0, 0) := by decide +kernel
theorem xX11_undo_159 : dcd mX11_undo 159 = some (.aload 0, 1, 0, 0) := by decide +kernel
theorem xX11_undo_160 : dcd mX11_undo 160 = some (.getfield 46, 3, 0, 0) := by decide +kernel
theorem xX11_undo_163 : dcd mX11_undo 163 = some (.iload 1, 1, 0, 0) := by decide +kernel
theorem xX11_undo_164 : dcd mX11_undo 164 = some (.aload 0, 1, 0, 0) := by decide +kernel
theorem xX11_undo_165 : dcd mX11_undo 165 = some (.getfield 191, 3, 0, 0) := by decide +kernel
theorem xX11_undo_168 : dcd mX11_undo 168 = some (.iload 1, 1, 0, 0) := by decide +kernel
theorem xX11_undo_169 : dcd mX11_undo 169 = some (.iaload, 1, 0, 0) := by decide +kernel
theorem xX11_undo_170 : dcd mX11_undo 170 = some (.iastore, 1, 0, 0) := by decide +kernel
theorem xX11_undo_171 : dcd mX11_undo 171 = some (.aload 0, 1, 0, 0) := by decide +kernel
theorem xX11_undo_172 : dcd mX11_undo 172 = some (.getfield 49, 3, 0, 0) := by decide +kernel
theorem xX11_undo_175 : dcd mX11_undo 175 = some (.iload 1, 1, 0, 0) := by decide +kernel
theorem xX11_undo_176 : dcd mX11_undo 176 = some (.aload 0, 1, 0, 0) := by decide +kernel
theorem xX11_undo_177 : dcd mX11_undo 177 = some (.getfield 194, 3, 0, 0) := by decide +kernel
theorem xX11_undo_180 : dcd mX11_undo 180 = some (.iload 1, 1, 0, 0) := by decide +kernel
theorem xX11_undo_181 : dcd mX11_undo 181 = some (.iaload, 1, 0, 0) := by decide +kernel
theorem xX11_undo_182 : dcd mX11_undo 182 = some (.iastore, 1, 0, 0) := by decide +kernel
theorem xX11_undo_183 : dcd mX11_undo 183 = some (.aload 0, 1, 0, 0) := by decide +kernel
theorem xX11_undo_184 : dcd mX11_undo 184 = some (.getfield 52, 3, 0, 0) := by decide +kernel
theorem xX11_undo_187 : dcd mX11_undo 187 = some (.iload 1, 1, 0, 0) := by decide +kernel
theorem xX11_undo_188 : dcd mX11_undo 188 = some (.aload 0, 1, 0, 0) := by decide +kernel
theorem xX11_undo_189 : dcd mX11_undo 189 = some (.getfield 197, 3, 0, 0) := by decide +kernel
theorem xX11_undo_192 : dcd mX11_undo 192 = some (.iload 1, 1, 0, 0) := by decide +kernel
theorem xX11_undo_193 : dcd mX11_undo 193 = some (.iaload, 1, 0, 0) := by decide +kernel
theorem xX11_undo_194 : dcd mX11_undo 194 = some (.iastore, 1, 0, 0) := by decide +kernel
theorem xX11_undo_195 : dcd mX11_undo 195 = some (.aload 0, 1, 0, 0) := by decide +kernel
theorem xX11_undo_196 : dcd mX11_undo 196 = some (.getfield 55, 3, 0, 0) := by decide +kernel
theorem xX11_undo_199 : dcd mX11_undo 199 = some (.iload 1, 1, 0, 0) := by decide +kernel
theorem xX11_undo_200 : dcd mX11_undo 200 = some (.aload 0, 1, 0, 0) := by decide +kernel
theorem xX11_undo_201 : dcd mX11_undo 201 = some (.getfield 200, 3, 0, 0) := by decide +kernel
theorem xX11_undo_204 : dcd mX11_undo 204 = some (.iload 1, 1, 0, 0) := by decide +kernel
theorem xX11_undo_205 : dcd mX11_undo 205 = some (.baload, 1, 0, 0) := by decide +kernel
theorem xX11_undo_206 : dcd mX11_undo 206 = some (.bastore, 1, 0, 0) := by decide +kernel
theorem xX11_undo_207 : dcd mX11_undo 207 = some (.iinc 1 0, 3, 0, 1) := by decide +kernel
theorem xX11_undo_210 : dcd mX11_undo 210 = some (.goto 0, 3, 117, 0) := by decide +kernel
theorem xX11_undo_213 : dcd mX11_undo 213 = some (.iconst 0, 1, 0, 1) := by decide +kernel
theorem xX11_undo_214 : dcd mX11_undo 214 = some (.ireturn, 1, 0, 0) := by decide +kernel
theorem xX11_numberAt_0 : dcd mX11_numberAt 0 = some (.iconst 0, 1, 0, 0) := by decide +kernel
theorem xX11_numberAt_1 : dcd mX11_numberAt 1 = some (.istore 2, 1, 0, 0) := by decide +kernel
theorem xX11_numberAt_2 : dcd mX11_numberAt 2 = some (.iconst 0, 1, 0, 0) := by decide +kernel
theorem xX11_numberAt_3 : dcd mX11_numberAt 3 = some (.istore 3, 1, 0, 0) := by decide +kernel
theorem xX11_numberAt_4 : dcd mX11_numberAt 4 = some (.iload 3, 1, 0, 0) := by decide +kernel
theorem xX11_numberAt_5 : dcd mX11_numberAt 5 = some (.iconst 0, 1, 0, 4) := by decide +kernel
theorem xX11_numberAt_6 : dcd mX11_numberAt 6 = some (.if_icmp .ge 0, 3, 35, 0) := by decide +kernel
theorem xX11_numberAt_9 : dcd mX11_numberAt 9 = some (.iload 2, 1, 0, 0) := by decide +kernel
theorem xX11_numberAt_10 : dcd mX11_numberAt 10 = some (.iconst 0, 2, 0, 8) := by decide +kernel
theorem xX11_numberAt_12 : dcd mX11_numberAt 12 = some (.ishl, 1, 0, 0) := by decide +kernel
theorem xX11_numberAt_13 : dcd mX11_numberAt 13 = some (.aload 0, 1, 0, 0) := by decide +kernel
theorem xX11_numberAt_14 : dcd mX11_numberAt 14 = some (.getfield 7, 3, 0, 0) := by decide +kernel
theorem xX11_numberAt_17 : dcd mX11_numberAt 17 = some (.iconst 0, 1, 0, 4) := by decide +kernel
theorem xX11_numberAt_18 : dcd mX11_numberAt 18 = some (.iload 1, 1, 0, 0) := by decide +kernel
theorem xX11_numberAt_19 : dcd mX11_numberAt 19 = some (.imul, 1, 0, 0) := by decide +kernel
theorem xX11_numberAt_20 : dcd mX11_numberAt 20 = some (.iload 3, 1, 0, 0) := by decide +kernel
theorem xX11_numberAt_21 : dcd mX11_numberAt 21 = some (.iadd, 1, 0, 0) := by decide +kernel
theorem xX11_numberAt_22 : dcd mX11_numberAt 22 = some (.baload, 1, 0, 0) := by decide +kernel
theorem xX11_numberAt_23 : dcd mX11_numberAt 23 = some (.iconst 0, 3, 0, 255) := by decide +kernel
theorem xX11_numberAt_26 : dcd mX11_numberAt 26 = some (.iand, 1, 0, 0) := by decide +kernel
theorem xX11_numberAt_27 : dcd mX11_numberAt 27 = some (.ior, 1, 0, 0) := by decide +kernel
theorem xX11_numberAt_28 : dcd mX11_numberAt 28 = some (.istore 2, 1, 0, 0) := by decide +kernel
theorem xX11_numberAt_29 : dcd mX11_numberAt 29 = some (.iinc 3 0, 3, 0, 1) := by decide +kernel
theorem xX11_numberAt_32 : dcd mX11_numberAt 32 = some (.goto 0, 3, 4, 0) := by decide +kernel
theorem xX11_numberAt_35 : dcd mX11_numberAt 35 = some (.iload 2, 1, 0, 0) := by decide +kernel
theorem xX11_numberAt_36 : dcd mX11_numberAt 36 = some (.ireturn, 1, 0, 0) := by decide +kernel
theorem xX11_check_0 : dcd mX11_check 0 = some (.iload 1, 1, 0, 0) := by decide +kernel
theorem xX11_check_1 : dcd mX11_check 1 = some (.ifCond .lt 0, 3, 14, 0) := by decide +kernel
theorem xX11_check_4 : dcd mX11_check 4 = some (.iload 1, 1, 0, 0) := by decide +kernel
theorem xX11_check_5 : dcd mX11_check 5 = some (.aload 0, 1, 0, 0) := by decide +kernel
theorem xX11_check_6 : dcd mX11_check 6 = some (.getfield 237, 3, 0, 0) := by decide +kernel
theorem xX11_check_9 : dcd mX11_check 9 = some (.iconst 0, 1, 0, 4) := by decide +kernel
theorem xX11_check_10 : dcd mX11_check 10 = some (.idiv, 1, 0, 0) := by decide +kernel
theorem xX11_check_11 : dcd mX11_check 11 = some (.if_icmp .le 0, 3, 17, 0) := by decide +kernel
theorem xX11_check_14 : dcd mX11_check 14 = some (.iconst 0, 2, 0, (-2)) := by decide +kernel
theorem xX11_check_16 : dcd mX11_check 16 = some (.ireturn, 1, 0, 0) := by decide +kernel
theorem xX11_check_17 : dcd mX11_check 17 = some (.aload 0, 1, 0, 0) := by decide +kernel
theorem xX11_check_18 : dcd mX11_check 18 = some (.iconst 0, 1, 0, 0) := by decide +kernel
theorem xX11_check_19 : dcd mX11_check 19 = some (.putfield 237, 3, 0, 0) := by decide +kernel
theorem xX11_check_22 : dcd mX11_check 22 = some (.aload 0, 1, 0, 0) := by decide +kernel
theorem xX11_check_23 : dcd mX11_check 23 = some (.invokevirtual 381, 3, 0, 0) := by decide +kernel
theorem xX11_check_26 : dcd mX11_check 26 = some (.iconst 0, 1, 0, 0) := by decide +kernel
theorem xX11_check_27 : dcd mX11_check 27 = some (.istore 2, 1, 0, 0) := by decide +kernel
theorem xX11_check_28 : dcd mX11_check 28 = some (.iload 2, 1, 0, 0) := by decide +kernel
theorem xX11_check_29 : dcd mX11_check 29 = some (.aload 0, 1, 0, 0) := by decide +kernel
theorem xX11_check_30 : dcd mX11_check 30 = some (.getfield 13, 3, 0, 0) := by decide +kernel
theorem xX11_check_33 : dcd mX11_check 33 = some (.if_icmp .ge 0, 3, 65, 0) := by decide +kernel
theorem xX11_check_36 : dcd mX11_check 36 = some (.iload 2, 1, 0, 0) := by decide +kernel
theorem xX11_check_37 : dcd mX11_check 37 = some (.iload 1, 1, 0, 0) := by decide +kernel
theorem xX11_check_38 : dcd mX11_check 38 = some (.if_icmp .ne 0, 3, 43, 0) := by decide +kernel
theorem xX11_check_41 : dcd mX11_check 41 = some (.iload 1, 1, 0, 0) := by decide +kernel
theorem xX11_check_42 : dcd mX11_check 42 = some (.ireturn, 1, 0, 0) := by decide +kernel
theorem xX11_check_43 : dcd mX11_check 43 = some (.aload 0, 1, 0, 0) := by decide +kernel
theorem xX11_check_44 : dcd mX11_check 44 = some (.iload 2, 1, 0, 0) := by decide +kernel
theorem xX11_check_45 : dcd mX11_check 45 = some (.invokevirtual 537, 3, 0, 0) := by decide +kernel
theorem xX11_check_48 : dcd mX11_check 48 = some (.aload 0, 1, 0, 0) := by decide +kernel
theorem xX11_check_49 : dcd mX11_check 49 = some (.getfield 109, 3, 0, 0) := by decide +kernel
theorem xX11_check_52 : dcd mX11_check 52 = some (.iload 2, 1, 0, 0) := by decide +kernel
theorem xX11_check_53 : dcd mX11_check 53 = some (.iaload, 1, 0, 0) := by decide +kernel
theorem xX11_check_54 : dcd mX11_check 54 = some (.if_icmp .eq 0, 3, 59, 0) := by decide +kernel
theorem xX11_check_57 : dcd mX11_check 57 = some (.iload 2, 1, 0, 0) := by decide +kernel
theorem xX11_check_58 : dcd mX11_check 58 = some (.ireturn, 1, 0, 0) := by decide +kernel
theorem xX11_check_59 : dcd mX11_check 59 = some (.iinc 2 0, 3, 0, 1) := by decide +kernel
theorem xX11_check_62 : dcd mX11_check 62 = some (.goto 0, 3, 28, 0) := by decide +kernel
theorem xX11_check_65 : dcd mX11_check 65 = some (.iload 1, 1, 0, 0) := by decide +kernel
theorem xX11_check_66 : dcd mX11_check 66 = some (.aload 0, 1, 0, 0) := by decide +kernel
theorem xX11_check_67 : dcd mX11_check 67 = some (.getfield 13, 3, 0, 0) := by decide +kernel
theorem xX11_check_70 : dcd mX11_check 70 = some (.if_icmp .ne 0, 3, 77, 0) := by decide +kernel
theorem xX11_check_73 : dcd mX11_check 73 = some (.iconst 0, 1, 0, (-1)) := by decide +kernel
theorem xX11_check_74 : dcd mX11_check 74 = some (.goto 0, 3, 81, 0) := by decide +kernel
theorem xX11_check_77 : dcd mX11_check 77 = some (.aload 0, 1, 0, 0) := by decide +kernel
theorem xX11_check_78 : dcd mX11_check 78 = some (.getfield 13, 3, 0, 0) := by decide +kernel
theorem xX11_check_81 : dcd mX11_check 81 = some (.ireturn, 1, 0, 0) := by decide +kernel
theorem xX11_count_0 : dcd mX11_count 0 = some (.iload 1, 1, 0, 0) := by decide +kernel
theorem xX11_count_1 : dcd mX11_count 1 = some (.tableswitch 81 0 6 #[43, 48, 53, 58, 63, 68, 76], 43, 0, 0) := by decide +kernel
theorem xX11_count_44 : dcd mX11_count 44 = some (.aload 0, 1, 0, 0) := by decide +kernel
theorem xX11_count_45 : dcd mX11_count 45 = some (.getfield 13, 3, 0, 0) := by decide +kernel
theorem xX11_count_48 : dcd mX11_count 48 = some (.ireturn, 1, 0, 0) := by decide +kernel
theorem xX11_count_49 : dcd mX11_count 49 = some (.aload 0, 1, 0, 0) := by decide +kernel
theorem xX11_count_50 : dcd mX11_count 50 = some (.getfield 213, 3, 0, 0) := by decide +kernel
theorem xX11_count_53 : dcd mX11_count 53 = some (.ireturn, 1, 0, 0) := by decide +kernel
theorem xX11_count_54 : dcd mX11_count 54 = some (.aload 0, 1, 0, 0) := by decide +kernel
theorem xX11_count_55 : dcd mX11_count 55 = some (.getfield 351, 3, 0, 0) := by decide +kernel
theorem xX11_count_58 : dcd mX11_count 58 = some (.ireturn, 1, 0, 0) := by decide +kernel
theorem xX11_count_59 : dcd mX11_count 59 = some (.aload 0, 1, 0, 0) := by decide +kernel
theorem xX11_count_60 : dcd mX11_count 60 = some (.getfield 237, 3, 0, 0) := by decide +kernel
theorem xX11_count_63 : dcd mX11_count 63 = some (.ireturn, 1, 0, 0) := by decide +kernel
theorem xX11_count_64 : dcd mX11_count 64 = some (.aload 0, 1, 0, 0) := by decide +kernel
theorem xX11_count_65 : dcd mX11_count 65 = some (.getfield 17, 3, 0, 0) := by decide +kernel
theorem xX11_count_68 : dcd mX11_count 68 = some (.ireturn, 1, 0, 0) := by decide +kernel
theorem xX11_count_69 : dcd mX11_count 69 = some (.aload 0, 1, 0, 0) := by decide +kernel
theorem xX11_count_70 : dcd mX11_count 70 = some (.getfield 234, 3, 0, 0) := by decide +kernel
theorem xX11_count_73 : dcd mX11_count 73 = some (.iconst 0, 2, 0, 9) := by decide +kernel
theorem xX11_count_75 : dcd mX11_count 75 = some (.iadd, 1, 0, 0) := by decide +kernel
theorem xX11_count_76 : dcd mX11_count 76 = some (.ireturn, 1, 0, 0) := by decide +kernel
theorem xX11_count_77 : dcd mX11_count 77 = some (.aload 0, 1, 0, 0) := by decide +kernel
theorem xX11_count_78 : dcd mX11_count 78 = some (.invokevirtual 534, 3, 0, 0) := by decide +kernel
theorem xX11_count_81 : dcd mX11_count 81 = some (.ireturn, 1, 0, 0) := by decide +kernel
theorem xX11_count_82 : dcd mX11_count 82 = some (.iconst 0, 1, 0, (-1)) := by decide +kernel
theorem xX11_count_83 : dcd mX11_count 83 = some (.ireturn, 1, 0, 0) := by decide +kernel
