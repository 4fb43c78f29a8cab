/-! The rows of the code, one by one. -/
theorem c_167_0 : mj_code 167 0 = some (.aload_n 0, 1, 0, 0, 0) := rfl
theorem c_167_1 : mj_code 167 1 = some (.getfield 51, 4, 12, 16, 1068) := rfl
theorem c_167_4 : mj_code 167 4 = some (.iload_n 1, 5, 0, 0, 0) := rfl
theorem c_167_5 : mj_code 167 5 = some (.iaload, 6, 0, 0, 0) := rfl
theorem c_167_6 : mj_code 167 6 = some (.iconst (-1), 7, 0, 0, 0) := rfl
theorem c_167_7 : mj_code 167 7 = some (.if_icmp .eq 4, 10, 11, 0, 0) := rfl
theorem c_167_10 : mj_code 167 10 = some (.return_, 11, 0, 0, 0) := rfl
theorem c_167_11 : mj_code 167 11 = some (.aload_n 0, 12, 0, 0, 0) := rfl
theorem c_167_12 : mj_code 167 12 = some (.iload_n 1, 13, 0, 0, 0) := rfl
theorem c_167_13 : mj_code 167 13 = some (.invokevirtual 133, 16, 162, 0, 1220) := rfl
theorem c_167_16 : mj_code 167 16 = some (.istore_n 2, 17, 0, 0, 0) := rfl
theorem c_167_17 : mj_code 167 17 = some (.aload_n 0, 18, 0, 0, 0) := rfl
theorem c_167_18 : mj_code 167 18 = some (.getfield 7, 21, 12, 0, 1052) := rfl
theorem c_167_21 : mj_code 167 21 = some (.iload_n 2, 22, 0, 0, 0) := rfl
theorem c_167_22 : mj_code 167 22 = some (.invokestatic 88, 25, 140, 1, 1155) := rfl
theorem c_167_25 : mj_code 167 25 = some (.istore_n 3, 26, 0, 0, 0) := rfl
theorem c_167_26 : mj_code 167 26 = some (.iconst 0, 27, 0, 0, 0) := rfl
theorem c_167_27 : mj_code 167 27 = some (.istore 4, 29, 0, 0, 0) := rfl
theorem c_167_29 : mj_code 167 29 = some (.iload 4, 31, 0, 0, 0) := rfl
theorem c_167_31 : mj_code 167 31 = some (.iload_n 3, 32, 0, 0, 0) := rfl
theorem c_167_32 : mj_code 167 32 = some (.if_icmp .ge 17, 35, 49, 0, 0) := rfl
theorem c_167_35 : mj_code 167 35 = some (.aload_n 0, 36, 0, 0, 0) := rfl
theorem c_167_36 : mj_code 167 36 = some (.getfield 54, 39, 12, 17, 1069) := rfl
theorem c_167_39 : mj_code 167 39 = some (.iload 4, 41, 0, 0, 0) := rfl
theorem c_167_41 : mj_code 167 41 = some (.iconst 0, 42, 0, 0, 0) := rfl
theorem c_167_42 : mj_code 167 42 = some (.iastore, 43, 0, 0, 0) := rfl
theorem c_167_43 : mj_code 167 43 = some (.iinc 4 1, 46, 0, 0, 0) := rfl
theorem c_167_46 : mj_code 167 46 = some (.goto (-17), 49, 29, 0, 0) := rfl
theorem c_167_49 : mj_code 167 49 = some (.iconst 0, 50, 0, 0, 0) := rfl
theorem c_167_50 : mj_code 167 50 = some (.istore 4, 52, 0, 0, 0) := rfl
theorem c_167_52 : mj_code 167 52 = some (.iload 4, 54, 0, 0, 0) := rfl
theorem c_167_54 : mj_code 167 54 = some (.iload_n 1, 55, 0, 0, 0) := rfl
theorem c_167_55 : mj_code 167 55 = some (.if_icmp .ge 55, 58, 110, 0, 0) := rfl
theorem c_167_58 : mj_code 167 58 = some (.iconst 0, 59, 0, 0, 0) := rfl
theorem c_167_59 : mj_code 167 59 = some (.istore 5, 61, 0, 0, 0) := rfl
theorem c_167_61 : mj_code 167 61 = some (.iload_n 2, 62, 0, 0, 0) := rfl
theorem c_167_62 : mj_code 167 62 = some (.iconst 1, 63, 0, 0, 0) := rfl
theorem c_167_63 : mj_code 167 63 = some (.isub, 64, 0, 0, 0) := rfl
theorem c_167_64 : mj_code 167 64 = some (.istore 6, 66, 0, 0, 0) := rfl
theorem c_167_66 : mj_code 167 66 = some (.iload 6, 68, 0, 0, 0) := rfl
theorem c_167_68 : mj_code 167 68 = some (.ifCond .lt 28, 71, 96, 0, 0) := rfl
theorem c_167_71 : mj_code 167 71 = some (.iload 5, 73, 0, 0, 0) := rfl
theorem c_167_73 : mj_code 167 73 = some (.aload_n 0, 74, 0, 0, 0) := rfl
theorem c_167_74 : mj_code 167 74 = some (.getfield 7, 77, 12, 0, 1052) := rfl
theorem c_167_77 : mj_code 167 77 = some (.imul, 78, 0, 0, 0) := rfl
theorem c_167_78 : mj_code 167 78 = some (.aload_n 0, 79, 0, 0, 0) := rfl
theorem c_167_79 : mj_code 167 79 = some (.iload 6, 81, 0, 0, 0) := rfl
theorem c_167_81 : mj_code 167 81 = some (.iload_n 1, 82, 0, 0, 0) := rfl
theorem c_167_82 : mj_code 167 82 = some (.iload 4, 84, 0, 0, 0) := rfl
theorem c_167_84 : mj_code 167 84 = some (.invokevirtual 137, 87, 152, 0, 1224) := rfl
theorem c_167_87 : mj_code 167 87 = some (.iadd, 88, 0, 0, 0) := rfl
theorem c_167_88 : mj_code 167 88 = some (.istore 5, 90, 0, 0, 0) := rfl
theorem c_167_90 : mj_code 167 90 = some (.iinc 6 (-1), 93, 0, 0, 0) := rfl
theorem c_167_93 : mj_code 167 93 = some (.goto (-27), 96, 66, 0, 0) := rfl
theorem c_167_96 : mj_code 167 96 = some (.aload_n 0, 97, 0, 0, 0) := rfl
theorem c_167_97 : mj_code 167 97 = some (.getfield 54, 100, 12, 17, 1069) := rfl
theorem c_167_100 : mj_code 167 100 = some (.iload 5, 102, 0, 0, 0) := rfl
theorem c_167_102 : mj_code 167 102 = some (.iconst 1, 103, 0, 0, 0) := rfl
theorem c_167_103 : mj_code 167 103 = some (.iastore, 104, 0, 0, 0) := rfl
theorem c_167_104 : mj_code 167 104 = some (.iinc 4 1, 107, 0, 0, 0) := rfl
theorem c_167_107 : mj_code 167 107 = some (.goto (-55), 110, 52, 0, 0) := rfl
theorem c_167_110 : mj_code 167 110 = some (.iconst 0, 111, 0, 0, 0) := rfl
theorem c_167_111 : mj_code 167 111 = some (.istore 4, 113, 0, 0, 0) := rfl
theorem c_167_113 : mj_code 167 113 = some (.iconst (-1), 114, 0, 0, 0) := rfl
theorem c_167_114 : mj_code 167 114 = some (.istore 5, 116, 0, 0, 0) := rfl
theorem c_167_116 : mj_code 167 116 = some (.iconst 0, 117, 0, 0, 0) := rfl
theorem c_167_117 : mj_code 167 117 = some (.istore 6, 119, 0, 0, 0) := rfl
theorem c_167_119 : mj_code 167 119 = some (.iload 6, 121, 0, 0, 0) := rfl
theorem c_167_121 : mj_code 167 121 = some (.iload_n 3, 122, 0, 0, 0) := rfl
theorem c_167_122 : mj_code 167 122 = some (.if_icmp .ge 46, 125, 168, 0, 0) := rfl
theorem c_167_125 : mj_code 167 125 = some (.aload_n 0, 126, 0, 0, 0) := rfl
theorem c_167_126 : mj_code 167 126 = some (.getfield 54, 129, 12, 17, 1069) := rfl
theorem c_167_129 : mj_code 167 129 = some (.iload 6, 131, 0, 0, 0) := rfl
theorem c_167_131 : mj_code 167 131 = some (.iaload, 132, 0, 0, 0) := rfl
theorem c_167_132 : mj_code 167 132 = some (.ifCond .le 30, 135, 162, 0, 0) := rfl
theorem c_167_135 : mj_code 167 135 = some (.iload 5, 137, 0, 0, 0) := rfl
theorem c_167_137 : mj_code 167 137 = some (.iconst (-1), 138, 0, 0, 0) := rfl
theorem c_167_138 : mj_code 167 138 = some (.if_icmp .eq 20, 141, 158, 0, 0) := rfl
theorem c_167_141 : mj_code 167 141 = some (.aload_n 0, 142, 0, 0, 0) := rfl
theorem c_167_142 : mj_code 167 142 = some (.getfield 54, 145, 12, 17, 1069) := rfl
theorem c_167_145 : mj_code 167 145 = some (.iload 6, 147, 0, 0, 0) := rfl
theorem c_167_147 : mj_code 167 147 = some (.iaload, 148, 0, 0, 0) := rfl
theorem c_167_148 : mj_code 167 148 = some (.aload_n 0, 149, 0, 0, 0) := rfl
theorem c_167_149 : mj_code 167 149 = some (.getfield 54, 152, 12, 17, 1069) := rfl
theorem c_167_152 : mj_code 167 152 = some (.iload 5, 154, 0, 0, 0) := rfl
theorem c_167_154 : mj_code 167 154 = some (.iaload, 155, 0, 0, 0) := rfl
theorem c_167_155 : mj_code 167 155 = some (.if_icmp .ge 7, 158, 162, 0, 0) := rfl
theorem c_167_158 : mj_code 167 158 = some (.iload 6, 160, 0, 0, 0) := rfl
theorem c_167_160 : mj_code 167 160 = some (.istore 5, 162, 0, 0, 0) := rfl
theorem c_167_162 : mj_code 167 162 = some (.iinc 6 1, 165, 0, 0, 0) := rfl
theorem c_167_165 : mj_code 167 165 = some (.goto (-46), 168, 119, 0, 0) := rfl
theorem c_167_168 : mj_code 167 168 = some (.iload 5, 170, 0, 0, 0) := rfl
theorem c_167_170 : mj_code 167 170 = some (.iconst (-1), 171, 0, 0, 0) := rfl
theorem c_167_171 : mj_code 167 171 = some (.if_icmp .ne 19, 174, 190, 0, 0) := rfl
theorem c_167_174 : mj_code 167 174 = some (.aload_n 0, 175, 0, 0, 0) := rfl
theorem c_167_175 : mj_code 167 175 = some (.getfield 51, 178, 12, 16, 1068) := rfl
theorem c_167_178 : mj_code 167 178 = some (.iload_n 1, 179, 0, 0, 0) := rfl
theorem c_167_179 : mj_code 167 179 = some (.iload 4, 181, 0, 0, 0) := rfl
theorem c_167_181 : mj_code 167 181 = some (.iastore, 182, 0, 0, 0) := rfl
theorem c_167_182 : mj_code 167 182 = some (.aload_n 0, 183, 0, 0, 0) := rfl
theorem c_167_183 : mj_code 167 183 = some (.iload_n 1, 184, 0, 0, 0) := rfl
theorem c_167_184 : mj_code 167 184 = some (.iload 4, 186, 0, 0, 0) := rfl
theorem c_167_186 : mj_code 167 186 = some (.invokevirtual 141, 189, 166, 0, 1228) := rfl
theorem c_167_189 : mj_code 167 189 = some (.return_, 190, 0, 0, 0) := rfl
theorem c_167_190 : mj_code 167 190 = some (.iload 4, 192, 0, 0, 0) := rfl
theorem c_167_192 : mj_code 167 192 = some (.sipush 256, 195, 0, 0, 0) := rfl
theorem c_167_195 : mj_code 167 195 = some (.if_icmp .ne 12, 198, 207, 0, 0) := rfl
theorem c_167_198 : mj_code 167 198 = some (.aload_n 0, 199, 0, 0, 0) := rfl
theorem c_167_199 : mj_code 167 199 = some (.getfield 51, 202, 12, 16, 1068) := rfl
theorem c_167_202 : mj_code 167 202 = some (.iload_n 1, 203, 0, 0, 0) := rfl
theorem c_167_203 : mj_code 167 203 = some (.bipush (-8), 205, 0, 0, 0) := rfl
theorem c_167_205 : mj_code 167 205 = some (.iastore, 206, 0, 0, 0) := rfl
theorem c_167_206 : mj_code 167 206 = some (.return_, 207, 0, 0, 0) := rfl
theorem c_167_207 : mj_code 167 207 = some (.aload_n 0, 208, 0, 0, 0) := rfl
theorem c_167_208 : mj_code 167 208 = some (.getfield 45, 211, 12, 14, 1066) := rfl
theorem c_167_211 : mj_code 167 211 = some (.sipush 256, 214, 0, 0, 0) := rfl
theorem c_167_214 : mj_code 167 214 = some (.iload_n 1, 215, 0, 0, 0) := rfl
theorem c_167_215 : mj_code 167 215 = some (.imul, 216, 0, 0, 0) := rfl
theorem c_167_216 : mj_code 167 216 = some (.iload 4, 218, 0, 0, 0) := rfl
theorem c_167_218 : mj_code 167 218 = some (.iadd, 219, 0, 0, 0) := rfl
theorem c_167_219 : mj_code 167 219 = some (.iload 5, 221, 0, 0, 0) := rfl
theorem c_167_221 : mj_code 167 221 = some (.iastore, 222, 0, 0, 0) := rfl
theorem c_167_222 : mj_code 167 222 = some (.aload_n 0, 223, 0, 0, 0) := rfl
theorem c_167_223 : mj_code 167 223 = some (.getfield 48, 226, 12, 15, 1067) := rfl
theorem c_167_226 : mj_code 167 226 = some (.sipush 256, 229, 0, 0, 0) := rfl
theorem c_167_229 : mj_code 167 229 = some (.iload_n 1, 230, 0, 0, 0) := rfl
theorem c_167_230 : mj_code 167 230 = some (.imul, 231, 0, 0, 0) := rfl
theorem c_167_231 : mj_code 167 231 = some (.iload 4, 233, 0, 0, 0) := rfl
theorem c_167_233 : mj_code 167 233 = some (.iadd, 234, 0, 0, 0) := rfl
theorem c_167_234 : mj_code 167 234 = some (.aload_n 0, 235, 0, 0, 0) := rfl
theorem c_167_235 : mj_code 167 235 = some (.getfield 54, 238, 12, 17, 1069) := rfl
theorem c_167_238 : mj_code 167 238 = some (.iload 5, 240, 0, 0, 0) := rfl
theorem c_167_240 : mj_code 167 240 = some (.iaload, 241, 0, 0, 0) := rfl
theorem c_167_241 : mj_code 167 241 = some (.iconst 1, 242, 0, 0, 0) := rfl
theorem c_167_242 : mj_code 167 242 = some (.isub, 243, 0, 0, 0) := rfl
theorem c_167_243 : mj_code 167 243 = some (.iastore, 244, 0, 0, 0) := rfl
theorem c_167_244 : mj_code 167 244 = some (.iload 5, 246, 0, 0, 0) := rfl
theorem c_167_246 : mj_code 167 246 = some (.istore 6, 248, 0, 0, 0) := rfl
theorem c_167_248 : mj_code 167 248 = some (.iconst 0, 249, 0, 0, 0) := rfl
theorem c_167_249 : mj_code 167 249 = some (.istore 7, 251, 0, 0, 0) := rfl
theorem c_167_251 : mj_code 167 251 = some (.iload 7, 253, 0, 0, 0) := rfl
theorem c_167_253 : mj_code 167 253 = some (.iload_n 2, 254, 0, 0, 0) := rfl
theorem c_167_254 : mj_code 167 254 = some (.if_icmp .ge 38, 257, 292, 0, 0) := rfl
theorem c_167_257 : mj_code 167 257 = some (.aload_n 0, 258, 0, 0, 0) := rfl
theorem c_167_258 : mj_code 167 258 = some (.getfield 57, 261, 12, 18, 1070) := rfl
theorem c_167_261 : mj_code 167 261 = some (.bipush 9, 263, 0, 0, 0) := rfl
theorem c_167_263 : mj_code 167 263 = some (.iload 4, 265, 0, 0, 0) := rfl
theorem c_167_265 : mj_code 167 265 = some (.imul, 266, 0, 0, 0) := rfl
theorem c_167_266 : mj_code 167 266 = some (.iload 7, 268, 0, 0, 0) := rfl
theorem c_167_268 : mj_code 167 268 = some (.iadd, 269, 0, 0, 0) := rfl
theorem c_167_269 : mj_code 167 269 = some (.iload 6, 271, 0, 0, 0) := rfl
theorem c_167_271 : mj_code 167 271 = some (.aload_n 0, 272, 0, 0, 0) := rfl
theorem c_167_272 : mj_code 167 272 = some (.getfield 7, 275, 12, 0, 1052) := rfl
theorem c_167_275 : mj_code 167 275 = some (.irem, 276, 0, 0, 0) := rfl
theorem c_167_276 : mj_code 167 276 = some (.iastore, 277, 0, 0, 0) := rfl
theorem c_167_277 : mj_code 167 277 = some (.iload 6, 279, 0, 0, 0) := rfl
theorem c_167_279 : mj_code 167 279 = some (.aload_n 0, 280, 0, 0, 0) := rfl
theorem c_167_280 : mj_code 167 280 = some (.getfield 7, 283, 12, 0, 1052) := rfl
theorem c_167_283 : mj_code 167 283 = some (.idiv, 284, 0, 0, 0) := rfl
theorem c_167_284 : mj_code 167 284 = some (.istore 6, 286, 0, 0, 0) := rfl
theorem c_167_286 : mj_code 167 286 = some (.iinc 7 1, 289, 0, 0, 0) := rfl
theorem c_167_289 : mj_code 167 289 = some (.goto (-38), 292, 251, 0, 0) := rfl
theorem c_167_292 : mj_code 167 292 = some (.iload 4, 294, 0, 0, 0) := rfl
theorem c_167_294 : mj_code 167 294 = some (.iconst 1, 295, 0, 0, 0) := rfl
theorem c_167_295 : mj_code 167 295 = some (.iadd, 296, 0, 0, 0) := rfl
theorem c_167_296 : mj_code 167 296 = some (.iload_n 3, 297, 0, 0, 0) := rfl
theorem c_167_297 : mj_code 167 297 = some (.if_icmp .ge 11, 300, 308, 0, 0) := rfl
theorem c_167_300 : mj_code 167 300 = some (.aload_n 0, 301, 0, 0, 0) := rfl
theorem c_167_301 : mj_code 167 301 = some (.iload_n 1, 302, 0, 0, 0) := rfl
theorem c_167_302 : mj_code 167 302 = some (.iload_n 2, 303, 0, 0, 0) := rfl
theorem c_167_303 : mj_code 167 303 = some (.iload 4, 305, 0, 0, 0) := rfl
theorem c_167_305 : mj_code 167 305 = some (.invokevirtual 145, 308, 165, 0, 1236) := rfl
theorem c_167_308 : mj_code 167 308 = some (.iinc 4 1, 311, 0, 0, 0) := rfl
theorem c_167_311 : mj_code 167 311 = some (.iconst 0, 312, 0, 0, 0) := rfl
theorem c_167_312 : mj_code 167 312 = some (.istore 7, 314, 0, 0, 0) := rfl
theorem c_167_314 : mj_code 167 314 = some (.iload 7, 316, 0, 0, 0) := rfl
theorem c_167_316 : mj_code 167 316 = some (.iload 4, 318, 0, 0, 0) := rfl
theorem c_167_318 : mj_code 167 318 = some (.if_icmp .ge 28, 321, 346, 0, 0) := rfl
theorem c_167_321 : mj_code 167 321 = some (.aload_n 0, 322, 0, 0, 0) := rfl
theorem c_167_322 : mj_code 167 322 = some (.getfield 54, 325, 12, 17, 1069) := rfl
theorem c_167_325 : mj_code 167 325 = some (.aload_n 0, 326, 0, 0, 0) := rfl
theorem c_167_326 : mj_code 167 326 = some (.getfield 45, 329, 12, 14, 1066) := rfl
theorem c_167_329 : mj_code 167 329 = some (.sipush 256, 332, 0, 0, 0) := rfl
theorem c_167_332 : mj_code 167 332 = some (.iload_n 1, 333, 0, 0, 0) := rfl
theorem c_167_333 : mj_code 167 333 = some (.imul, 334, 0, 0, 0) := rfl
theorem c_167_334 : mj_code 167 334 = some (.iload 7, 336, 0, 0, 0) := rfl
theorem c_167_336 : mj_code 167 336 = some (.iadd, 337, 0, 0, 0) := rfl
theorem c_167_337 : mj_code 167 337 = some (.iaload, 338, 0, 0, 0) := rfl
theorem c_167_338 : mj_code 167 338 = some (.iconst (-1), 339, 0, 0, 0) := rfl
theorem c_167_339 : mj_code 167 339 = some (.iastore, 340, 0, 0, 0) := rfl
theorem c_167_340 : mj_code 167 340 = some (.iinc 7 1, 343, 0, 0, 0) := rfl
theorem c_167_343 : mj_code 167 343 = some (.goto (-29), 346, 314, 0, 0) := rfl
theorem c_167_346 : mj_code 167 346 = some (.goto (-233), 349, 113, 0, 0) := rfl
theorem c_168_0 : mj_code 168 0 = some (.aload_n 0, 1, 0, 0, 0) := rfl
theorem c_168_1 : mj_code 168 1 = some (.iload_n 1, 2, 0, 0, 0) := rfl
theorem c_168_2 : mj_code 168 2 = some (.invokevirtual 149, 5, 161, 0, 1212) := rfl
theorem c_168_5 : mj_code 168 5 = some (.ifCond .ne 5, 8, 10, 0, 0) := rfl
theorem c_168_8 : mj_code 168 8 = some (.iconst (-1), 9, 0, 0, 0) := rfl
theorem c_168_9 : mj_code 168 9 = some (.ireturn, 10, 0, 0, 0) := rfl
theorem c_168_10 : mj_code 168 10 = some (.aload_n 0, 11, 0, 0, 0) := rfl
theorem c_168_11 : mj_code 168 11 = some (.iload_n 1, 12, 0, 0, 0) := rfl
theorem c_168_12 : mj_code 168 12 = some (.invokevirtual 152, 15, 167, 0, 1216) := rfl
theorem c_168_15 : mj_code 168 15 = some (.aload_n 0, 16, 0, 0, 0) := rfl
theorem c_168_16 : mj_code 168 16 = some (.getfield 51, 19, 12, 16, 1068) := rfl
theorem c_168_19 : mj_code 168 19 = some (.iload_n 1, 20, 0, 0, 0) := rfl
theorem c_168_20 : mj_code 168 20 = some (.iaload, 21, 0, 0, 0) := rfl
theorem c_168_21 : mj_code 168 21 = some (.ireturn, 22, 0, 0, 0) := rfl
theorem c_169_0 : mj_code 169 0 = some (.aload_n 0, 1, 0, 0, 0) := rfl
theorem c_169_1 : mj_code 169 1 = some (.iload_n 1, 2, 0, 0, 0) := rfl
theorem c_169_2 : mj_code 169 2 = some (.invokevirtual 149, 5, 161, 0, 1212) := rfl
theorem c_169_5 : mj_code 169 5 = some (.ifCond .ne 5, 8, 10, 0, 0) := rfl
theorem c_169_8 : mj_code 169 8 = some (.iconst (-1), 9, 0, 0, 0) := rfl
theorem c_169_9 : mj_code 169 9 = some (.ireturn, 10, 0, 0, 0) := rfl
theorem c_169_10 : mj_code 169 10 = some (.aload_n 0, 11, 0, 0, 0) := rfl
theorem c_169_11 : mj_code 169 11 = some (.iload_n 1, 12, 0, 0, 0) := rfl
theorem c_169_12 : mj_code 169 12 = some (.invokevirtual 152, 15, 167, 0, 1216) := rfl
theorem c_169_15 : mj_code 169 15 = some (.iload_n 2, 16, 0, 0, 0) := rfl
theorem c_169_16 : mj_code 169 16 = some (.ifCond .lt 13, 19, 29, 0, 0) := rfl
theorem c_169_19 : mj_code 169 19 = some (.iload_n 2, 20, 0, 0, 0) := rfl
theorem c_169_20 : mj_code 169 20 = some (.aload_n 0, 21, 0, 0, 0) := rfl
theorem c_169_21 : mj_code 169 21 = some (.getfield 51, 24, 12, 16, 1068) := rfl
theorem c_169_24 : mj_code 169 24 = some (.iload_n 1, 25, 0, 0, 0) := rfl
theorem c_169_25 : mj_code 169 25 = some (.iaload, 26, 0, 0, 0) := rfl
theorem c_169_26 : mj_code 169 26 = some (.if_icmp .lt 5, 29, 31, 0, 0) := rfl
theorem c_169_29 : mj_code 169 29 = some (.iconst (-1), 30, 0, 0, 0) := rfl
theorem c_169_30 : mj_code 169 30 = some (.ireturn, 31, 0, 0, 0) := rfl
theorem c_169_31 : mj_code 169 31 = some (.iload_n 3, 32, 0, 0, 0) := rfl
theorem c_169_32 : mj_code 169 32 = some (.ifCond .ne 18, 35, 50, 0, 0) := rfl
theorem c_169_35 : mj_code 169 35 = some (.aload_n 0, 36, 0, 0, 0) := rfl
theorem c_169_36 : mj_code 169 36 = some (.getfield 45, 39, 12, 14, 1066) := rfl
theorem c_169_39 : mj_code 169 39 = some (.sipush 256, 42, 0, 0, 0) := rfl
theorem c_169_42 : mj_code 169 42 = some (.iload_n 1, 43, 0, 0, 0) := rfl
theorem c_169_43 : mj_code 169 43 = some (.imul, 44, 0, 0, 0) := rfl
theorem c_169_44 : mj_code 169 44 = some (.iload_n 2, 45, 0, 0, 0) := rfl
theorem c_169_45 : mj_code 169 45 = some (.iadd, 46, 0, 0, 0) := rfl
theorem c_169_46 : mj_code 169 46 = some (.iaload, 47, 0, 0, 0) := rfl
theorem c_169_47 : mj_code 169 47 = some (.goto 18, 50, 65, 0, 0) := rfl
theorem c_169_50 : mj_code 169 50 = some (.iload_n 3, 51, 0, 0, 0) := rfl
theorem c_169_51 : mj_code 169 51 = some (.iconst 1, 52, 0, 0, 0) := rfl
theorem c_169_52 : mj_code 169 52 = some (.if_icmp .ne 12, 55, 64, 0, 0) := rfl
theorem c_169_55 : mj_code 169 55 = some (.aload_n 0, 56, 0, 0, 0) := rfl
theorem c_169_56 : mj_code 169 56 = some (.iload_n 1, 57, 0, 0, 0) := rfl
theorem c_169_57 : mj_code 169 57 = some (.iload_n 2, 58, 0, 0, 0) := rfl
theorem c_169_58 : mj_code 169 58 = some (.invokevirtual 120, 61, 164, 0, 1232) := rfl
theorem c_169_61 : mj_code 169 61 = some (.goto 4, 64, 65, 0, 0) := rfl
theorem c_169_64 : mj_code 169 64 = some (.iconst (-1), 65, 0, 0, 0) := rfl
theorem c_169_65 : mj_code 169 65 = some (.ireturn, 66, 0, 0, 0) := rfl
theorem c_170_0 : mj_code 170 0 = some (.aload_n 0, 1, 0, 0, 0) := rfl
theorem c_170_1 : mj_code 170 1 = some (.iload_n 1, 2, 0, 0, 0) := rfl
theorem c_170_2 : mj_code 170 2 = some (.invokevirtual 149, 5, 161, 0, 1212) := rfl
theorem c_170_5 : mj_code 170 5 = some (.ifCond .eq 23, 8, 28, 0, 0) := rfl
theorem c_170_8 : mj_code 170 8 = some (.iload_n 2, 9, 0, 0, 0) := rfl
theorem c_170_9 : mj_code 170 9 = some (.ifCond .lt 19, 12, 28, 0, 0) := rfl
theorem c_170_12 : mj_code 170 12 = some (.iload_n 2, 13, 0, 0, 0) := rfl
theorem c_170_13 : mj_code 170 13 = some (.aload_n 0, 14, 0, 0, 0) := rfl
theorem c_170_14 : mj_code 170 14 = some (.getfield 7, 17, 12, 0, 1052) := rfl
theorem c_170_17 : mj_code 170 17 = some (.aload_n 0, 18, 0, 0, 0) := rfl
theorem c_170_18 : mj_code 170 18 = some (.iload_n 1, 19, 0, 0, 0) := rfl
theorem c_170_19 : mj_code 170 19 = some (.invokevirtual 133, 22, 162, 0, 1220) := rfl
theorem c_170_22 : mj_code 170 22 = some (.invokestatic 88, 25, 140, 1, 1155) := rfl
theorem c_170_25 : mj_code 170 25 = some (.if_icmp .lt 5, 28, 30, 0, 0) := rfl
theorem c_170_28 : mj_code 170 28 = some (.iconst (-1), 29, 0, 0, 0) := rfl
theorem c_170_29 : mj_code 170 29 = some (.ireturn, 30, 0, 0, 0) := rfl
theorem c_170_30 : mj_code 170 30 = some (.aload_n 0, 31, 0, 0, 0) := rfl
theorem c_170_31 : mj_code 170 31 = some (.iload_n 1, 32, 0, 0, 0) := rfl
theorem c_170_32 : mj_code 170 32 = some (.invokevirtual 152, 35, 167, 0, 1216) := rfl
theorem c_170_35 : mj_code 170 35 = some (.aload_n 0, 36, 0, 0, 0) := rfl
theorem c_170_36 : mj_code 170 36 = some (.getfield 51, 39, 12, 16, 1068) := rfl
theorem c_170_39 : mj_code 170 39 = some (.iload_n 1, 40, 0, 0, 0) := rfl
theorem c_170_40 : mj_code 170 40 = some (.iaload, 41, 0, 0, 0) := rfl
theorem c_170_41 : mj_code 170 41 = some (.bipush (-8), 43, 0, 0, 0) := rfl
theorem c_170_43 : mj_code 170 43 = some (.if_icmp .ne 6, 46, 49, 0, 0) := rfl
theorem c_170_46 : mj_code 170 46 = some (.bipush (-8), 48, 0, 0, 0) := rfl
theorem c_170_48 : mj_code 170 48 = some (.ireturn, 49, 0, 0, 0) := rfl
theorem c_170_49 : mj_code 170 49 = some (.iconst 0, 50, 0, 0, 0) := rfl
theorem c_170_50 : mj_code 170 50 = some (.istore_n 3, 51, 0, 0, 0) := rfl
theorem c_170_51 : mj_code 170 51 = some (.iload_n 3, 52, 0, 0, 0) := rfl
theorem c_170_52 : mj_code 170 52 = some (.aload_n 0, 53, 0, 0, 0) := rfl
theorem c_170_53 : mj_code 170 53 = some (.getfield 51, 56, 12, 16, 1068) := rfl
theorem c_170_56 : mj_code 170 56 = some (.iload_n 1, 57, 0, 0, 0) := rfl
theorem c_170_57 : mj_code 170 57 = some (.iaload, 58, 0, 0, 0) := rfl
theorem c_170_58 : mj_code 170 58 = some (.if_icmp .ge 32, 61, 90, 0, 0) := rfl
theorem c_170_61 : mj_code 170 61 = some (.aload_n 0, 62, 0, 0, 0) := rfl
theorem c_170_62 : mj_code 170 62 = some (.getfield 45, 65, 12, 14, 1066) := rfl
theorem c_170_65 : mj_code 170 65 = some (.sipush 256, 68, 0, 0, 0) := rfl
theorem c_170_68 : mj_code 170 68 = some (.iload_n 1, 69, 0, 0, 0) := rfl
theorem c_170_69 : mj_code 170 69 = some (.imul, 70, 0, 0, 0) := rfl
theorem c_170_70 : mj_code 170 70 = some (.iload_n 3, 71, 0, 0, 0) := rfl
theorem c_170_71 : mj_code 170 71 = some (.iadd, 72, 0, 0, 0) := rfl
theorem c_170_72 : mj_code 170 72 = some (.iaload, 73, 0, 0, 0) := rfl
theorem c_170_73 : mj_code 170 73 = some (.iload_n 2, 74, 0, 0, 0) := rfl
theorem c_170_74 : mj_code 170 74 = some (.if_icmp .ne 10, 77, 84, 0, 0) := rfl
theorem c_170_77 : mj_code 170 77 = some (.aload_n 0, 78, 0, 0, 0) := rfl
theorem c_170_78 : mj_code 170 78 = some (.iload_n 1, 79, 0, 0, 0) := rfl
theorem c_170_79 : mj_code 170 79 = some (.iload_n 3, 80, 0, 0, 0) := rfl
theorem c_170_80 : mj_code 170 80 = some (.invokevirtual 120, 83, 164, 0, 1232) := rfl
theorem c_170_83 : mj_code 170 83 = some (.ireturn, 84, 0, 0, 0) := rfl
theorem c_170_84 : mj_code 170 84 = some (.iinc 3 1, 87, 0, 0, 0) := rfl
theorem c_170_87 : mj_code 170 87 = some (.goto (-36), 90, 51, 0, 0) := rfl
theorem c_170_90 : mj_code 170 90 = some (.bipush (-7), 92, 0, 0, 0) := rfl
theorem c_170_92 : mj_code 170 92 = some (.ireturn, 93, 0, 0, 0) := rfl
theorem c_171_0 : mj_code 171 0 = some (.lload_n 1, 1, 0, 0, 0) := rfl
theorem c_171_1 : mj_code 171 1 = some (.lstore 4, 3, 0, 0, 0) := rfl
theorem c_171_3 : mj_code 171 3 = some (.iconst 0, 4, 0, 0, 0) := rfl
theorem c_171_4 : mj_code 171 4 = some (.istore 6, 6, 0, 0, 0) := rfl
theorem c_171_6 : mj_code 171 6 = some (.iload 6, 8, 0, 0, 0) := rfl
theorem c_171_8 : mj_code 171 8 = some (.iload_n 3, 9, 0, 0, 0) := rfl
theorem c_171_9 : mj_code 171 9 = some (.if_icmp .ge 35, 12, 44, 0, 0) := rfl
theorem c_171_12 : mj_code 171 12 = some (.aload_n 0, 13, 0, 0, 0) := rfl
theorem c_171_13 : mj_code 171 13 = some (.getfield 60, 16, 12, 19, 1071) := rfl
theorem c_171_16 : mj_code 171 16 = some (.iload 6, 18, 0, 0, 0) := rfl
theorem c_171_18 : mj_code 171 18 = some (.lload 4, 20, 0, 0, 0) := rfl
theorem c_171_20 : mj_code 171 20 = some (.aload_n 0, 21, 0, 0, 0) := rfl
theorem c_171_21 : mj_code 171 21 = some (.getfield 7, 24, 12, 0, 1052) := rfl
theorem c_171_24 : mj_code 171 24 = some (.i2l, 25, 0, 0, 0) := rfl
theorem c_171_25 : mj_code 171 25 = some (.lrem, 26, 0, 0, 0) := rfl
theorem c_171_26 : mj_code 171 26 = some (.l2i, 27, 0, 0, 0) := rfl
theorem c_171_27 : mj_code 171 27 = some (.iastore, 28, 0, 0, 0) := rfl
theorem c_171_28 : mj_code 171 28 = some (.lload 4, 30, 0, 0, 0) := rfl
theorem c_171_30 : mj_code 171 30 = some (.aload_n 0, 31, 0, 0, 0) := rfl
theorem c_171_31 : mj_code 171 31 = some (.getfield 7, 34, 12, 0, 1052) := rfl
theorem c_171_34 : mj_code 171 34 = some (.i2l, 35, 0, 0, 0) := rfl
theorem c_171_35 : mj_code 171 35 = some (.ldiv, 36, 0, 0, 0) := rfl
theorem c_171_36 : mj_code 171 36 = some (.lstore 4, 38, 0, 0, 0) := rfl
theorem c_171_38 : mj_code 171 38 = some (.iinc 6 1, 41, 0, 0, 0) := rfl
theorem c_171_41 : mj_code 171 41 = some (.goto (-35), 44, 6, 0, 0) := rfl
theorem c_171_44 : mj_code 171 44 = some (.return_, 45, 0, 0, 0) := rfl
theorem c_172_0 : mj_code 172 0 = some (.iconst 0, 1, 0, 0, 0) := rfl
theorem c_172_1 : mj_code 172 1 = some (.istore_n 3, 2, 0, 0, 0) := rfl
theorem c_172_2 : mj_code 172 2 = some (.iload_n 3, 3, 0, 0, 0) := rfl
theorem c_172_3 : mj_code 172 3 = some (.aload_n 0, 4, 0, 0, 0) := rfl
theorem c_172_4 : mj_code 172 4 = some (.getfield 75, 7, 12, 7, 1059) := rfl
theorem c_172_7 : mj_code 172 7 = some (.if_icmp .ge 46, 10, 53, 0, 0) := rfl
theorem c_172_10 : mj_code 172 10 = some (.iload_n 2, 11, 0, 0, 0) := rfl
theorem c_172_11 : mj_code 172 11 = some (.iload_n 3, 12, 0, 0, 0) := rfl
theorem c_172_12 : mj_code 172 12 = some (.ishr, 13, 0, 0, 0) := rfl
theorem c_172_13 : mj_code 172 13 = some (.iconst 1, 14, 0, 0, 0) := rfl
theorem c_172_14 : mj_code 172 14 = some (.iand, 15, 0, 0, 0) := rfl
theorem c_172_15 : mj_code 172 15 = some (.iconst 1, 16, 0, 0, 0) := rfl
theorem c_172_16 : mj_code 172 16 = some (.if_icmp .ne 31, 19, 47, 0, 0) := rfl
theorem c_172_19 : mj_code 172 19 = some (.aload_n 0, 20, 0, 0, 0) := rfl
theorem c_172_20 : mj_code 172 20 = some (.iload_n 1, 21, 0, 0, 0) := rfl
theorem c_172_21 : mj_code 172 21 = some (.aload_n 0, 22, 0, 0, 0) := rfl
theorem c_172_22 : mj_code 172 22 = some (.getfield 60, 25, 12, 19, 1071) := rfl
theorem c_172_25 : mj_code 172 25 = some (.iconst 0, 26, 0, 0, 0) := rfl
theorem c_172_26 : mj_code 172 26 = some (.aload_n 0, 27, 0, 0, 0) := rfl
theorem c_172_27 : mj_code 172 27 = some (.getfield 30, 30, 12, 8, 1060) := rfl
theorem c_172_30 : mj_code 172 30 = some (.iload_n 3, 31, 0, 0, 0) := rfl
theorem c_172_31 : mj_code 172 31 = some (.iaload, 32, 0, 0, 0) := rfl
theorem c_172_32 : mj_code 172 32 = some (.aload_n 0, 33, 0, 0, 0) := rfl
theorem c_172_33 : mj_code 172 33 = some (.getfield 33, 36, 12, 9, 1061) := rfl
theorem c_172_36 : mj_code 172 36 = some (.iload_n 3, 37, 0, 0, 0) := rfl
theorem c_172_37 : mj_code 172 37 = some (.laload, 38, 0, 0, 0) := rfl
theorem c_172_38 : mj_code 172 38 = some (.invokevirtual 104, 41, 154, 0, 1184) := rfl
theorem c_172_41 : mj_code 172 41 = some (.iconst (-1), 42, 0, 0, 0) := rfl
theorem c_172_42 : mj_code 172 42 = some (.if_icmp .eq 5, 45, 47, 0, 0) := rfl
theorem c_172_45 : mj_code 172 45 = some (.iconst 0, 46, 0, 0, 0) := rfl
theorem c_172_46 : mj_code 172 46 = some (.ireturn, 47, 0, 0, 0) := rfl
theorem c_172_47 : mj_code 172 47 = some (.iinc 3 1, 50, 0, 0, 0) := rfl
theorem c_172_50 : mj_code 172 50 = some (.goto (-48), 53, 2, 0, 0) := rfl
theorem c_172_53 : mj_code 172 53 = some (.iconst 1, 54, 0, 0, 0) := rfl
theorem c_172_54 : mj_code 172 54 = some (.ireturn, 55, 0, 0, 0) := rfl
theorem c_173_0 : mj_code 173 0 = some (.iload_n 1, 1, 0, 0, 0) := rfl
theorem c_173_1 : mj_code 173 1 = some (.iconst 1, 2, 0, 0, 0) := rfl
theorem c_173_2 : mj_code 173 2 = some (.aload_n 0, 3, 0, 0, 0) := rfl
theorem c_173_3 : mj_code 173 3 = some (.getfield 75, 6, 12, 7, 1059) := rfl
theorem c_173_6 : mj_code 173 6 = some (.ishl, 7, 0, 0, 0) := rfl
theorem c_173_7 : mj_code 173 7 = some (.iconst 1, 8, 0, 0, 0) := rfl
theorem c_173_8 : mj_code 173 8 = some (.isub, 9, 0, 0, 0) := rfl
theorem c_173_9 : mj_code 173 9 = some (.iand, 10, 0, 0, 0) := rfl
theorem c_173_10 : mj_code 173 10 = some (.istore_n 3, 11, 0, 0, 0) := rfl
theorem c_173_11 : mj_code 173 11 = some (.aload_n 0, 12, 0, 0, 0) := rfl
theorem c_173_12 : mj_code 173 12 = some (.getfield 63, 15, 12, 20, 1072) := rfl
theorem c_173_15 : mj_code 173 15 = some (.iload_n 3, 16, 0, 0, 0) := rfl
theorem c_173_16 : mj_code 173 16 = some (.if_icmp .ne 12, 19, 28, 0, 0) := rfl
theorem c_173_19 : mj_code 173 19 = some (.aload_n 0, 20, 0, 0, 0) := rfl
theorem c_173_20 : mj_code 173 20 = some (.getfield 156, 23, 12, 21, 1073) := rfl
theorem c_173_23 : mj_code 173 23 = some (.iload_n 2, 24, 0, 0, 0) := rfl
theorem c_173_24 : mj_code 173 24 = some (.if_icmp .ne 4, 27, 28, 0, 0) := rfl
theorem c_173_27 : mj_code 173 27 = some (.return_, 28, 0, 0, 0) := rfl
theorem c_173_28 : mj_code 173 28 = some (.aload_n 0, 29, 0, 0, 0) := rfl
theorem c_173_29 : mj_code 173 29 = some (.iload_n 3, 30, 0, 0, 0) := rfl
theorem c_173_30 : mj_code 173 30 = some (.putfield 63, 33, 12, 20, 1072) := rfl
theorem c_173_33 : mj_code 173 33 = some (.aload_n 0, 34, 0, 0, 0) := rfl
theorem c_173_34 : mj_code 173 34 = some (.iload_n 2, 35, 0, 0, 0) := rfl
theorem c_173_35 : mj_code 173 35 = some (.putfield 156, 38, 12, 21, 1073) := rfl
theorem c_173_38 : mj_code 173 38 = some (.aload_n 0, 39, 0, 0, 0) := rfl
theorem c_173_39 : mj_code 173 39 = some (.iconst 0, 40, 0, 0, 0) := rfl
theorem c_173_40 : mj_code 173 40 = some (.putfield 159, 43, 12, 22, 1074) := rfl
theorem c_173_43 : mj_code 173 43 = some (.aload_n 0, 44, 0, 0, 0) := rfl
theorem c_173_44 : mj_code 173 44 = some (.iload_n 2, 45, 0, 0, 0) := rfl
theorem c_173_45 : mj_code 173 45 = some (.invokevirtual 133, 48, 162, 0, 1220) := rfl
theorem c_173_48 : mj_code 173 48 = some (.istore 4, 50, 0, 0, 0) := rfl
theorem c_173_50 : mj_code 173 50 = some (.aload_n 0, 51, 0, 0, 0) := rfl
theorem c_173_51 : mj_code 173 51 = some (.getfield 7, 54, 12, 0, 1052) := rfl
theorem c_173_54 : mj_code 173 54 = some (.iload 4, 56, 0, 0, 0) := rfl
theorem c_173_56 : mj_code 173 56 = some (.invokestatic 88, 59, 140, 1, 1155) := rfl
theorem c_173_59 : mj_code 173 59 = some (.istore 5, 61, 0, 0, 0) := rfl
theorem c_173_61 : mj_code 173 61 = some (.iconst 0, 62, 0, 0, 0) := rfl
theorem c_173_62 : mj_code 173 62 = some (.istore 6, 64, 0, 0, 0) := rfl
theorem c_173_64 : mj_code 173 64 = some (.iload 6, 66, 0, 0, 0) := rfl
theorem c_173_66 : mj_code 173 66 = some (.iload 5, 68, 0, 0, 0) := rfl
theorem c_173_68 : mj_code 173 68 = some (.if_icmp .ge 48, 71, 116, 0, 0) := rfl
theorem c_173_71 : mj_code 173 71 = some (.aload_n 0, 72, 0, 0, 0) := rfl
theorem c_173_72 : mj_code 173 72 = some (.iload 6, 74, 0, 0, 0) := rfl
theorem c_173_74 : mj_code 173 74 = some (.i2l, 75, 0, 0, 0) := rfl
theorem c_173_75 : mj_code 173 75 = some (.iload 4, 77, 0, 0, 0) := rfl
theorem c_173_77 : mj_code 173 77 = some (.invokevirtual 162, 80, 171, 0, 1262) := rfl
theorem c_173_80 : mj_code 173 80 = some (.aload_n 0, 81, 0, 0, 0) := rfl
theorem c_173_81 : mj_code 173 81 = some (.iload_n 2, 82, 0, 0, 0) := rfl
theorem c_173_82 : mj_code 173 82 = some (.iload_n 3, 83, 0, 0, 0) := rfl
theorem c_173_83 : mj_code 173 83 = some (.invokevirtual 166, 86, 172, 0, 1266) := rfl
theorem c_173_86 : mj_code 173 86 = some (.ifCond .eq 24, 89, 110, 0, 0) := rfl
theorem c_173_89 : mj_code 173 89 = some (.aload_n 0, 90, 0, 0, 0) := rfl
theorem c_173_90 : mj_code 173 90 = some (.getfield 66, 93, 12, 23, 1075) := rfl
theorem c_173_93 : mj_code 173 93 = some (.aload_n 0, 94, 0, 0, 0) := rfl
theorem c_173_94 : mj_code 173 94 = some (.getfield 159, 97, 12, 22, 1074) := rfl
theorem c_173_97 : mj_code 173 97 = some (.iload 6, 99, 0, 0, 0) := rfl
theorem c_173_99 : mj_code 173 99 = some (.iastore, 100, 0, 0, 0) := rfl
theorem c_173_100 : mj_code 173 100 = some (.aload_n 0, 101, 0, 0, 0) := rfl
theorem c_173_101 : mj_code 173 101 = some (.dup, 102, 0, 0, 0) := rfl
theorem c_173_102 : mj_code 173 102 = some (.getfield 159, 105, 12, 22, 1074) := rfl
theorem c_173_105 : mj_code 173 105 = some (.iconst 1, 106, 0, 0, 0) := rfl
theorem c_173_106 : mj_code 173 106 = some (.iadd, 107, 0, 0, 0) := rfl
theorem c_173_107 : mj_code 173 107 = some (.putfield 159, 110, 12, 22, 1074) := rfl
theorem c_173_110 : mj_code 173 110 = some (.iinc 6 1, 113, 0, 0, 0) := rfl
theorem c_173_113 : mj_code 173 113 = some (.goto (-49), 116, 64, 0, 0) := rfl
theorem c_173_116 : mj_code 173 116 = some (.return_, 117, 0, 0, 0) := rfl
theorem c_174_0 : mj_code 174 0 = some (.aload_n 0, 1, 0, 0, 0) := rfl
theorem c_174_1 : mj_code 174 1 = some (.iload_n 2, 2, 0, 0, 0) := rfl
theorem c_174_2 : mj_code 174 2 = some (.invokevirtual 149, 5, 161, 0, 1212) := rfl
theorem c_174_5 : mj_code 174 5 = some (.ifCond .ne 5, 8, 10, 0, 0) := rfl
theorem c_174_8 : mj_code 174 8 = some (.iconst (-1), 9, 0, 0, 0) := rfl
theorem c_174_9 : mj_code 174 9 = some (.ireturn, 10, 0, 0, 0) := rfl
theorem c_174_10 : mj_code 174 10 = some (.aload_n 0, 11, 0, 0, 0) := rfl
theorem c_174_11 : mj_code 174 11 = some (.iload_n 1, 12, 0, 0, 0) := rfl
theorem c_174_12 : mj_code 174 12 = some (.iload_n 2, 13, 0, 0, 0) := rfl
theorem c_174_13 : mj_code 174 13 = some (.invokevirtual 170, 16, 173, 0, 1258) := rfl
theorem c_174_16 : mj_code 174 16 = some (.aload_n 0, 17, 0, 0, 0) := rfl
theorem c_174_17 : mj_code 174 17 = some (.getfield 159, 20, 12, 22, 1074) := rfl
theorem c_174_20 : mj_code 174 20 = some (.ireturn, 21, 0, 0, 0) := rfl
theorem c_175_0 : mj_code 175 0 = some (.aload_n 0, 1, 0, 0, 0) := rfl
theorem c_175_1 : mj_code 175 1 = some (.iload_n 2, 2, 0, 0, 0) := rfl
theorem c_175_2 : mj_code 175 2 = some (.invokevirtual 149, 5, 161, 0, 1212) := rfl
theorem c_175_5 : mj_code 175 5 = some (.ifCond .ne 5, 8, 10, 0, 0) := rfl
theorem c_175_8 : mj_code 175 8 = some (.iconst (-1), 9, 0, 0, 0) := rfl
theorem c_175_9 : mj_code 175 9 = some (.ireturn, 10, 0, 0, 0) := rfl
theorem c_175_10 : mj_code 175 10 = some (.aload_n 0, 11, 0, 0, 0) := rfl
theorem c_175_11 : mj_code 175 11 = some (.iload_n 1, 12, 0, 0, 0) := rfl
theorem c_175_12 : mj_code 175 12 = some (.iload_n 2, 13, 0, 0, 0) := rfl
theorem c_175_13 : mj_code 175 13 = some (.invokevirtual 170, 16, 173, 0, 1258) := rfl
theorem c_175_16 : mj_code 175 16 = some (.iload_n 3, 17, 0, 0, 0) := rfl
theorem c_175_17 : mj_code 175 17 = some (.ifCond .lt 11, 20, 28, 0, 0) := rfl
theorem c_175_20 : mj_code 175 20 = some (.iload_n 3, 21, 0, 0, 0) := rfl
theorem c_175_21 : mj_code 175 21 = some (.aload_n 0, 22, 0, 0, 0) := rfl
theorem c_175_22 : mj_code 175 22 = some (.getfield 159, 25, 12, 22, 1074) := rfl
theorem c_175_25 : mj_code 175 25 = some (.if_icmp .lt 7, 28, 32, 0, 0) := rfl
theorem c_175_28 : mj_code 175 28 = some (.iconst (-1), 29, 0, 0, 0) := rfl
theorem c_175_29 : mj_code 175 29 = some (.goto 9, 32, 38, 0, 0) := rfl
theorem c_175_32 : mj_code 175 32 = some (.aload_n 0, 33, 0, 0, 0) := rfl
theorem c_175_33 : mj_code 175 33 = some (.getfield 66, 36, 12, 23, 1075) := rfl
theorem c_175_36 : mj_code 175 36 = some (.iload_n 3, 37, 0, 0, 0) := rfl
theorem c_175_37 : mj_code 175 37 = some (.iaload, 38, 0, 0, 0) := rfl
theorem c_175_38 : mj_code 175 38 = some (.ireturn, 39, 0, 0, 0) := rfl
theorem c_176_0 : mj_code 176 0 = some (.iconst 0, 1, 0, 0, 0) := rfl
theorem c_176_1 : mj_code 176 1 = some (.istore_n 1, 2, 0, 0, 0) := rfl
theorem c_176_2 : mj_code 176 2 = some (.iconst 1, 3, 0, 0, 0) := rfl
theorem c_176_3 : mj_code 176 3 = some (.istore_n 2, 4, 0, 0, 0) := rfl
theorem c_176_4 : mj_code 176 4 = some (.iload_n 2, 5, 0, 0, 0) := rfl
theorem c_176_5 : mj_code 176 5 = some (.iconst 1, 6, 0, 0, 0) := rfl
theorem c_176_6 : mj_code 176 6 = some (.aload_n 0, 7, 0, 0, 0) := rfl
theorem c_176_7 : mj_code 176 7 = some (.getfield 7, 10, 12, 0, 1052) := rfl
theorem c_176_10 : mj_code 176 10 = some (.ishl, 11, 0, 0, 0) := rfl
theorem c_176_11 : mj_code 176 11 = some (.if_icmp .ge 27, 14, 38, 0, 0) := rfl
theorem c_176_14 : mj_code 176 14 = some (.iload_n 1, 15, 0, 0, 0) := rfl
theorem c_176_15 : mj_code 176 15 = some (.aload_n 0, 16, 0, 0, 0) := rfl
theorem c_176_16 : mj_code 176 16 = some (.iconst 1, 17, 0, 0, 0) := rfl
theorem c_176_17 : mj_code 176 17 = some (.iload_n 2, 18, 0, 0, 0) := rfl
theorem c_176_18 : mj_code 176 18 = some (.i2l, 19, 0, 0, 0) := rfl
theorem c_176_19 : mj_code 176 19 = some (.invokevirtual 116, 22, 156, 0, 1204) := rfl
theorem c_176_22 : mj_code 176 22 = some (.ifCond .eq 7, 25, 29, 0, 0) := rfl
theorem c_176_25 : mj_code 176 25 = some (.iconst 1, 26, 0, 0, 0) := rfl
theorem c_176_26 : mj_code 176 26 = some (.goto 4, 29, 30, 0, 0) := rfl
theorem c_176_29 : mj_code 176 29 = some (.iconst 0, 30, 0, 0, 0) := rfl
theorem c_176_30 : mj_code 176 30 = some (.iadd, 31, 0, 0, 0) := rfl
theorem c_176_31 : mj_code 176 31 = some (.istore_n 1, 32, 0, 0, 0) := rfl
theorem c_176_32 : mj_code 176 32 = some (.iinc 2 1, 35, 0, 0, 0) := rfl
theorem c_176_35 : mj_code 176 35 = some (.goto (-31), 38, 4, 0, 0) := rfl
theorem c_176_38 : mj_code 176 38 = some (.iload_n 1, 39, 0, 0, 0) := rfl
theorem c_176_39 : mj_code 176 39 = some (.ireturn, 40, 0, 0, 0) := rfl
theorem c_177_0 : mj_code 177 0 = some (.iload_n 1, 1, 0, 0, 0) := rfl
theorem c_177_1 : mj_code 177 1 = some (.iconst 1, 2, 0, 0, 0) := rfl
theorem c_177_2 : mj_code 177 2 = some (.if_icmp .lt 13, 5, 15, 0, 0) := rfl
theorem c_177_5 : mj_code 177 5 = some (.iload_n 1, 6, 0, 0, 0) := rfl
theorem c_177_6 : mj_code 177 6 = some (.iconst 1, 7, 0, 0, 0) := rfl
theorem c_177_7 : mj_code 177 7 = some (.aload_n 0, 8, 0, 0, 0) := rfl
theorem c_177_8 : mj_code 177 8 = some (.getfield 7, 11, 12, 0, 1052) := rfl
theorem c_177_11 : mj_code 177 11 = some (.ishl, 12, 0, 0, 0) := rfl
theorem c_177_12 : mj_code 177 12 = some (.if_icmp .lt 7, 15, 19, 0, 0) := rfl
theorem c_177_15 : mj_code 177 15 = some (.iconst (-1), 16, 0, 0, 0) := rfl
theorem c_177_16 : mj_code 177 16 = some (.goto 11, 19, 27, 0, 0) := rfl
theorem c_177_19 : mj_code 177 19 = some (.aload_n 0, 20, 0, 0, 0) := rfl
theorem c_177_20 : mj_code 177 20 = some (.iconst 1, 21, 0, 0, 0) := rfl
theorem c_177_21 : mj_code 177 21 = some (.iload_n 1, 22, 0, 0, 0) := rfl
theorem c_177_22 : mj_code 177 22 = some (.i2l, 23, 0, 0, 0) := rfl
theorem c_177_23 : mj_code 177 23 = some (.invokevirtual 112, 26, 157, 0, 1196) := rfl
theorem c_177_26 : mj_code 177 26 = some (.l2i, 27, 0, 0, 0) := rfl
theorem c_177_27 : mj_code 177 27 = some (.ireturn, 28, 0, 0, 0) := rfl
theorem c_178_0 : mj_code 178 0 = some (.iconst 0, 1, 0, 0, 0) := rfl
theorem c_178_1 : mj_code 178 1 = some (.istore_n 2, 2, 0, 0, 0) := rfl
theorem c_178_2 : mj_code 178 2 = some (.iload_n 2, 3, 0, 0, 0) := rfl
theorem c_178_3 : mj_code 178 3 = some (.aload_n 0, 4, 0, 0, 0) := rfl
theorem c_178_4 : mj_code 178 4 = some (.getfield 7, 7, 12, 0, 1052) := rfl
theorem c_178_7 : mj_code 178 7 = some (.if_icmp .ge 35, 10, 42, 0, 0) := rfl
theorem c_178_10 : mj_code 178 10 = some (.iload_n 1, 11, 0, 0, 0) := rfl
theorem c_178_11 : mj_code 178 11 = some (.iconst 2, 12, 0, 0, 0) := rfl
theorem c_178_12 : mj_code 178 12 = some (.iload_n 2, 13, 0, 0, 0) := rfl
theorem c_178_13 : mj_code 178 13 = some (.imul, 14, 0, 0, 0) := rfl
theorem c_178_14 : mj_code 178 14 = some (.ishr, 15, 0, 0, 0) := rfl
theorem c_178_15 : mj_code 178 15 = some (.iconst 3, 16, 0, 0, 0) := rfl
theorem c_178_16 : mj_code 178 16 = some (.iand, 17, 0, 0, 0) := rfl
theorem c_178_17 : mj_code 178 17 = some (.istore_n 3, 18, 0, 0, 0) := rfl
theorem c_178_18 : mj_code 178 18 = some (.iload_n 3, 19, 0, 0, 0) := rfl
theorem c_178_19 : mj_code 178 19 = some (.iload_n 2, 20, 0, 0, 0) := rfl
theorem c_178_20 : mj_code 178 20 = some (.if_icmp .gt 14, 23, 34, 0, 0) := rfl
theorem c_178_23 : mj_code 178 23 = some (.iload_n 1, 24, 0, 0, 0) := rfl
theorem c_178_24 : mj_code 178 24 = some (.iconst 2, 25, 0, 0, 0) := rfl
theorem c_178_25 : mj_code 178 25 = some (.iload_n 3, 26, 0, 0, 0) := rfl
theorem c_178_26 : mj_code 178 26 = some (.imul, 27, 0, 0, 0) := rfl
theorem c_178_27 : mj_code 178 27 = some (.ishr, 28, 0, 0, 0) := rfl
theorem c_178_28 : mj_code 178 28 = some (.iconst 3, 29, 0, 0, 0) := rfl
theorem c_178_29 : mj_code 178 29 = some (.iand, 30, 0, 0, 0) := rfl
theorem c_178_30 : mj_code 178 30 = some (.iload_n 3, 31, 0, 0, 0) := rfl
theorem c_178_31 : mj_code 178 31 = some (.if_icmp .eq 5, 34, 36, 0, 0) := rfl
theorem c_178_34 : mj_code 178 34 = some (.iconst 0, 35, 0, 0, 0) := rfl
theorem c_178_35 : mj_code 178 35 = some (.ireturn, 36, 0, 0, 0) := rfl
theorem c_178_36 : mj_code 178 36 = some (.iinc 2 1, 39, 0, 0, 0) := rfl
theorem c_178_39 : mj_code 178 39 = some (.goto (-37), 42, 2, 0, 0) := rfl
theorem c_178_42 : mj_code 178 42 = some (.iconst 1, 43, 0, 0, 0) := rfl
theorem c_178_43 : mj_code 178 43 = some (.ireturn, 44, 0, 0, 0) := rfl
theorem c_179_0 : mj_code 179 0 = some (.aload_n 0, 1, 0, 0, 0) := rfl
theorem c_179_1 : mj_code 179 1 = some (.iload_n 1, 2, 0, 0, 0) := rfl
theorem c_179_2 : mj_code 179 2 = some (.invokevirtual 173, 5, 178, 0, 1290) := rfl
theorem c_179_5 : mj_code 179 5 = some (.ifCond .ne 5, 8, 10, 0, 0) := rfl
theorem c_179_8 : mj_code 179 8 = some (.iconst 0, 9, 0, 0, 0) := rfl
theorem c_179_9 : mj_code 179 9 = some (.ireturn, 10, 0, 0, 0) := rfl
theorem c_179_10 : mj_code 179 10 = some (.lconst 0, 11, 0, 0, 0) := rfl
theorem c_179_11 : mj_code 179 11 = some (.lstore_n 2, 12, 0, 0, 0) := rfl
theorem c_179_12 : mj_code 179 12 = some (.iconst 0, 13, 0, 0, 0) := rfl
theorem c_179_13 : mj_code 179 13 = some (.istore 4, 15, 0, 0, 0) := rfl
theorem c_179_15 : mj_code 179 15 = some (.iload 4, 17, 0, 0, 0) := rfl
theorem c_179_17 : mj_code 179 17 = some (.aload_n 0, 18, 0, 0, 0) := rfl
theorem c_179_18 : mj_code 179 18 = some (.getfield 7, 21, 12, 0, 1052) := rfl
theorem c_179_21 : mj_code 179 21 = some (.if_icmp .ge 65, 24, 86, 0, 0) := rfl
theorem c_179_24 : mj_code 179 24 = some (.iconst 0, 25, 0, 0, 0) := rfl
theorem c_179_25 : mj_code 179 25 = some (.istore 5, 27, 0, 0, 0) := rfl
theorem c_179_27 : mj_code 179 27 = some (.iload 5, 29, 0, 0, 0) := rfl
theorem c_179_29 : mj_code 179 29 = some (.aload_n 0, 30, 0, 0, 0) := rfl
theorem c_179_30 : mj_code 179 30 = some (.getfield 7, 33, 12, 0, 1052) := rfl
theorem c_179_33 : mj_code 179 33 = some (.if_icmp .ge 47, 36, 80, 0, 0) := rfl
theorem c_179_36 : mj_code 179 36 = some (.lload_n 2, 37, 0, 0, 0) := rfl
theorem c_179_37 : mj_code 179 37 = some (.iload_n 1, 38, 0, 0, 0) := rfl
theorem c_179_38 : mj_code 179 38 = some (.iconst 2, 39, 0, 0, 0) := rfl
theorem c_179_39 : mj_code 179 39 = some (.iload 4, 41, 0, 0, 0) := rfl
theorem c_179_41 : mj_code 179 41 = some (.imul, 42, 0, 0, 0) := rfl
theorem c_179_42 : mj_code 179 42 = some (.ishr, 43, 0, 0, 0) := rfl
theorem c_179_43 : mj_code 179 43 = some (.iconst 3, 44, 0, 0, 0) := rfl
theorem c_179_44 : mj_code 179 44 = some (.iand, 45, 0, 0, 0) := rfl
theorem c_179_45 : mj_code 179 45 = some (.iload_n 1, 46, 0, 0, 0) := rfl
theorem c_179_46 : mj_code 179 46 = some (.iconst 2, 47, 0, 0, 0) := rfl
theorem c_179_47 : mj_code 179 47 = some (.iload 5, 49, 0, 0, 0) := rfl
theorem c_179_49 : mj_code 179 49 = some (.imul, 50, 0, 0, 0) := rfl
theorem c_179_50 : mj_code 179 50 = some (.ishr, 51, 0, 0, 0) := rfl
theorem c_179_51 : mj_code 179 51 = some (.iconst 3, 52, 0, 0, 0) := rfl
theorem c_179_52 : mj_code 179 52 = some (.iand, 53, 0, 0, 0) := rfl
theorem c_179_53 : mj_code 179 53 = some (.if_icmp .ne 18, 56, 71, 0, 0) := rfl
theorem c_179_56 : mj_code 179 56 = some (.lconst 1, 57, 0, 0, 0) := rfl
theorem c_179_57 : mj_code 179 57 = some (.iload 4, 59, 0, 0, 0) := rfl
theorem c_179_59 : mj_code 179 59 = some (.aload_n 0, 60, 0, 0, 0) := rfl
theorem c_179_60 : mj_code 179 60 = some (.getfield 7, 63, 12, 0, 1052) := rfl
theorem c_179_63 : mj_code 179 63 = some (.imul, 64, 0, 0, 0) := rfl
theorem c_179_64 : mj_code 179 64 = some (.iload 5, 66, 0, 0, 0) := rfl
theorem c_179_66 : mj_code 179 66 = some (.iadd, 67, 0, 0, 0) := rfl
theorem c_179_67 : mj_code 179 67 = some (.lshl, 68, 0, 0, 0) := rfl
theorem c_179_68 : mj_code 179 68 = some (.goto 4, 71, 72, 0, 0) := rfl
theorem c_179_71 : mj_code 179 71 = some (.lconst 0, 72, 0, 0, 0) := rfl
theorem c_179_72 : mj_code 179 72 = some (.lor, 73, 0, 0, 0) := rfl
theorem c_179_73 : mj_code 179 73 = some (.lstore_n 2, 74, 0, 0, 0) := rfl
theorem c_179_74 : mj_code 179 74 = some (.iinc 5 1, 77, 0, 0, 0) := rfl
theorem c_179_77 : mj_code 179 77 = some (.goto (-50), 80, 27, 0, 0) := rfl
theorem c_179_80 : mj_code 179 80 = some (.iinc 4 1, 83, 0, 0, 0) := rfl
theorem c_179_83 : mj_code 179 83 = some (.goto (-68), 86, 15, 0, 0) := rfl
theorem c_179_86 : mj_code 179 86 = some (.aload_n 0, 87, 0, 0, 0) := rfl
theorem c_179_87 : mj_code 179 87 = some (.iconst 2, 88, 0, 0, 0) := rfl
theorem c_179_88 : mj_code 179 88 = some (.lload_n 2, 89, 0, 0, 0) := rfl
theorem c_179_89 : mj_code 179 89 = some (.invokevirtual 116, 92, 156, 0, 1204) := rfl
theorem c_179_92 : mj_code 179 92 = some (.ireturn, 93, 0, 0, 0) := rfl
theorem c_180_0 : mj_code 180 0 = some (.iconst 0, 1, 0, 0, 0) := rfl
theorem c_180_1 : mj_code 180 1 = some (.istore_n 1, 2, 0, 0, 0) := rfl
theorem c_180_2 : mj_code 180 2 = some (.iconst 0, 3, 0, 0, 0) := rfl
theorem c_180_3 : mj_code 180 3 = some (.istore_n 2, 4, 0, 0, 0) := rfl
theorem c_180_4 : mj_code 180 4 = some (.iload_n 2, 5, 0, 0, 0) := rfl
theorem c_180_5 : mj_code 180 5 = some (.iconst 1, 6, 0, 0, 0) := rfl
theorem c_180_6 : mj_code 180 6 = some (.iconst 2, 7, 0, 0, 0) := rfl
theorem c_180_7 : mj_code 180 7 = some (.aload_n 0, 8, 0, 0, 0) := rfl
theorem c_180_8 : mj_code 180 8 = some (.getfield 7, 11, 12, 0, 1052) := rfl
theorem c_180_11 : mj_code 180 11 = some (.imul, 12, 0, 0, 0) := rfl
theorem c_180_12 : mj_code 180 12 = some (.ishl, 13, 0, 0, 0) := rfl
theorem c_180_13 : mj_code 180 13 = some (.if_icmp .ge 25, 16, 38, 0, 0) := rfl
theorem c_180_16 : mj_code 180 16 = some (.iload_n 1, 17, 0, 0, 0) := rfl
theorem c_180_17 : mj_code 180 17 = some (.aload_n 0, 18, 0, 0, 0) := rfl
theorem c_180_18 : mj_code 180 18 = some (.iload_n 2, 19, 0, 0, 0) := rfl
theorem c_180_19 : mj_code 180 19 = some (.invokevirtual 176, 22, 179, 0, 1286) := rfl
theorem c_180_22 : mj_code 180 22 = some (.ifCond .eq 7, 25, 29, 0, 0) := rfl
theorem c_180_25 : mj_code 180 25 = some (.iconst 1, 26, 0, 0, 0) := rfl
theorem c_180_26 : mj_code 180 26 = some (.goto 4, 29, 30, 0, 0) := rfl
theorem c_180_29 : mj_code 180 29 = some (.iconst 0, 30, 0, 0, 0) := rfl
theorem c_180_30 : mj_code 180 30 = some (.iadd, 31, 0, 0, 0) := rfl
theorem c_180_31 : mj_code 180 31 = some (.istore_n 1, 32, 0, 0, 0) := rfl
theorem c_180_32 : mj_code 180 32 = some (.iinc 2 1, 35, 0, 0, 0) := rfl
theorem c_180_35 : mj_code 180 35 = some (.goto (-31), 38, 4, 0, 0) := rfl
theorem c_180_38 : mj_code 180 38 = some (.iload_n 1, 39, 0, 0, 0) := rfl
theorem c_180_39 : mj_code 180 39 = some (.ireturn, 40, 0, 0, 0) := rfl
theorem c_181_0 : mj_code 181 0 = some (.iload_n 1, 1, 0, 0, 0) := rfl
theorem c_181_1 : mj_code 181 1 = some (.istore_n 2, 2, 0, 0, 0) := rfl
theorem c_181_2 : mj_code 181 2 = some (.iconst 0, 3, 0, 0, 0) := rfl
theorem c_181_3 : mj_code 181 3 = some (.istore_n 3, 4, 0, 0, 0) := rfl
theorem c_181_4 : mj_code 181 4 = some (.iload_n 3, 5, 0, 0, 0) := rfl
theorem c_181_5 : mj_code 181 5 = some (.iconst 1, 6, 0, 0, 0) := rfl
theorem c_181_6 : mj_code 181 6 = some (.iconst 2, 7, 0, 0, 0) := rfl
theorem c_181_7 : mj_code 181 7 = some (.aload_n 0, 8, 0, 0, 0) := rfl
theorem c_181_8 : mj_code 181 8 = some (.getfield 7, 11, 12, 0, 1052) := rfl
theorem c_181_11 : mj_code 181 11 = some (.imul, 12, 0, 0, 0) := rfl
theorem c_181_12 : mj_code 181 12 = some (.ishl, 13, 0, 0, 0) := rfl
theorem c_181_13 : mj_code 181 13 = some (.if_icmp .ge 30, 16, 43, 0, 0) := rfl
theorem c_181_16 : mj_code 181 16 = some (.iload_n 2, 17, 0, 0, 0) := rfl
theorem c_181_17 : mj_code 181 17 = some (.ifCond .lt 26, 20, 43, 0, 0) := rfl
theorem c_181_20 : mj_code 181 20 = some (.aload_n 0, 21, 0, 0, 0) := rfl
theorem c_181_21 : mj_code 181 21 = some (.iload_n 3, 22, 0, 0, 0) := rfl
theorem c_181_22 : mj_code 181 22 = some (.invokevirtual 176, 25, 179, 0, 1286) := rfl
theorem c_181_25 : mj_code 181 25 = some (.ifCond .eq 12, 28, 37, 0, 0) := rfl
theorem c_181_28 : mj_code 181 28 = some (.iload_n 2, 29, 0, 0, 0) := rfl
theorem c_181_29 : mj_code 181 29 = some (.ifCond .ne 5, 32, 34, 0, 0) := rfl
theorem c_181_32 : mj_code 181 32 = some (.iload_n 3, 33, 0, 0, 0) := rfl
theorem c_181_33 : mj_code 181 33 = some (.ireturn, 34, 0, 0, 0) := rfl
theorem c_181_34 : mj_code 181 34 = some (.iinc 2 (-1), 37, 0, 0, 0) := rfl
theorem c_181_37 : mj_code 181 37 = some (.iinc 3 1, 40, 0, 0, 0) := rfl
theorem c_181_40 : mj_code 181 40 = some (.goto (-36), 43, 4, 0, 0) := rfl
theorem c_181_43 : mj_code 181 43 = some (.iconst (-1), 44, 0, 0, 0) := rfl
theorem c_181_44 : mj_code 181 44 = some (.ireturn, 45, 0, 0, 0) := rfl
theorem c_182_0 : mj_code 182 0 = some (.iconst 1, 1, 0, 0, 0) := rfl
theorem c_182_1 : mj_code 182 1 = some (.aload_n 0, 2, 0, 0, 0) := rfl
theorem c_182_2 : mj_code 182 2 = some (.getfield 24, 5, 12, 5, 1057) := rfl
theorem c_182_5 : mj_code 182 5 = some (.iload_n 1, 6, 0, 0, 0) := rfl
theorem c_182_6 : mj_code 182 6 = some (.iaload, 7, 0, 0, 0) := rfl
theorem c_182_7 : mj_code 182 7 = some (.ishl, 8, 0, 0, 0) := rfl
theorem c_182_8 : mj_code 182 8 = some (.istore_n 2, 9, 0, 0, 0) := rfl
theorem c_182_9 : mj_code 182 9 = some (.iconst 0, 10, 0, 0, 0) := rfl
theorem c_182_10 : mj_code 182 10 = some (.istore_n 3, 11, 0, 0, 0) := rfl
theorem c_182_11 : mj_code 182 11 = some (.iload_n 3, 12, 0, 0, 0) := rfl
theorem c_182_12 : mj_code 182 12 = some (.iload_n 2, 13, 0, 0, 0) := rfl
theorem c_182_13 : mj_code 182 13 = some (.if_icmp .ge 60, 16, 73, 0, 0) := rfl
theorem c_182_16 : mj_code 182 16 = some (.iconst 0, 17, 0, 0, 0) := rfl
theorem c_182_17 : mj_code 182 17 = some (.istore 4, 19, 0, 0, 0) := rfl
theorem c_182_19 : mj_code 182 19 = some (.iload 4, 21, 0, 0, 0) := rfl
theorem c_182_21 : mj_code 182 21 = some (.iload_n 2, 22, 0, 0, 0) := rfl
theorem c_182_22 : mj_code 182 22 = some (.if_icmp .ge 45, 25, 67, 0, 0) := rfl
theorem c_182_25 : mj_code 182 25 = some (.iload_n 3, 26, 0, 0, 0) := rfl
theorem c_182_26 : mj_code 182 26 = some (.iload 4, 28, 0, 0, 0) := rfl
theorem c_182_28 : mj_code 182 28 = some (.iand, 29, 0, 0, 0) := rfl
theorem c_182_29 : mj_code 182 29 = some (.iload_n 3, 30, 0, 0, 0) := rfl
theorem c_182_30 : mj_code 182 30 = some (.if_icmp .ne 31, 33, 61, 0, 0) := rfl
theorem c_182_33 : mj_code 182 33 = some (.aload_n 0, 34, 0, 0, 0) := rfl
theorem c_182_34 : mj_code 182 34 = some (.getfield 27, 37, 12, 6, 1058) := rfl
theorem c_182_37 : mj_code 182 37 = some (.bipush 27, 39, 0, 0, 0) := rfl
theorem c_182_39 : mj_code 182 39 = some (.iload_n 1, 40, 0, 0, 0) := rfl
theorem c_182_40 : mj_code 182 40 = some (.imul, 41, 0, 0, 0) := rfl
theorem c_182_41 : mj_code 182 41 = some (.iload_n 3, 42, 0, 0, 0) := rfl
theorem c_182_42 : mj_code 182 42 = some (.iadd, 43, 0, 0, 0) := rfl
theorem c_182_43 : mj_code 182 43 = some (.iaload, 44, 0, 0, 0) := rfl
theorem c_182_44 : mj_code 182 44 = some (.aload_n 0, 45, 0, 0, 0) := rfl
theorem c_182_45 : mj_code 182 45 = some (.getfield 27, 48, 12, 6, 1058) := rfl
theorem c_182_48 : mj_code 182 48 = some (.bipush 27, 50, 0, 0, 0) := rfl
theorem c_182_50 : mj_code 182 50 = some (.iload_n 1, 51, 0, 0, 0) := rfl
theorem c_182_51 : mj_code 182 51 = some (.imul, 52, 0, 0, 0) := rfl
theorem c_182_52 : mj_code 182 52 = some (.iload 4, 54, 0, 0, 0) := rfl
theorem c_182_54 : mj_code 182 54 = some (.iadd, 55, 0, 0, 0) := rfl
theorem c_182_55 : mj_code 182 55 = some (.iaload, 56, 0, 0, 0) := rfl
theorem c_182_56 : mj_code 182 56 = some (.if_icmp .le 5, 59, 61, 0, 0) := rfl
theorem c_182_59 : mj_code 182 59 = some (.iconst 0, 60, 0, 0, 0) := rfl
theorem c_182_60 : mj_code 182 60 = some (.ireturn, 61, 0, 0, 0) := rfl
theorem c_182_61 : mj_code 182 61 = some (.iinc 4 1, 64, 0, 0, 0) := rfl
theorem c_182_64 : mj_code 182 64 = some (.goto (-45), 67, 19, 0, 0) := rfl
theorem c_182_67 : mj_code 182 67 = some (.iinc 3 1, 70, 0, 0, 0) := rfl
theorem c_182_70 : mj_code 182 70 = some (.goto (-59), 73, 11, 0, 0) := rfl
theorem c_182_73 : mj_code 182 73 = some (.iconst 1, 74, 0, 0, 0) := rfl
theorem c_182_74 : mj_code 182 74 = some (.ireturn, 75, 0, 0, 0) := rfl
theorem c_183_0 : mj_code 183 0 = some (.iconst 1, 1, 0, 0, 0) := rfl
theorem c_183_1 : mj_code 183 1 = some (.aload_n 0, 2, 0, 0, 0) := rfl
theorem c_183_2 : mj_code 183 2 = some (.getfield 24, 5, 12, 5, 1057) := rfl
theorem c_183_5 : mj_code 183 5 = some (.iload_n 1, 6, 0, 0, 0) := rfl
theorem c_183_6 : mj_code 183 6 = some (.iaload, 7, 0, 0, 0) := rfl
theorem c_183_7 : mj_code 183 7 = some (.ishl, 8, 0, 0, 0) := rfl
theorem c_183_8 : mj_code 183 8 = some (.istore_n 2, 9, 0, 0, 0) := rfl
theorem c_183_9 : mj_code 183 9 = some (.iconst 0, 10, 0, 0, 0) := rfl
theorem c_183_10 : mj_code 183 10 = some (.istore_n 3, 11, 0, 0, 0) := rfl
theorem c_183_11 : mj_code 183 11 = some (.iload_n 3, 12, 0, 0, 0) := rfl
theorem c_183_12 : mj_code 183 12 = some (.iload_n 2, 13, 0, 0, 0) := rfl
theorem c_183_13 : mj_code 183 13 = some (.if_icmp .ge 40, 16, 53, 0, 0) := rfl
theorem c_183_16 : mj_code 183 16 = some (.aload_n 0, 17, 0, 0, 0) := rfl
theorem c_183_17 : mj_code 183 17 = some (.getfield 27, 20, 12, 6, 1058) := rfl
theorem c_183_20 : mj_code 183 20 = some (.bipush 27, 22, 0, 0, 0) := rfl
theorem c_183_22 : mj_code 183 22 = some (.iload_n 1, 23, 0, 0, 0) := rfl
theorem c_183_23 : mj_code 183 23 = some (.imul, 24, 0, 0, 0) := rfl
theorem c_183_24 : mj_code 183 24 = some (.iload_n 3, 25, 0, 0, 0) := rfl
theorem c_183_25 : mj_code 183 25 = some (.iadd, 26, 0, 0, 0) := rfl
theorem c_183_26 : mj_code 183 26 = some (.iaload, 27, 0, 0, 0) := rfl
theorem c_183_27 : mj_code 183 27 = some (.aload_n 0, 28, 0, 0, 0) := rfl
theorem c_183_28 : mj_code 183 28 = some (.getfield 27, 31, 12, 6, 1058) := rfl
theorem c_183_31 : mj_code 183 31 = some (.bipush 27, 33, 0, 0, 0) := rfl
theorem c_183_33 : mj_code 183 33 = some (.iload_n 1, 34, 0, 0, 0) := rfl
theorem c_183_34 : mj_code 183 34 = some (.imul, 35, 0, 0, 0) := rfl
theorem c_183_35 : mj_code 183 35 = some (.iload_n 2, 36, 0, 0, 0) := rfl
theorem c_183_36 : mj_code 183 36 = some (.iadd, 37, 0, 0, 0) := rfl
theorem c_183_37 : mj_code 183 37 = some (.iconst 1, 38, 0, 0, 0) := rfl
theorem c_183_38 : mj_code 183 38 = some (.isub, 39, 0, 0, 0) := rfl
theorem c_183_39 : mj_code 183 39 = some (.iload_n 3, 40, 0, 0, 0) := rfl
theorem c_183_40 : mj_code 183 40 = some (.isub, 41, 0, 0, 0) := rfl
theorem c_183_41 : mj_code 183 41 = some (.iaload, 42, 0, 0, 0) := rfl
theorem c_183_42 : mj_code 183 42 = some (.if_icmp .ne 5, 45, 47, 0, 0) := rfl
theorem c_183_45 : mj_code 183 45 = some (.iconst 0, 46, 0, 0, 0) := rfl
theorem c_183_46 : mj_code 183 46 = some (.ireturn, 47, 0, 0, 0) := rfl
theorem c_183_47 : mj_code 183 47 = some (.iinc 3 1, 50, 0, 0, 0) := rfl
theorem c_183_50 : mj_code 183 50 = some (.goto (-39), 53, 11, 0, 0) := rfl
theorem c_183_53 : mj_code 183 53 = some (.iconst 1, 54, 0, 0, 0) := rfl
theorem c_183_54 : mj_code 183 54 = some (.ireturn, 55, 0, 0, 0) := rfl
theorem c_184_0 : mj_code 184 0 = some (.iconst 1, 1, 0, 0, 0) := rfl
theorem c_184_1 : mj_code 184 1 = some (.aload_n 0, 2, 0, 0, 0) := rfl
theorem c_184_2 : mj_code 184 2 = some (.getfield 24, 5, 12, 5, 1057) := rfl
theorem c_184_5 : mj_code 184 5 = some (.iload_n 1, 6, 0, 0, 0) := rfl
theorem c_184_6 : mj_code 184 6 = some (.iaload, 7, 0, 0, 0) := rfl
theorem c_184_7 : mj_code 184 7 = some (.ishl, 8, 0, 0, 0) := rfl
theorem c_184_8 : mj_code 184 8 = some (.istore_n 2, 9, 0, 0, 0) := rfl
theorem c_184_9 : mj_code 184 9 = some (.iconst 0, 10, 0, 0, 0) := rfl
theorem c_184_10 : mj_code 184 10 = some (.istore_n 3, 11, 0, 0, 0) := rfl
theorem c_184_11 : mj_code 184 11 = some (.iload_n 3, 12, 0, 0, 0) := rfl
theorem c_184_12 : mj_code 184 12 = some (.iload_n 2, 13, 0, 0, 0) := rfl
theorem c_184_13 : mj_code 184 13 = some (.if_icmp .ge 111, 16, 124, 0, 0) := rfl
theorem c_184_16 : mj_code 184 16 = some (.iconst 0, 17, 0, 0, 0) := rfl
theorem c_184_17 : mj_code 184 17 = some (.istore 4, 19, 0, 0, 0) := rfl
theorem c_184_19 : mj_code 184 19 = some (.iload 4, 21, 0, 0, 0) := rfl
theorem c_184_21 : mj_code 184 21 = some (.iconst 2, 22, 0, 0, 0) := rfl
theorem c_184_22 : mj_code 184 22 = some (.if_icmp .ge 96, 25, 118, 0, 0) := rfl
theorem c_184_25 : mj_code 184 25 = some (.iconst 1, 26, 0, 0, 0) := rfl
theorem c_184_26 : mj_code 184 26 = some (.istore 5, 28, 0, 0, 0) := rfl
theorem c_184_28 : mj_code 184 28 = some (.iconst 0, 29, 0, 0, 0) := rfl
theorem c_184_29 : mj_code 184 29 = some (.istore 6, 31, 0, 0, 0) := rfl
theorem c_184_31 : mj_code 184 31 = some (.iload 6, 33, 0, 0, 0) := rfl
theorem c_184_33 : mj_code 184 33 = some (.iload_n 2, 34, 0, 0, 0) := rfl
theorem c_184_34 : mj_code 184 34 = some (.if_icmp .ge 71, 37, 105, 0, 0) := rfl
theorem c_184_37 : mj_code 184 37 = some (.iload 4, 39, 0, 0, 0) := rfl
theorem c_184_39 : mj_code 184 39 = some (.istore 7, 41, 0, 0, 0) := rfl
theorem c_184_41 : mj_code 184 41 = some (.iload 6, 43, 0, 0, 0) := rfl
theorem c_184_43 : mj_code 184 43 = some (.iload_n 3, 44, 0, 0, 0) := rfl
theorem c_184_44 : mj_code 184 44 = some (.iand, 45, 0, 0, 0) := rfl
theorem c_184_45 : mj_code 184 45 = some (.istore 8, 47, 0, 0, 0) := rfl
theorem c_184_47 : mj_code 184 47 = some (.iload 8, 49, 0, 0, 0) := rfl
theorem c_184_49 : mj_code 184 49 = some (.ifCond .le 21, 52, 70, 0, 0) := rfl
theorem c_184_52 : mj_code 184 52 = some (.iload 7, 54, 0, 0, 0) := rfl
theorem c_184_54 : mj_code 184 54 = some (.iload 8, 56, 0, 0, 0) := rfl
theorem c_184_56 : mj_code 184 56 = some (.iconst 1, 57, 0, 0, 0) := rfl
theorem c_184_57 : mj_code 184 57 = some (.iand, 58, 0, 0, 0) := rfl
theorem c_184_58 : mj_code 184 58 = some (.ixor, 59, 0, 0, 0) := rfl
theorem c_184_59 : mj_code 184 59 = some (.istore 7, 61, 0, 0, 0) := rfl
theorem c_184_61 : mj_code 184 61 = some (.iload 8, 63, 0, 0, 0) := rfl
theorem c_184_63 : mj_code 184 63 = some (.iconst 1, 64, 0, 0, 0) := rfl
theorem c_184_64 : mj_code 184 64 = some (.ishr, 65, 0, 0, 0) := rfl
theorem c_184_65 : mj_code 184 65 = some (.istore 8, 67, 0, 0, 0) := rfl
theorem c_184_67 : mj_code 184 67 = some (.goto (-20), 70, 47, 0, 0) := rfl
theorem c_184_70 : mj_code 184 70 = some (.iload 5, 72, 0, 0, 0) := rfl
theorem c_184_72 : mj_code 184 72 = some (.ifCond .eq 24, 75, 96, 0, 0) := rfl
theorem c_184_75 : mj_code 184 75 = some (.iload 7, 77, 0, 0, 0) := rfl
theorem c_184_77 : mj_code 184 77 = some (.aload_n 0, 78, 0, 0, 0) := rfl
theorem c_184_78 : mj_code 184 78 = some (.getfield 27, 81, 12, 6, 1058) := rfl
theorem c_184_81 : mj_code 184 81 = some (.bipush 27, 83, 0, 0, 0) := rfl
theorem c_184_83 : mj_code 184 83 = some (.iload_n 1, 84, 0, 0, 0) := rfl
theorem c_184_84 : mj_code 184 84 = some (.imul, 85, 0, 0, 0) := rfl
theorem c_184_85 : mj_code 184 85 = some (.iload 6, 87, 0, 0, 0) := rfl
theorem c_184_87 : mj_code 184 87 = some (.iadd, 88, 0, 0, 0) := rfl
theorem c_184_88 : mj_code 184 88 = some (.iaload, 89, 0, 0, 0) := rfl
theorem c_184_89 : mj_code 184 89 = some (.if_icmp .ne 7, 92, 96, 0, 0) := rfl
theorem c_184_92 : mj_code 184 92 = some (.iconst 1, 93, 0, 0, 0) := rfl
theorem c_184_93 : mj_code 184 93 = some (.goto 4, 96, 97, 0, 0) := rfl
theorem c_184_96 : mj_code 184 96 = some (.iconst 0, 97, 0, 0, 0) := rfl
theorem c_184_97 : mj_code 184 97 = some (.istore 5, 99, 0, 0, 0) := rfl
theorem c_184_99 : mj_code 184 99 = some (.iinc 6 1, 102, 0, 0, 0) := rfl
theorem c_184_102 : mj_code 184 102 = some (.goto (-71), 105, 31, 0, 0) := rfl
theorem c_184_105 : mj_code 184 105 = some (.iload 5, 107, 0, 0, 0) := rfl
theorem c_184_107 : mj_code 184 107 = some (.ifCond .eq 5, 110, 112, 0, 0) := rfl
theorem c_184_110 : mj_code 184 110 = some (.iconst 1, 111, 0, 0, 0) := rfl
theorem c_184_111 : mj_code 184 111 = some (.ireturn, 112, 0, 0, 0) := rfl
theorem c_184_112 : mj_code 184 112 = some (.iinc 4 1, 115, 0, 0, 0) := rfl
theorem c_184_115 : mj_code 184 115 = some (.goto (-96), 118, 19, 0, 0) := rfl
theorem c_184_118 : mj_code 184 118 = some (.iinc 3 1, 121, 0, 0, 0) := rfl
theorem c_184_121 : mj_code 184 121 = some (.goto (-110), 124, 11, 0, 0) := rfl
theorem c_184_124 : mj_code 184 124 = some (.iconst 0, 125, 0, 0, 0) := rfl
theorem c_184_125 : mj_code 184 125 = some (.ireturn, 126, 0, 0, 0) := rfl
theorem c_185_0 : mj_code 185 0 = some (.iload_n 1, 1, 0, 0, 0) := rfl
theorem c_185_1 : mj_code 185 1 = some (.ifCond .lt 19, 4, 20, 0, 0) := rfl
theorem c_185_4 : mj_code 185 4 = some (.iload_n 1, 5, 0, 0, 0) := rfl
theorem c_185_5 : mj_code 185 5 = some (.aload_n 0, 6, 0, 0, 0) := rfl
theorem c_185_6 : mj_code 185 6 = some (.getfield 72, 9, 12, 4, 1056) := rfl
theorem c_185_9 : mj_code 185 9 = some (.if_icmp .ge 11, 12, 20, 0, 0) := rfl
theorem c_185_12 : mj_code 185 12 = some (.aload_n 0, 13, 0, 0, 0) := rfl
theorem c_185_13 : mj_code 185 13 = some (.getfield 7, 16, 12, 0, 1052) := rfl
theorem c_185_16 : mj_code 185 16 = some (.iconst 3, 17, 0, 0, 0) := rfl
theorem c_185_17 : mj_code 185 17 = some (.if_icmp .ne 5, 20, 22, 0, 0) := rfl
theorem c_185_20 : mj_code 185 20 = some (.iconst (-1), 21, 0, 0, 0) := rfl
theorem c_185_21 : mj_code 185 21 = some (.ireturn, 22, 0, 0, 0) := rfl
theorem c_185_22 : mj_code 185 22 = some (.iconst 1, 23, 0, 0, 0) := rfl
theorem c_185_23 : mj_code 185 23 = some (.aload_n 0, 24, 0, 0, 0) := rfl
theorem c_185_24 : mj_code 185 24 = some (.getfield 24, 27, 12, 5, 1057) := rfl
theorem c_185_27 : mj_code 185 27 = some (.iload_n 1, 28, 0, 0, 0) := rfl
theorem c_185_28 : mj_code 185 28 = some (.iaload, 29, 0, 0, 0) := rfl
theorem c_185_29 : mj_code 185 29 = some (.ishl, 30, 0, 0, 0) := rfl
theorem c_185_30 : mj_code 185 30 = some (.istore_n 2, 31, 0, 0, 0) := rfl
theorem c_185_31 : mj_code 185 31 = some (.aload_n 0, 32, 0, 0, 0) := rfl
theorem c_185_32 : mj_code 185 32 = some (.getfield 27, 35, 12, 6, 1058) := rfl
theorem c_185_35 : mj_code 185 35 = some (.bipush 27, 37, 0, 0, 0) := rfl
theorem c_185_37 : mj_code 185 37 = some (.iload_n 1, 38, 0, 0, 0) := rfl
theorem c_185_38 : mj_code 185 38 = some (.imul, 39, 0, 0, 0) := rfl
theorem c_185_39 : mj_code 185 39 = some (.iaload, 40, 0, 0, 0) := rfl
theorem c_185_40 : mj_code 185 40 = some (.ifCond .ne 7, 43, 47, 0, 0) := rfl
theorem c_185_43 : mj_code 185 43 = some (.iconst 1, 44, 0, 0, 0) := rfl
theorem c_185_44 : mj_code 185 44 = some (.goto 4, 47, 48, 0, 0) := rfl
theorem c_185_47 : mj_code 185 47 = some (.iconst 0, 48, 0, 0, 0) := rfl
theorem c_185_48 : mj_code 185 48 = some (.istore_n 3, 49, 0, 0, 0) := rfl
theorem c_185_49 : mj_code 185 49 = some (.iload_n 3, 50, 0, 0, 0) := rfl
theorem c_185_50 : mj_code 185 50 = some (.aload_n 0, 51, 0, 0, 0) := rfl
theorem c_185_51 : mj_code 185 51 = some (.getfield 27, 54, 12, 6, 1058) := rfl
theorem c_185_54 : mj_code 185 54 = some (.bipush 27, 56, 0, 0, 0) := rfl
theorem c_185_56 : mj_code 185 56 = some (.iload_n 1, 57, 0, 0, 0) := rfl
theorem c_185_57 : mj_code 185 57 = some (.imul, 58, 0, 0, 0) := rfl
theorem c_185_58 : mj_code 185 58 = some (.iload_n 2, 59, 0, 0, 0) := rfl
theorem c_185_59 : mj_code 185 59 = some (.iadd, 60, 0, 0, 0) := rfl
theorem c_185_60 : mj_code 185 60 = some (.iconst 1, 61, 0, 0, 0) := rfl
theorem c_185_61 : mj_code 185 61 = some (.isub, 62, 0, 0, 0) := rfl
theorem c_185_62 : mj_code 185 62 = some (.iaload, 63, 0, 0, 0) := rfl
theorem c_185_63 : mj_code 185 63 = some (.iconst 1, 64, 0, 0, 0) := rfl
theorem c_185_64 : mj_code 185 64 = some (.if_icmp .ne 7, 67, 71, 0, 0) := rfl
theorem c_185_67 : mj_code 185 67 = some (.iconst 2, 68, 0, 0, 0) := rfl
theorem c_185_68 : mj_code 185 68 = some (.goto 4, 71, 72, 0, 0) := rfl
theorem c_185_71 : mj_code 185 71 = some (.iconst 0, 72, 0, 0, 0) := rfl
theorem c_185_72 : mj_code 185 72 = some (.ior, 73, 0, 0, 0) := rfl
theorem c_185_73 : mj_code 185 73 = some (.istore_n 3, 74, 0, 0, 0) := rfl
theorem c_185_74 : mj_code 185 74 = some (.iload_n 3, 75, 0, 0, 0) := rfl
theorem c_185_75 : mj_code 185 75 = some (.aload_n 0, 76, 0, 0, 0) := rfl
theorem c_185_76 : mj_code 185 76 = some (.iload_n 1, 77, 0, 0, 0) := rfl
theorem c_185_77 : mj_code 185 77 = some (.invokevirtual 179, 80, 182, 0, 1302) := rfl
theorem c_185_80 : mj_code 185 80 = some (.ifCond .eq 7, 83, 87, 0, 0) := rfl
theorem c_185_83 : mj_code 185 83 = some (.iconst 4, 84, 0, 0, 0) := rfl
theorem c_185_84 : mj_code 185 84 = some (.goto 4, 87, 88, 0, 0) := rfl
theorem c_185_87 : mj_code 185 87 = some (.iconst 0, 88, 0, 0, 0) := rfl
theorem c_185_88 : mj_code 185 88 = some (.ior, 89, 0, 0, 0) := rfl
theorem c_185_89 : mj_code 185 89 = some (.istore_n 3, 90, 0, 0, 0) := rfl
theorem c_185_90 : mj_code 185 90 = some (.iload_n 3, 91, 0, 0, 0) := rfl
theorem c_185_91 : mj_code 185 91 = some (.aload_n 0, 92, 0, 0, 0) := rfl
theorem c_185_92 : mj_code 185 92 = some (.iload_n 1, 93, 0, 0, 0) := rfl
theorem c_185_93 : mj_code 185 93 = some (.invokevirtual 182, 96, 183, 0, 1306) := rfl
theorem c_185_96 : mj_code 185 96 = some (.ifCond .eq 8, 99, 104, 0, 0) := rfl
theorem c_185_99 : mj_code 185 99 = some (.bipush 8, 101, 0, 0, 0) := rfl
theorem c_185_101 : mj_code 185 101 = some (.goto 4, 104, 105, 0, 0) := rfl
theorem c_185_104 : mj_code 185 104 = some (.iconst 0, 105, 0, 0, 0) := rfl
theorem c_185_105 : mj_code 185 105 = some (.ior, 106, 0, 0, 0) := rfl
theorem c_185_106 : mj_code 185 106 = some (.istore_n 3, 107, 0, 0, 0) := rfl
theorem c_185_107 : mj_code 185 107 = some (.iload_n 3, 108, 0, 0, 0) := rfl
theorem c_185_108 : mj_code 185 108 = some (.aload_n 0, 109, 0, 0, 0) := rfl
theorem c_185_109 : mj_code 185 109 = some (.iload_n 1, 110, 0, 0, 0) := rfl
theorem c_185_110 : mj_code 185 110 = some (.invokevirtual 185, 113, 184, 0, 1310) := rfl
theorem c_185_113 : mj_code 185 113 = some (.ifCond .eq 8, 116, 121, 0, 0) := rfl
theorem c_185_116 : mj_code 185 116 = some (.bipush 16, 118, 0, 0, 0) := rfl
theorem c_185_118 : mj_code 185 118 = some (.goto 4, 121, 122, 0, 0) := rfl
theorem c_185_121 : mj_code 185 121 = some (.iconst 0, 122, 0, 0, 0) := rfl
theorem c_185_122 : mj_code 185 122 = some (.ior, 123, 0, 0, 0) := rfl
theorem c_185_123 : mj_code 185 123 = some (.ireturn, 124, 0, 0, 0) := rfl
theorem c_186_0 : mj_code 186 0 = some (.aload_n 0, 1, 0, 0, 0) := rfl
theorem c_186_1 : mj_code 186 1 = some (.getfield 7, 4, 12, 0, 1052) := rfl
theorem c_186_4 : mj_code 186 4 = some (.iconst 3, 5, 0, 0, 0) := rfl
theorem c_186_5 : mj_code 186 5 = some (.if_icmp .ne 5, 8, 10, 0, 0) := rfl
theorem c_186_8 : mj_code 186 8 = some (.iconst (-1), 9, 0, 0, 0) := rfl
theorem c_186_9 : mj_code 186 9 = some (.ireturn, 10, 0, 0, 0) := rfl
theorem c_186_10 : mj_code 186 10 = some (.bipush 31, 12, 0, 0, 0) := rfl
theorem c_186_12 : mj_code 186 12 = some (.istore_n 1, 13, 0, 0, 0) := rfl
theorem c_186_13 : mj_code 186 13 = some (.iconst 0, 14, 0, 0, 0) := rfl
theorem c_186_14 : mj_code 186 14 = some (.istore_n 2, 15, 0, 0, 0) := rfl
theorem c_186_15 : mj_code 186 15 = some (.iload_n 2, 16, 0, 0, 0) := rfl
theorem c_186_16 : mj_code 186 16 = some (.aload_n 0, 17, 0, 0, 0) := rfl
theorem c_186_17 : mj_code 186 17 = some (.getfield 72, 20, 12, 4, 1056) := rfl
theorem c_186_20 : mj_code 186 20 = some (.if_icmp .ge 17, 23, 37, 0, 0) := rfl
theorem c_186_23 : mj_code 186 23 = some (.iload_n 1, 24, 0, 0, 0) := rfl
theorem c_186_24 : mj_code 186 24 = some (.aload_n 0, 25, 0, 0, 0) := rfl
theorem c_186_25 : mj_code 186 25 = some (.iload_n 2, 26, 0, 0, 0) := rfl
theorem c_186_26 : mj_code 186 26 = some (.invokevirtual 188, 29, 185, 0, 1318) := rfl
theorem c_186_29 : mj_code 186 29 = some (.iand, 30, 0, 0, 0) := rfl
theorem c_186_30 : mj_code 186 30 = some (.istore_n 1, 31, 0, 0, 0) := rfl
theorem c_186_31 : mj_code 186 31 = some (.iinc 2 1, 34, 0, 0, 0) := rfl
theorem c_186_34 : mj_code 186 34 = some (.goto (-19), 37, 15, 0, 0) := rfl
theorem c_186_37 : mj_code 186 37 = some (.iload_n 1, 38, 0, 0, 0) := rfl
theorem c_186_38 : mj_code 186 38 = some (.ifCond .ne 7, 41, 45, 0, 0) := rfl
theorem c_186_41 : mj_code 186 41 = some (.iconst 1, 42, 0, 0, 0) := rfl
theorem c_186_42 : mj_code 186 42 = some (.goto 4, 45, 46, 0, 0) := rfl
theorem c_186_45 : mj_code 186 45 = some (.iconst 0, 46, 0, 0, 0) := rfl
theorem c_186_46 : mj_code 186 46 = some (.ireturn, 47, 0, 0, 0) := rfl
theorem c_187_0 : mj_code 187 0 = some (.iload_n 1, 1, 0, 0, 0) := rfl
theorem c_187_1 : mj_code 187 1 = some (.iconst 1, 2, 0, 0, 0) := rfl
theorem c_187_2 : mj_code 187 2 = some (.if_icmp .lt 9, 5, 11, 0, 0) := rfl
theorem c_187_5 : mj_code 187 5 = some (.iload_n 1, 6, 0, 0, 0) := rfl
theorem c_187_6 : mj_code 187 6 = some (.bipush 8, 8, 0, 0, 0) := rfl
theorem c_187_8 : mj_code 187 8 = some (.if_icmp .le 5, 11, 13, 0, 0) := rfl
theorem c_187_11 : mj_code 187 11 = some (.iconst 0, 12, 0, 0, 0) := rfl
theorem c_187_12 : mj_code 187 12 = some (.ireturn, 13, 0, 0, 0) := rfl
theorem c_187_13 : mj_code 187 13 = some (.aload_n 0, 14, 0, 0, 0) := rfl
theorem c_187_14 : mj_code 187 14 = some (.iload_n 1, 15, 0, 0, 0) := rfl
theorem c_187_15 : mj_code 187 15 = some (.putfield 36, 18, 12, 10, 1062) := rfl
theorem c_187_18 : mj_code 187 18 = some (.aload_n 0, 19, 0, 0, 0) := rfl
theorem c_187_19 : mj_code 187 19 = some (.iconst 0, 20, 0, 0, 0) := rfl
theorem c_187_20 : mj_code 187 20 = some (.putfield 78, 23, 12, 11, 1063) := rfl
theorem c_187_23 : mj_code 187 23 = some (.iconst 1, 24, 0, 0, 0) := rfl
theorem c_187_24 : mj_code 187 24 = some (.ireturn, 25, 0, 0, 0) := rfl
theorem c_188_0 : mj_code 188 0 = some (.iload_n 1, 1, 0, 0, 0) := rfl
theorem c_188_1 : mj_code 188 1 = some (.ifCond .lt 15, 4, 16, 0, 0) := rfl
theorem c_188_4 : mj_code 188 4 = some (.iload_n 1, 5, 0, 0, 0) := rfl
theorem c_188_5 : mj_code 188 5 = some (.aload_n 0, 6, 0, 0, 0) := rfl
theorem c_188_6 : mj_code 188 6 = some (.getfield 36, 9, 12, 10, 1062) := rfl
theorem c_188_9 : mj_code 188 9 = some (.if_icmp .ge 7, 12, 16, 0, 0) := rfl
theorem c_188_12 : mj_code 188 12 = some (.iconst 1, 13, 0, 0, 0) := rfl
theorem c_188_13 : mj_code 188 13 = some (.goto 4, 16, 17, 0, 0) := rfl
theorem c_188_16 : mj_code 188 16 = some (.iconst 0, 17, 0, 0, 0) := rfl
theorem c_188_17 : mj_code 188 17 = some (.ireturn, 18, 0, 0, 0) := rfl
theorem c_189_0 : mj_code 189 0 = some (.iload_n 1, 1, 0, 0, 0) := rfl
theorem c_189_1 : mj_code 189 1 = some (.ifCond .lt 56, 4, 57, 0, 0) := rfl
theorem c_189_4 : mj_code 189 4 = some (.iload_n 1, 5, 0, 0, 0) := rfl
theorem c_189_5 : mj_code 189 5 = some (.aload_n 0, 6, 0, 0, 0) := rfl
theorem c_189_6 : mj_code 189 6 = some (.getfield 75, 9, 12, 7, 1059) := rfl
theorem c_189_9 : mj_code 189 9 = some (.if_icmp .ge 48, 12, 57, 0, 0) := rfl
theorem c_189_12 : mj_code 189 12 = some (.aload_n 0, 13, 0, 0, 0) := rfl
theorem c_189_13 : mj_code 189 13 = some (.iload_n 2, 14, 0, 0, 0) := rfl
theorem c_189_14 : mj_code 189 14 = some (.invokevirtual 191, 17, 188, 0, 1327) := rfl
theorem c_189_17 : mj_code 189 17 = some (.ifCond .eq 40, 20, 57, 0, 0) := rfl
theorem c_189_20 : mj_code 189 20 = some (.aload_n 0, 21, 0, 0, 0) := rfl
theorem c_189_21 : mj_code 189 21 = some (.getfield 30, 24, 12, 8, 1060) := rfl
theorem c_189_24 : mj_code 189 24 = some (.iload_n 1, 25, 0, 0, 0) := rfl
theorem c_189_25 : mj_code 189 25 = some (.iaload, 26, 0, 0, 0) := rfl
theorem c_189_26 : mj_code 189 26 = some (.iconst 1, 27, 0, 0, 0) := rfl
theorem c_189_27 : mj_code 189 27 = some (.if_icmp .le 11, 30, 38, 0, 0) := rfl
theorem c_189_30 : mj_code 189 30 = some (.aload_n 0, 31, 0, 0, 0) := rfl
theorem c_189_31 : mj_code 189 31 = some (.iload_n 3, 32, 0, 0, 0) := rfl
theorem c_189_32 : mj_code 189 32 = some (.invokevirtual 191, 35, 188, 0, 1327) := rfl
theorem c_189_35 : mj_code 189 35 = some (.ifCond .eq 22, 38, 57, 0, 0) := rfl
theorem c_189_38 : mj_code 189 38 = some (.aload_n 0, 39, 0, 0, 0) := rfl
theorem c_189_39 : mj_code 189 39 = some (.getfield 30, 42, 12, 8, 1060) := rfl
theorem c_189_42 : mj_code 189 42 = some (.iload_n 1, 43, 0, 0, 0) := rfl
theorem c_189_43 : mj_code 189 43 = some (.iaload, 44, 0, 0, 0) := rfl
theorem c_189_44 : mj_code 189 44 = some (.iconst 2, 45, 0, 0, 0) := rfl
theorem c_189_45 : mj_code 189 45 = some (.if_icmp .le 15, 48, 60, 0, 0) := rfl
theorem c_189_48 : mj_code 189 48 = some (.aload_n 0, 49, 0, 0, 0) := rfl
theorem c_189_49 : mj_code 189 49 = some (.iload 4, 51, 0, 0, 0) := rfl
theorem c_189_51 : mj_code 189 51 = some (.invokevirtual 191, 54, 188, 0, 1327) := rfl
theorem c_189_54 : mj_code 189 54 = some (.ifCond .ne 6, 57, 60, 0, 0) := rfl
theorem c_189_57 : mj_code 189 57 = some (.bipush (-2), 59, 0, 0, 0) := rfl
theorem c_189_59 : mj_code 189 59 = some (.ireturn, 60, 0, 0, 0) := rfl
theorem c_189_60 : mj_code 189 60 = some (.aload_n 0, 61, 0, 0, 0) := rfl
theorem c_189_61 : mj_code 189 61 = some (.getfield 78, 64, 12, 11, 1063) := rfl
theorem c_189_64 : mj_code 189 64 = some (.bipush 30, 66, 0, 0, 0) := rfl
theorem c_189_66 : mj_code 189 66 = some (.if_icmp .ne 6, 69, 72, 0, 0) := rfl
theorem c_189_69 : mj_code 189 69 = some (.bipush (-8), 71, 0, 0, 0) := rfl
theorem c_189_71 : mj_code 189 71 = some (.ireturn, 72, 0, 0, 0) := rfl
theorem c_189_72 : mj_code 189 72 = some (.aload_n 0, 73, 0, 0, 0) := rfl
theorem c_189_73 : mj_code 189 73 = some (.getfield 39, 76, 12, 12, 1064) := rfl
theorem c_189_76 : mj_code 189 76 = some (.aload_n 0, 77, 0, 0, 0) := rfl
theorem c_189_77 : mj_code 189 77 = some (.getfield 78, 80, 12, 11, 1063) := rfl
theorem c_189_80 : mj_code 189 80 = some (.iload_n 1, 81, 0, 0, 0) := rfl
theorem c_189_81 : mj_code 189 81 = some (.iastore, 82, 0, 0, 0) := rfl
theorem c_189_82 : mj_code 189 82 = some (.aload_n 0, 83, 0, 0, 0) := rfl
theorem c_189_83 : mj_code 189 83 = some (.getfield 42, 86, 12, 13, 1065) := rfl
theorem c_189_86 : mj_code 189 86 = some (.iconst 3, 87, 0, 0, 0) := rfl
theorem c_189_87 : mj_code 189 87 = some (.aload_n 0, 88, 0, 0, 0) := rfl
theorem c_189_88 : mj_code 189 88 = some (.getfield 78, 91, 12, 11, 1063) := rfl
theorem c_189_91 : mj_code 189 91 = some (.imul, 92, 0, 0, 0) := rfl
theorem c_189_92 : mj_code 189 92 = some (.iload_n 2, 93, 0, 0, 0) := rfl
theorem c_189_93 : mj_code 189 93 = some (.iastore, 94, 0, 0, 0) := rfl
theorem c_189_94 : mj_code 189 94 = some (.aload_n 0, 95, 0, 0, 0) := rfl
theorem c_189_95 : mj_code 189 95 = some (.getfield 42, 98, 12, 13, 1065) := rfl
theorem c_189_98 : mj_code 189 98 = some (.iconst 3, 99, 0, 0, 0) := rfl
theorem c_189_99 : mj_code 189 99 = some (.aload_n 0, 100, 0, 0, 0) := rfl
theorem c_189_100 : mj_code 189 100 = some (.getfield 78, 103, 12, 11, 1063) := rfl
theorem c_189_103 : mj_code 189 103 = some (.imul, 104, 0, 0, 0) := rfl
theorem c_189_104 : mj_code 189 104 = some (.iconst 1, 105, 0, 0, 0) := rfl
theorem c_189_105 : mj_code 189 105 = some (.iadd, 106, 0, 0, 0) := rfl
theorem c_189_106 : mj_code 189 106 = some (.iload_n 3, 107, 0, 0, 0) := rfl
theorem c_189_107 : mj_code 189 107 = some (.iastore, 108, 0, 0, 0) := rfl
theorem c_189_108 : mj_code 189 108 = some (.aload_n 0, 109, 0, 0, 0) := rfl
theorem c_189_109 : mj_code 189 109 = some (.getfield 42, 112, 12, 13, 1065) := rfl
theorem c_189_112 : mj_code 189 112 = some (.iconst 3, 113, 0, 0, 0) := rfl
theorem c_189_113 : mj_code 189 113 = some (.aload_n 0, 114, 0, 0, 0) := rfl
theorem c_189_114 : mj_code 189 114 = some (.getfield 78, 117, 12, 11, 1063) := rfl
theorem c_189_117 : mj_code 189 117 = some (.imul, 118, 0, 0, 0) := rfl
theorem c_189_118 : mj_code 189 118 = some (.iconst 2, 119, 0, 0, 0) := rfl
theorem c_189_119 : mj_code 189 119 = some (.iadd, 120, 0, 0, 0) := rfl
theorem c_189_120 : mj_code 189 120 = some (.iload 4, 122, 0, 0, 0) := rfl
theorem c_189_122 : mj_code 189 122 = some (.iastore, 123, 0, 0, 0) := rfl
theorem c_189_123 : mj_code 189 123 = some (.aload_n 0, 124, 0, 0, 0) := rfl
theorem c_189_124 : mj_code 189 124 = some (.dup, 125, 0, 0, 0) := rfl
theorem c_189_125 : mj_code 189 125 = some (.getfield 78, 128, 12, 11, 1063) := rfl
theorem c_189_128 : mj_code 189 128 = some (.iconst 1, 129, 0, 0, 0) := rfl
theorem c_189_129 : mj_code 189 129 = some (.iadd, 130, 0, 0, 0) := rfl
theorem c_189_130 : mj_code 189 130 = some (.putfield 78, 133, 12, 11, 1063) := rfl
theorem c_189_133 : mj_code 189 133 = some (.aload_n 0, 134, 0, 0, 0) := rfl
theorem c_189_134 : mj_code 189 134 = some (.getfield 78, 137, 12, 11, 1063) := rfl
theorem c_189_137 : mj_code 189 137 = some (.iconst 1, 138, 0, 0, 0) := rfl
theorem c_189_138 : mj_code 189 138 = some (.isub, 139, 0, 0, 0) := rfl
theorem c_189_139 : mj_code 189 139 = some (.ireturn, 140, 0, 0, 0) := rfl
theorem c_190_0 : mj_code 190 0 = some (.aload_n 0, 1, 0, 0, 0) := rfl
theorem c_190_1 : mj_code 190 1 = some (.getfield 30, 4, 12, 8, 1060) := rfl
theorem c_190_4 : mj_code 190 4 = some (.aload_n 0, 5, 0, 0, 0) := rfl
theorem c_190_5 : mj_code 190 5 = some (.getfield 39, 8, 12, 12, 1064) := rfl
theorem c_190_8 : mj_code 190 8 = some (.iload_n 1, 9, 0, 0, 0) := rfl
theorem c_190_9 : mj_code 190 9 = some (.iaload, 10, 0, 0, 0) := rfl
theorem c_190_10 : mj_code 190 10 = some (.iaload, 11, 0, 0, 0) := rfl
theorem c_190_11 : mj_code 190 11 = some (.istore_n 3, 12, 0, 0, 0) := rfl
theorem c_190_12 : mj_code 190 12 = some (.iconst 0, 13, 0, 0, 0) := rfl
theorem c_190_13 : mj_code 190 13 = some (.istore 4, 15, 0, 0, 0) := rfl
theorem c_190_15 : mj_code 190 15 = some (.iload 4, 17, 0, 0, 0) := rfl
theorem c_190_17 : mj_code 190 17 = some (.iload_n 3, 18, 0, 0, 0) := rfl
theorem c_190_18 : mj_code 190 18 = some (.if_icmp .ge 96, 21, 114, 0, 0) := rfl
theorem c_190_21 : mj_code 190 21 = some (.aload_n 0, 22, 0, 0, 0) := rfl
theorem c_190_22 : mj_code 190 22 = some (.getfield 42, 25, 12, 13, 1065) := rfl
theorem c_190_25 : mj_code 190 25 = some (.iconst 3, 26, 0, 0, 0) := rfl
theorem c_190_26 : mj_code 190 26 = some (.iload_n 1, 27, 0, 0, 0) := rfl
theorem c_190_27 : mj_code 190 27 = some (.imul, 28, 0, 0, 0) := rfl
theorem c_190_28 : mj_code 190 28 = some (.iload 4, 30, 0, 0, 0) := rfl
theorem c_190_30 : mj_code 190 30 = some (.iadd, 31, 0, 0, 0) := rfl
theorem c_190_31 : mj_code 190 31 = some (.iaload, 32, 0, 0, 0) := rfl
theorem c_190_32 : mj_code 190 32 = some (.istore 5, 34, 0, 0, 0) := rfl
theorem c_190_34 : mj_code 190 34 = some (.aload_n 0, 35, 0, 0, 0) := rfl
theorem c_190_35 : mj_code 190 35 = some (.iload_n 2, 36, 0, 0, 0) := rfl
theorem c_190_36 : mj_code 190 36 = some (.iload_n 3, 37, 0, 0, 0) := rfl
theorem c_190_37 : mj_code 190 37 = some (.iload 4, 39, 0, 0, 0) := rfl
theorem c_190_39 : mj_code 190 39 = some (.invokevirtual 137, 42, 152, 0, 1224) := rfl
theorem c_190_42 : mj_code 190 42 = some (.istore 6, 44, 0, 0, 0) := rfl
theorem c_190_44 : mj_code 190 44 = some (.aload_n 0, 45, 0, 0, 0) := rfl
theorem c_190_45 : mj_code 190 45 = some (.getfield 69, 48, 12, 24, 1076) := rfl
theorem c_190_48 : mj_code 190 48 = some (.iload 5, 50, 0, 0, 0) := rfl
theorem c_190_50 : mj_code 190 50 = some (.iaload, 51, 0, 0, 0) := rfl
theorem c_190_51 : mj_code 190 51 = some (.iload 6, 53, 0, 0, 0) := rfl
theorem c_190_53 : mj_code 190 53 = some (.ishr, 54, 0, 0, 0) := rfl
theorem c_190_54 : mj_code 190 54 = some (.iconst 1, 55, 0, 0, 0) := rfl
theorem c_190_55 : mj_code 190 55 = some (.iand, 56, 0, 0, 0) := rfl
theorem c_190_56 : mj_code 190 56 = some (.ifCond .ne 5, 59, 61, 0, 0) := rfl
theorem c_190_59 : mj_code 190 59 = some (.iconst 0, 60, 0, 0, 0) := rfl
theorem c_190_60 : mj_code 190 60 = some (.ireturn, 61, 0, 0, 0) := rfl
theorem c_190_61 : mj_code 190 61 = some (.iconst 0, 62, 0, 0, 0) := rfl
theorem c_190_62 : mj_code 190 62 = some (.istore 7, 64, 0, 0, 0) := rfl
theorem c_190_64 : mj_code 190 64 = some (.iload 7, 66, 0, 0, 0) := rfl
theorem c_190_66 : mj_code 190 66 = some (.iload 4, 68, 0, 0, 0) := rfl
theorem c_190_68 : mj_code 190 68 = some (.if_icmp .ge 40, 71, 108, 0, 0) := rfl
theorem c_190_71 : mj_code 190 71 = some (.aload_n 0, 72, 0, 0, 0) := rfl
theorem c_190_72 : mj_code 190 72 = some (.getfield 42, 75, 12, 13, 1065) := rfl
theorem c_190_75 : mj_code 190 75 = some (.iconst 3, 76, 0, 0, 0) := rfl
theorem c_190_76 : mj_code 190 76 = some (.iload_n 1, 77, 0, 0, 0) := rfl
theorem c_190_77 : mj_code 190 77 = some (.imul, 78, 0, 0, 0) := rfl
theorem c_190_78 : mj_code 190 78 = some (.iload 7, 80, 0, 0, 0) := rfl
theorem c_190_80 : mj_code 190 80 = some (.iadd, 81, 0, 0, 0) := rfl
theorem c_190_81 : mj_code 190 81 = some (.iaload, 82, 0, 0, 0) := rfl
theorem c_190_82 : mj_code 190 82 = some (.iload 5, 84, 0, 0, 0) := rfl
theorem c_190_84 : mj_code 190 84 = some (.if_icmp .ne 18, 87, 102, 0, 0) := rfl
theorem c_190_87 : mj_code 190 87 = some (.aload_n 0, 88, 0, 0, 0) := rfl
theorem c_190_88 : mj_code 190 88 = some (.iload_n 2, 89, 0, 0, 0) := rfl
theorem c_190_89 : mj_code 190 89 = some (.iload_n 3, 90, 0, 0, 0) := rfl
theorem c_190_90 : mj_code 190 90 = some (.iload 7, 92, 0, 0, 0) := rfl
theorem c_190_92 : mj_code 190 92 = some (.invokevirtual 137, 95, 152, 0, 1224) := rfl
theorem c_190_95 : mj_code 190 95 = some (.iload 6, 97, 0, 0, 0) := rfl
theorem c_190_97 : mj_code 190 97 = some (.if_icmp .eq 5, 100, 102, 0, 0) := rfl
theorem c_190_100 : mj_code 190 100 = some (.iconst 0, 101, 0, 0, 0) := rfl
theorem c_190_101 : mj_code 190 101 = some (.ireturn, 102, 0, 0, 0) := rfl
theorem c_190_102 : mj_code 190 102 = some (.iinc 7 1, 105, 0, 0, 0) := rfl
theorem c_190_105 : mj_code 190 105 = some (.goto (-41), 108, 64, 0, 0) := rfl
theorem c_190_108 : mj_code 190 108 = some (.iinc 4 1, 111, 0, 0, 0) := rfl
theorem c_190_111 : mj_code 190 111 = some (.goto (-96), 114, 15, 0, 0) := rfl
theorem c_190_114 : mj_code 190 114 = some (.iconst 1, 115, 0, 0, 0) := rfl
theorem c_190_115 : mj_code 190 115 = some (.ireturn, 116, 0, 0, 0) := rfl
theorem c_191_0 : mj_code 191 0 = some (.iconst 0, 1, 0, 0, 0) := rfl
theorem c_191_1 : mj_code 191 1 = some (.istore_n 1, 2, 0, 0, 0) := rfl
theorem c_191_2 : mj_code 191 2 = some (.iload_n 1, 3, 0, 0, 0) := rfl
theorem c_191_3 : mj_code 191 3 = some (.aload_n 0, 4, 0, 0, 0) := rfl
theorem c_191_4 : mj_code 191 4 = some (.getfield 36, 7, 12, 10, 1062) := rfl
theorem c_191_7 : mj_code 191 7 = some (.if_icmp .ge 23, 10, 30, 0, 0) := rfl
theorem c_191_10 : mj_code 191 10 = some (.aload_n 0, 11, 0, 0, 0) := rfl
theorem c_191_11 : mj_code 191 11 = some (.getfield 69, 14, 12, 24, 1076) := rfl
theorem c_191_14 : mj_code 191 14 = some (.iload_n 1, 15, 0, 0, 0) := rfl
theorem c_191_15 : mj_code 191 15 = some (.iconst 1, 16, 0, 0, 0) := rfl
theorem c_191_16 : mj_code 191 16 = some (.aload_n 0, 17, 0, 0, 0) := rfl
theorem c_191_17 : mj_code 191 17 = some (.getfield 7, 20, 12, 0, 1052) := rfl
theorem c_191_20 : mj_code 191 20 = some (.ishl, 21, 0, 0, 0) := rfl
theorem c_191_21 : mj_code 191 21 = some (.iconst 1, 22, 0, 0, 0) := rfl
theorem c_191_22 : mj_code 191 22 = some (.isub, 23, 0, 0, 0) := rfl
theorem c_191_23 : mj_code 191 23 = some (.iastore, 24, 0, 0, 0) := rfl
theorem c_191_24 : mj_code 191 24 = some (.iinc 1 1, 27, 0, 0, 0) := rfl
theorem c_191_27 : mj_code 191 27 = some (.goto (-25), 30, 2, 0, 0) := rfl
theorem c_191_30 : mj_code 191 30 = some (.iconst 1, 31, 0, 0, 0) := rfl
theorem c_191_31 : mj_code 191 31 = some (.istore_n 1, 32, 0, 0, 0) := rfl
theorem c_191_32 : mj_code 191 32 = some (.iload_n 1, 33, 0, 0, 0) := rfl
theorem c_191_33 : mj_code 191 33 = some (.ifCond .eq 174, 36, 207, 0, 0) := rfl
theorem c_191_36 : mj_code 191 36 = some (.iconst 0, 37, 0, 0, 0) := rfl
theorem c_191_37 : mj_code 191 37 = some (.istore_n 1, 38, 0, 0, 0) := rfl
theorem c_191_38 : mj_code 191 38 = some (.iconst 0, 39, 0, 0, 0) := rfl
theorem c_191_39 : mj_code 191 39 = some (.istore_n 2, 40, 0, 0, 0) := rfl
theorem c_191_40 : mj_code 191 40 = some (.iload_n 2, 41, 0, 0, 0) := rfl
theorem c_191_41 : mj_code 191 41 = some (.aload_n 0, 42, 0, 0, 0) := rfl
theorem c_191_42 : mj_code 191 42 = some (.getfield 78, 45, 12, 11, 1063) := rfl
theorem c_191_45 : mj_code 191 45 = some (.if_icmp .ge 159, 48, 204, 0, 0) := rfl
theorem c_191_48 : mj_code 191 48 = some (.aload_n 0, 49, 0, 0, 0) := rfl
theorem c_191_49 : mj_code 191 49 = some (.getfield 39, 52, 12, 12, 1064) := rfl
theorem c_191_52 : mj_code 191 52 = some (.iload_n 2, 53, 0, 0, 0) := rfl
theorem c_191_53 : mj_code 191 53 = some (.iaload, 54, 0, 0, 0) := rfl
theorem c_191_54 : mj_code 191 54 = some (.istore_n 3, 55, 0, 0, 0) := rfl
theorem c_191_55 : mj_code 191 55 = some (.aload_n 0, 56, 0, 0, 0) := rfl
theorem c_191_56 : mj_code 191 56 = some (.getfield 30, 59, 12, 8, 1060) := rfl
theorem c_191_59 : mj_code 191 59 = some (.iload_n 3, 60, 0, 0, 0) := rfl
theorem c_191_60 : mj_code 191 60 = some (.iaload, 61, 0, 0, 0) := rfl
theorem c_191_61 : mj_code 191 61 = some (.istore 4, 63, 0, 0, 0) := rfl
theorem c_191_63 : mj_code 191 63 = some (.iconst 0, 64, 0, 0, 0) := rfl
theorem c_191_64 : mj_code 191 64 = some (.istore 5, 66, 0, 0, 0) := rfl
theorem c_191_66 : mj_code 191 66 = some (.iload 5, 68, 0, 0, 0) := rfl
theorem c_191_68 : mj_code 191 68 = some (.iload 4, 70, 0, 0, 0) := rfl
theorem c_191_70 : mj_code 191 70 = some (.if_icmp .ge 128, 73, 198, 0, 0) := rfl
theorem c_191_73 : mj_code 191 73 = some (.iconst 0, 74, 0, 0, 0) := rfl
theorem c_191_74 : mj_code 191 74 = some (.istore 6, 76, 0, 0, 0) := rfl
theorem c_191_76 : mj_code 191 76 = some (.iconst 0, 77, 0, 0, 0) := rfl
theorem c_191_77 : mj_code 191 77 = some (.istore 7, 79, 0, 0, 0) := rfl
theorem c_191_79 : mj_code 191 79 = some (.iload 7, 81, 0, 0, 0) := rfl
theorem c_191_81 : mj_code 191 81 = some (.aload_n 0, 82, 0, 0, 0) := rfl
theorem c_191_82 : mj_code 191 82 = some (.getfield 7, 85, 12, 0, 1052) := rfl
theorem c_191_85 : mj_code 191 85 = some (.iload 4, 87, 0, 0, 0) := rfl
theorem c_191_87 : mj_code 191 87 = some (.invokestatic 88, 90, 140, 1, 1155) := rfl
theorem c_191_90 : mj_code 191 90 = some (.if_icmp .ge 52, 93, 142, 0, 0) := rfl
theorem c_191_93 : mj_code 191 93 = some (.aload_n 0, 94, 0, 0, 0) := rfl
theorem c_191_94 : mj_code 191 94 = some (.getfield 33, 97, 12, 9, 1061) := rfl
theorem c_191_97 : mj_code 191 97 = some (.iload_n 3, 98, 0, 0, 0) := rfl
theorem c_191_98 : mj_code 191 98 = some (.laload, 99, 0, 0, 0) := rfl
theorem c_191_99 : mj_code 191 99 = some (.iload 7, 101, 0, 0, 0) := rfl
theorem c_191_101 : mj_code 191 101 = some (.lshr, 102, 0, 0, 0) := rfl
theorem c_191_102 : mj_code 191 102 = some (.lconst 1, 103, 0, 0, 0) := rfl
theorem c_191_103 : mj_code 191 103 = some (.land, 104, 0, 0, 0) := rfl
theorem c_191_104 : mj_code 191 104 = some (.lconst 1, 105, 0, 0, 0) := rfl
theorem c_191_105 : mj_code 191 105 = some (.lcmp, 106, 0, 0, 0) := rfl
theorem c_191_106 : mj_code 191 106 = some (.ifCond .ne 30, 109, 136, 0, 0) := rfl
theorem c_191_109 : mj_code 191 109 = some (.aload_n 0, 110, 0, 0, 0) := rfl
theorem c_191_110 : mj_code 191 110 = some (.iload_n 2, 111, 0, 0, 0) := rfl
theorem c_191_111 : mj_code 191 111 = some (.iload 7, 113, 0, 0, 0) := rfl
theorem c_191_113 : mj_code 191 113 = some (.invokevirtual 194, 116, 190, 0, 1339) := rfl
theorem c_191_116 : mj_code 191 116 = some (.ifCond .eq 20, 119, 136, 0, 0) := rfl
theorem c_191_119 : mj_code 191 119 = some (.iload 6, 121, 0, 0, 0) := rfl
theorem c_191_121 : mj_code 191 121 = some (.iconst 1, 122, 0, 0, 0) := rfl
theorem c_191_122 : mj_code 191 122 = some (.aload_n 0, 123, 0, 0, 0) := rfl
theorem c_191_123 : mj_code 191 123 = some (.iload 7, 125, 0, 0, 0) := rfl
theorem c_191_125 : mj_code 191 125 = some (.iload 4, 127, 0, 0, 0) := rfl
theorem c_191_127 : mj_code 191 127 = some (.iload 5, 129, 0, 0, 0) := rfl
theorem c_191_129 : mj_code 191 129 = some (.invokevirtual 137, 132, 152, 0, 1224) := rfl
theorem c_191_132 : mj_code 191 132 = some (.ishl, 133, 0, 0, 0) := rfl
theorem c_191_133 : mj_code 191 133 = some (.ior, 134, 0, 0, 0) := rfl
theorem c_191_134 : mj_code 191 134 = some (.istore 6, 136, 0, 0, 0) := rfl
theorem c_191_136 : mj_code 191 136 = some (.iinc 7 1, 139, 0, 0, 0) := rfl
theorem c_191_139 : mj_code 191 139 = some (.goto (-60), 142, 79, 0, 0) := rfl
theorem c_191_142 : mj_code 191 142 = some (.aload_n 0, 143, 0, 0, 0) := rfl
theorem c_191_143 : mj_code 191 143 = some (.getfield 42, 146, 12, 13, 1065) := rfl
theorem c_191_146 : mj_code 191 146 = some (.iconst 3, 147, 0, 0, 0) := rfl
theorem c_191_147 : mj_code 191 147 = some (.iload_n 2, 148, 0, 0, 0) := rfl
theorem c_191_148 : mj_code 191 148 = some (.imul, 149, 0, 0, 0) := rfl
theorem c_191_149 : mj_code 191 149 = some (.iload 5, 151, 0, 0, 0) := rfl
theorem c_191_151 : mj_code 191 151 = some (.iadd, 152, 0, 0, 0) := rfl
theorem c_191_152 : mj_code 191 152 = some (.iaload, 153, 0, 0, 0) := rfl
theorem c_191_153 : mj_code 191 153 = some (.istore 7, 155, 0, 0, 0) := rfl
theorem c_191_155 : mj_code 191 155 = some (.iload_n 1, 156, 0, 0, 0) := rfl
theorem c_191_156 : mj_code 191 156 = some (.ifCond .ne 18, 159, 174, 0, 0) := rfl
theorem c_191_159 : mj_code 191 159 = some (.aload_n 0, 160, 0, 0, 0) := rfl
theorem c_191_160 : mj_code 191 160 = some (.getfield 69, 163, 12, 24, 1076) := rfl
theorem c_191_163 : mj_code 191 163 = some (.iload 7, 165, 0, 0, 0) := rfl
theorem c_191_165 : mj_code 191 165 = some (.iaload, 166, 0, 0, 0) := rfl
theorem c_191_166 : mj_code 191 166 = some (.iload 6, 168, 0, 0, 0) := rfl
theorem c_191_168 : mj_code 191 168 = some (.iconst (-1), 169, 0, 0, 0) := rfl
theorem c_191_169 : mj_code 191 169 = some (.ixor, 170, 0, 0, 0) := rfl
theorem c_191_170 : mj_code 191 170 = some (.iand, 171, 0, 0, 0) := rfl
theorem c_191_171 : mj_code 191 171 = some (.ifCond .eq 7, 174, 178, 0, 0) := rfl
theorem c_191_174 : mj_code 191 174 = some (.iconst 1, 175, 0, 0, 0) := rfl
theorem c_191_175 : mj_code 191 175 = some (.goto 4, 178, 179, 0, 0) := rfl
theorem c_191_178 : mj_code 191 178 = some (.iconst 0, 179, 0, 0, 0) := rfl
theorem c_191_179 : mj_code 191 179 = some (.istore_n 1, 180, 0, 0, 0) := rfl
theorem c_191_180 : mj_code 191 180 = some (.aload_n 0, 181, 0, 0, 0) := rfl
theorem c_191_181 : mj_code 191 181 = some (.getfield 69, 184, 12, 24, 1076) := rfl
theorem c_191_184 : mj_code 191 184 = some (.iload 7, 186, 0, 0, 0) := rfl
theorem c_191_186 : mj_code 191 186 = some (.dup2, 187, 0, 0, 0) := rfl
theorem c_191_187 : mj_code 191 187 = some (.iaload, 188, 0, 0, 0) := rfl
theorem c_191_188 : mj_code 191 188 = some (.iload 6, 190, 0, 0, 0) := rfl
theorem c_191_190 : mj_code 191 190 = some (.iand, 191, 0, 0, 0) := rfl
theorem c_191_191 : mj_code 191 191 = some (.iastore, 192, 0, 0, 0) := rfl
theorem c_191_192 : mj_code 191 192 = some (.iinc 5 1, 195, 0, 0, 0) := rfl
theorem c_191_195 : mj_code 191 195 = some (.goto (-129), 198, 66, 0, 0) := rfl
theorem c_191_198 : mj_code 191 198 = some (.iinc 2 1, 201, 0, 0, 0) := rfl
theorem c_191_201 : mj_code 191 201 = some (.goto (-161), 204, 40, 0, 0) := rfl
theorem c_191_204 : mj_code 191 204 = some (.goto (-172), 207, 32, 0, 0) := rfl
theorem c_191_207 : mj_code 191 207 = some (.return_, 208, 0, 0, 0) := rfl
theorem c_192_0 : mj_code 192 0 = some (.aload_n 0, 1, 0, 0, 0) := rfl
theorem c_192_1 : mj_code 192 1 = some (.iload_n 1, 2, 0, 0, 0) := rfl
theorem c_192_2 : mj_code 192 2 = some (.invokevirtual 191, 5, 188, 0, 1327) := rfl
theorem c_192_5 : mj_code 192 5 = some (.ifCond .ne 5, 8, 10, 0, 0) := rfl
theorem c_192_8 : mj_code 192 8 = some (.iconst (-1), 9, 0, 0, 0) := rfl
theorem c_192_9 : mj_code 192 9 = some (.ireturn, 10, 0, 0, 0) := rfl
theorem c_192_10 : mj_code 192 10 = some (.aload_n 0, 11, 0, 0, 0) := rfl
theorem c_192_11 : mj_code 192 11 = some (.invokevirtual 197, 14, 191, 0, 1335) := rfl
theorem c_192_14 : mj_code 192 14 = some (.aload_n 0, 15, 0, 0, 0) := rfl
theorem c_192_15 : mj_code 192 15 = some (.getfield 69, 18, 12, 24, 1076) := rfl
theorem c_192_18 : mj_code 192 18 = some (.iload_n 1, 19, 0, 0, 0) := rfl
theorem c_192_19 : mj_code 192 19 = some (.iaload, 20, 0, 0, 0) := rfl
theorem c_192_20 : mj_code 192 20 = some (.ireturn, 21, 0, 0, 0) := rfl
theorem c_193_0 : mj_code 193 0 = some (.iconst 0, 1, 0, 0, 0) := rfl
theorem c_193_1 : mj_code 193 1 = some (.istore_n 2, 2, 0, 0, 0) := rfl
theorem c_193_2 : mj_code 193 2 = some (.iload_n 2, 3, 0, 0, 0) := rfl
theorem c_193_3 : mj_code 193 3 = some (.aload_n 0, 4, 0, 0, 0) := rfl
theorem c_193_4 : mj_code 193 4 = some (.getfield 78, 7, 12, 11, 1063) := rfl
theorem c_193_7 : mj_code 193 7 = some (.if_icmp .ge 87, 10, 94, 0, 0) := rfl
theorem c_193_10 : mj_code 193 10 = some (.aload_n 0, 11, 0, 0, 0) := rfl
theorem c_193_11 : mj_code 193 11 = some (.getfield 39, 14, 12, 12, 1064) := rfl
theorem c_193_14 : mj_code 193 14 = some (.iload_n 2, 15, 0, 0, 0) := rfl
theorem c_193_15 : mj_code 193 15 = some (.iaload, 16, 0, 0, 0) := rfl
theorem c_193_16 : mj_code 193 16 = some (.istore_n 3, 17, 0, 0, 0) := rfl
theorem c_193_17 : mj_code 193 17 = some (.iconst 0, 18, 0, 0, 0) := rfl
theorem c_193_18 : mj_code 193 18 = some (.istore 4, 20, 0, 0, 0) := rfl
theorem c_193_20 : mj_code 193 20 = some (.iconst 0, 21, 0, 0, 0) := rfl
theorem c_193_21 : mj_code 193 21 = some (.istore 5, 23, 0, 0, 0) := rfl
theorem c_193_23 : mj_code 193 23 = some (.iload 5, 25, 0, 0, 0) := rfl
theorem c_193_25 : mj_code 193 25 = some (.aload_n 0, 26, 0, 0, 0) := rfl
theorem c_193_26 : mj_code 193 26 = some (.getfield 30, 29, 12, 8, 1060) := rfl
theorem c_193_29 : mj_code 193 29 = some (.iload_n 3, 30, 0, 0, 0) := rfl
theorem c_193_30 : mj_code 193 30 = some (.iaload, 31, 0, 0, 0) := rfl
theorem c_193_31 : mj_code 193 31 = some (.if_icmp .ge 39, 34, 70, 0, 0) := rfl
theorem c_193_34 : mj_code 193 34 = some (.iload 4, 36, 0, 0, 0) := rfl
theorem c_193_36 : mj_code 193 36 = some (.aload_n 0, 37, 0, 0, 0) := rfl
theorem c_193_37 : mj_code 193 37 = some (.getfield 7, 40, 12, 0, 1052) := rfl
theorem c_193_40 : mj_code 193 40 = some (.imul, 41, 0, 0, 0) := rfl
theorem c_193_41 : mj_code 193 41 = some (.aload_n 0, 42, 0, 0, 0) := rfl
theorem c_193_42 : mj_code 193 42 = some (.iload_n 1, 43, 0, 0, 0) := rfl
theorem c_193_43 : mj_code 193 43 = some (.aload_n 0, 44, 0, 0, 0) := rfl
theorem c_193_44 : mj_code 193 44 = some (.getfield 36, 47, 12, 10, 1062) := rfl
theorem c_193_47 : mj_code 193 47 = some (.aload_n 0, 48, 0, 0, 0) := rfl
theorem c_193_48 : mj_code 193 48 = some (.getfield 42, 51, 12, 13, 1065) := rfl
theorem c_193_51 : mj_code 193 51 = some (.iconst 3, 52, 0, 0, 0) := rfl
theorem c_193_52 : mj_code 193 52 = some (.iload_n 2, 53, 0, 0, 0) := rfl
theorem c_193_53 : mj_code 193 53 = some (.imul, 54, 0, 0, 0) := rfl
theorem c_193_54 : mj_code 193 54 = some (.iload 5, 56, 0, 0, 0) := rfl
theorem c_193_56 : mj_code 193 56 = some (.iadd, 57, 0, 0, 0) := rfl
theorem c_193_57 : mj_code 193 57 = some (.iaload, 58, 0, 0, 0) := rfl
theorem c_193_58 : mj_code 193 58 = some (.invokevirtual 137, 61, 152, 0, 1224) := rfl
theorem c_193_61 : mj_code 193 61 = some (.iadd, 62, 0, 0, 0) := rfl
theorem c_193_62 : mj_code 193 62 = some (.istore 4, 64, 0, 0, 0) := rfl
theorem c_193_64 : mj_code 193 64 = some (.iinc 5 1, 67, 0, 0, 0) := rfl
theorem c_193_67 : mj_code 193 67 = some (.goto (-44), 70, 23, 0, 0) := rfl
theorem c_193_70 : mj_code 193 70 = some (.aload_n 0, 71, 0, 0, 0) := rfl
theorem c_193_71 : mj_code 193 71 = some (.getfield 33, 74, 12, 9, 1061) := rfl
theorem c_193_74 : mj_code 193 74 = some (.iload_n 3, 75, 0, 0, 0) := rfl
theorem c_193_75 : mj_code 193 75 = some (.laload, 76, 0, 0, 0) := rfl
theorem c_193_76 : mj_code 193 76 = some (.iload 4, 78, 0, 0, 0) := rfl
theorem c_193_78 : mj_code 193 78 = some (.lshr, 79, 0, 0, 0) := rfl
theorem c_193_79 : mj_code 193 79 = some (.lconst 1, 80, 0, 0, 0) := rfl
theorem c_193_80 : mj_code 193 80 = some (.land, 81, 0, 0, 0) := rfl
theorem c_193_81 : mj_code 193 81 = some (.lconst 0, 82, 0, 0, 0) := rfl
theorem c_193_82 : mj_code 193 82 = some (.lcmp, 83, 0, 0, 0) := rfl
theorem c_193_83 : mj_code 193 83 = some (.ifCond .ne 5, 86, 88, 0, 0) := rfl
theorem c_193_86 : mj_code 193 86 = some (.iconst 0, 87, 0, 0, 0) := rfl
theorem c_193_87 : mj_code 193 87 = some (.ireturn, 88, 0, 0, 0) := rfl
theorem c_193_88 : mj_code 193 88 = some (.iinc 2 1, 91, 0, 0, 0) := rfl
theorem c_193_91 : mj_code 193 91 = some (.goto (-89), 94, 2, 0, 0) := rfl
theorem c_193_94 : mj_code 193 94 = some (.iconst 1, 95, 0, 0, 0) := rfl
theorem c_193_95 : mj_code 193 95 = some (.ireturn, 96, 0, 0, 0) := rfl
theorem c_194_0 : mj_code 194 0 = some (.iconst 0, 1, 0, 0, 0) := rfl
theorem c_194_1 : mj_code 194 1 = some (.istore_n 1, 2, 0, 0, 0) := rfl
theorem c_194_2 : mj_code 194 2 = some (.iconst 0, 3, 0, 0, 0) := rfl
theorem c_194_3 : mj_code 194 3 = some (.istore_n 2, 4, 0, 0, 0) := rfl
theorem c_194_4 : mj_code 194 4 = some (.iload_n 2, 5, 0, 0, 0) := rfl
theorem c_194_5 : mj_code 194 5 = some (.aload_n 0, 6, 0, 0, 0) := rfl
theorem c_194_6 : mj_code 194 6 = some (.getfield 7, 9, 12, 0, 1052) := rfl
theorem c_194_9 : mj_code 194 9 = some (.aload_n 0, 10, 0, 0, 0) := rfl
theorem c_194_10 : mj_code 194 10 = some (.getfield 36, 13, 12, 10, 1062) := rfl
theorem c_194_13 : mj_code 194 13 = some (.invokestatic 88, 16, 140, 1, 1155) := rfl
theorem c_194_16 : mj_code 194 16 = some (.if_icmp .ge 25, 19, 41, 0, 0) := rfl
theorem c_194_19 : mj_code 194 19 = some (.iload_n 1, 20, 0, 0, 0) := rfl
theorem c_194_20 : mj_code 194 20 = some (.aload_n 0, 21, 0, 0, 0) := rfl
theorem c_194_21 : mj_code 194 21 = some (.iload_n 2, 22, 0, 0, 0) := rfl
theorem c_194_22 : mj_code 194 22 = some (.invokevirtual 200, 25, 193, 0, 1347) := rfl
theorem c_194_25 : mj_code 194 25 = some (.ifCond .eq 7, 28, 32, 0, 0) := rfl
theorem c_194_28 : mj_code 194 28 = some (.iconst 1, 29, 0, 0, 0) := rfl
theorem c_194_29 : mj_code 194 29 = some (.goto 4, 32, 33, 0, 0) := rfl
theorem c_194_32 : mj_code 194 32 = some (.iconst 0, 33, 0, 0, 0) := rfl
theorem c_194_33 : mj_code 194 33 = some (.iadd, 34, 0, 0, 0) := rfl
theorem c_194_34 : mj_code 194 34 = some (.istore_n 1, 35, 0, 0, 0) := rfl
theorem c_194_35 : mj_code 194 35 = some (.iinc 2 1, 38, 0, 0, 0) := rfl
theorem c_194_38 : mj_code 194 38 = some (.goto (-34), 41, 4, 0, 0) := rfl
theorem c_194_41 : mj_code 194 41 = some (.iload_n 1, 42, 0, 0, 0) := rfl
theorem c_194_42 : mj_code 194 42 = some (.ireturn, 43, 0, 0, 0) := rfl
theorem c_195_0 : mj_code 195 0 = some (.iload_n 1, 1, 0, 0, 0) := rfl
theorem c_195_1 : mj_code 195 1 = some (.istore_n 2, 2, 0, 0, 0) := rfl
theorem c_195_2 : mj_code 195 2 = some (.iconst 0, 3, 0, 0, 0) := rfl
theorem c_195_3 : mj_code 195 3 = some (.istore_n 3, 4, 0, 0, 0) := rfl
theorem c_195_4 : mj_code 195 4 = some (.iload_n 3, 5, 0, 0, 0) := rfl
theorem c_195_5 : mj_code 195 5 = some (.aload_n 0, 6, 0, 0, 0) := rfl
theorem c_195_6 : mj_code 195 6 = some (.getfield 7, 9, 12, 0, 1052) := rfl
theorem c_195_9 : mj_code 195 9 = some (.aload_n 0, 10, 0, 0, 0) := rfl
theorem c_195_10 : mj_code 195 10 = some (.getfield 36, 13, 12, 10, 1062) := rfl
theorem c_195_13 : mj_code 195 13 = some (.invokestatic 88, 16, 140, 1, 1155) := rfl
theorem c_195_16 : mj_code 195 16 = some (.if_icmp .ge 30, 19, 46, 0, 0) := rfl
theorem c_195_19 : mj_code 195 19 = some (.iload_n 2, 20, 0, 0, 0) := rfl
theorem c_195_20 : mj_code 195 20 = some (.ifCond .lt 26, 23, 46, 0, 0) := rfl
theorem c_195_23 : mj_code 195 23 = some (.aload_n 0, 24, 0, 0, 0) := rfl
theorem c_195_24 : mj_code 195 24 = some (.iload_n 3, 25, 0, 0, 0) := rfl
theorem c_195_25 : mj_code 195 25 = some (.invokevirtual 200, 28, 193, 0, 1347) := rfl
theorem c_195_28 : mj_code 195 28 = some (.ifCond .eq 12, 31, 40, 0, 0) := rfl
theorem c_195_31 : mj_code 195 31 = some (.iload_n 2, 32, 0, 0, 0) := rfl
theorem c_195_32 : mj_code 195 32 = some (.ifCond .ne 5, 35, 37, 0, 0) := rfl
theorem c_195_35 : mj_code 195 35 = some (.iload_n 3, 36, 0, 0, 0) := rfl
theorem c_195_36 : mj_code 195 36 = some (.ireturn, 37, 0, 0, 0) := rfl
theorem c_195_37 : mj_code 195 37 = some (.iinc 2 (-1), 40, 0, 0, 0) := rfl
theorem c_195_40 : mj_code 195 40 = some (.iinc 3 1, 43, 0, 0, 0) := rfl
theorem c_195_43 : mj_code 195 43 = some (.goto (-39), 46, 4, 0, 0) := rfl
theorem c_195_46 : mj_code 195 46 = some (.iconst (-1), 47, 0, 0, 0) := rfl
theorem c_195_47 : mj_code 195 47 = some (.ireturn, 48, 0, 0, 0) := rfl
theorem c_196_0 : mj_code 196 0 = some (.iconst 0, 1, 0, 0, 0) := rfl
theorem c_196_1 : mj_code 196 1 = some (.istore_n 1, 2, 0, 0, 0) := rfl
theorem c_196_2 : mj_code 196 2 = some (.iconst 0, 3, 0, 0, 0) := rfl
theorem c_196_3 : mj_code 196 3 = some (.istore_n 2, 4, 0, 0, 0) := rfl
theorem c_196_4 : mj_code 196 4 = some (.iload_n 2, 5, 0, 0, 0) := rfl
theorem c_196_5 : mj_code 196 5 = some (.aload_n 0, 6, 0, 0, 0) := rfl
theorem c_196_6 : mj_code 196 6 = some (.getfield 78, 9, 12, 11, 1063) := rfl
theorem c_196_9 : mj_code 196 9 = some (.if_icmp .ge 20, 12, 29, 0, 0) := rfl
theorem c_196_12 : mj_code 196 12 = some (.iload_n 1, 13, 0, 0, 0) := rfl
theorem c_196_13 : mj_code 196 13 = some (.iconst 1, 14, 0, 0, 0) := rfl
theorem c_196_14 : mj_code 196 14 = some (.aload_n 0, 15, 0, 0, 0) := rfl
theorem c_196_15 : mj_code 196 15 = some (.getfield 39, 18, 12, 12, 1064) := rfl
theorem c_196_18 : mj_code 196 18 = some (.iload_n 2, 19, 0, 0, 0) := rfl
theorem c_196_19 : mj_code 196 19 = some (.iaload, 20, 0, 0, 0) := rfl
theorem c_196_20 : mj_code 196 20 = some (.ishl, 21, 0, 0, 0) := rfl
theorem c_196_21 : mj_code 196 21 = some (.ior, 22, 0, 0, 0) := rfl
theorem c_196_22 : mj_code 196 22 = some (.istore_n 1, 23, 0, 0, 0) := rfl
theorem c_196_23 : mj_code 196 23 = some (.iinc 2 1, 26, 0, 0, 0) := rfl
theorem c_196_26 : mj_code 196 26 = some (.goto (-22), 29, 4, 0, 0) := rfl
theorem c_196_29 : mj_code 196 29 = some (.iload_n 1, 30, 0, 0, 0) := rfl
theorem c_196_30 : mj_code 196 30 = some (.ireturn, 31, 0, 0, 0) := rfl
theorem c_197_0 : mj_code 197 0 = some (.iconst 0, 1, 0, 0, 0) := rfl
theorem c_197_1 : mj_code 197 1 = some (.istore_n 1, 2, 0, 0, 0) := rfl
theorem c_197_2 : mj_code 197 2 = some (.iload_n 1, 3, 0, 0, 0) := rfl
theorem c_197_3 : mj_code 197 3 = some (.aload_n 0, 4, 0, 0, 0) := rfl
theorem c_197_4 : mj_code 197 4 = some (.getfield 7, 7, 12, 0, 1052) := rfl
theorem c_197_7 : mj_code 197 7 = some (.if_icmp .ge 146, 10, 153, 0, 0) := rfl
theorem c_197_10 : mj_code 197 10 = some (.aload_n 0, 11, 0, 0, 0) := rfl
theorem c_197_11 : mj_code 197 11 = some (.getfield 60, 14, 12, 19, 1071) := rfl
theorem c_197_14 : mj_code 197 14 = some (.iload_n 1, 15, 0, 0, 0) := rfl
theorem c_197_15 : mj_code 197 15 = some (.aload_n 0, 16, 0, 0, 0) := rfl
theorem c_197_16 : mj_code 197 16 = some (.getfield 7, 19, 12, 0, 1052) := rfl
theorem c_197_19 : mj_code 197 19 = some (.imul, 20, 0, 0, 0) := rfl
theorem c_197_20 : mj_code 197 20 = some (.iload_n 1, 21, 0, 0, 0) := rfl
theorem c_197_21 : mj_code 197 21 = some (.iadd, 22, 0, 0, 0) := rfl
theorem c_197_22 : mj_code 197 22 = some (.iaload, 23, 0, 0, 0) := rfl
theorem c_197_23 : mj_code 197 23 = some (.iload_n 1, 24, 0, 0, 0) := rfl
theorem c_197_24 : mj_code 197 24 = some (.if_icmp .eq 5, 27, 29, 0, 0) := rfl
theorem c_197_27 : mj_code 197 27 = some (.iconst 0, 28, 0, 0, 0) := rfl
theorem c_197_28 : mj_code 197 28 = some (.ireturn, 29, 0, 0, 0) := rfl
theorem c_197_29 : mj_code 197 29 = some (.iconst 0, 30, 0, 0, 0) := rfl
theorem c_197_30 : mj_code 197 30 = some (.istore_n 2, 31, 0, 0, 0) := rfl
theorem c_197_31 : mj_code 197 31 = some (.iload_n 2, 32, 0, 0, 0) := rfl
theorem c_197_32 : mj_code 197 32 = some (.aload_n 0, 33, 0, 0, 0) := rfl
theorem c_197_33 : mj_code 197 33 = some (.getfield 7, 36, 12, 0, 1052) := rfl
theorem c_197_36 : mj_code 197 36 = some (.if_icmp .ge 111, 39, 147, 0, 0) := rfl
theorem c_197_39 : mj_code 197 39 = some (.aload_n 0, 40, 0, 0, 0) := rfl
theorem c_197_40 : mj_code 197 40 = some (.getfield 60, 43, 12, 19, 1071) := rfl
theorem c_197_43 : mj_code 197 43 = some (.iload_n 1, 44, 0, 0, 0) := rfl
theorem c_197_44 : mj_code 197 44 = some (.aload_n 0, 45, 0, 0, 0) := rfl
theorem c_197_45 : mj_code 197 45 = some (.getfield 7, 48, 12, 0, 1052) := rfl
theorem c_197_48 : mj_code 197 48 = some (.imul, 49, 0, 0, 0) := rfl
theorem c_197_49 : mj_code 197 49 = some (.iload_n 2, 50, 0, 0, 0) := rfl
theorem c_197_50 : mj_code 197 50 = some (.iadd, 51, 0, 0, 0) := rfl
theorem c_197_51 : mj_code 197 51 = some (.iaload, 52, 0, 0, 0) := rfl
theorem c_197_52 : mj_code 197 52 = some (.aload_n 0, 53, 0, 0, 0) := rfl
theorem c_197_53 : mj_code 197 53 = some (.getfield 60, 56, 12, 19, 1071) := rfl
theorem c_197_56 : mj_code 197 56 = some (.iload_n 2, 57, 0, 0, 0) := rfl
theorem c_197_57 : mj_code 197 57 = some (.aload_n 0, 58, 0, 0, 0) := rfl
theorem c_197_58 : mj_code 197 58 = some (.getfield 7, 61, 12, 0, 1052) := rfl
theorem c_197_61 : mj_code 197 61 = some (.imul, 62, 0, 0, 0) := rfl
theorem c_197_62 : mj_code 197 62 = some (.iload_n 1, 63, 0, 0, 0) := rfl
theorem c_197_63 : mj_code 197 63 = some (.iadd, 64, 0, 0, 0) := rfl
theorem c_197_64 : mj_code 197 64 = some (.iaload, 65, 0, 0, 0) := rfl
theorem c_197_65 : mj_code 197 65 = some (.if_icmp .eq 5, 68, 70, 0, 0) := rfl
theorem c_197_68 : mj_code 197 68 = some (.iconst 0, 69, 0, 0, 0) := rfl
theorem c_197_69 : mj_code 197 69 = some (.ireturn, 70, 0, 0, 0) := rfl
theorem c_197_70 : mj_code 197 70 = some (.iconst 0, 71, 0, 0, 0) := rfl
theorem c_197_71 : mj_code 197 71 = some (.istore_n 3, 72, 0, 0, 0) := rfl
theorem c_197_72 : mj_code 197 72 = some (.iload_n 3, 73, 0, 0, 0) := rfl
theorem c_197_73 : mj_code 197 73 = some (.aload_n 0, 74, 0, 0, 0) := rfl
theorem c_197_74 : mj_code 197 74 = some (.getfield 7, 77, 12, 0, 1052) := rfl
theorem c_197_77 : mj_code 197 77 = some (.if_icmp .ge 64, 80, 141, 0, 0) := rfl
theorem c_197_80 : mj_code 197 80 = some (.aload_n 0, 81, 0, 0, 0) := rfl
theorem c_197_81 : mj_code 197 81 = some (.getfield 60, 84, 12, 19, 1071) := rfl
theorem c_197_84 : mj_code 197 84 = some (.aload_n 0, 85, 0, 0, 0) := rfl
theorem c_197_85 : mj_code 197 85 = some (.getfield 60, 88, 12, 19, 1071) := rfl
theorem c_197_88 : mj_code 197 88 = some (.iload_n 1, 89, 0, 0, 0) := rfl
theorem c_197_89 : mj_code 197 89 = some (.aload_n 0, 90, 0, 0, 0) := rfl
theorem c_197_90 : mj_code 197 90 = some (.getfield 7, 93, 12, 0, 1052) := rfl
theorem c_197_93 : mj_code 197 93 = some (.imul, 94, 0, 0, 0) := rfl
theorem c_197_94 : mj_code 197 94 = some (.iload_n 2, 95, 0, 0, 0) := rfl
theorem c_197_95 : mj_code 197 95 = some (.iadd, 96, 0, 0, 0) := rfl
theorem c_197_96 : mj_code 197 96 = some (.iaload, 97, 0, 0, 0) := rfl
theorem c_197_97 : mj_code 197 97 = some (.aload_n 0, 98, 0, 0, 0) := rfl
theorem c_197_98 : mj_code 197 98 = some (.getfield 7, 101, 12, 0, 1052) := rfl
theorem c_197_101 : mj_code 197 101 = some (.imul, 102, 0, 0, 0) := rfl
theorem c_197_102 : mj_code 197 102 = some (.iload_n 3, 103, 0, 0, 0) := rfl
theorem c_197_103 : mj_code 197 103 = some (.iadd, 104, 0, 0, 0) := rfl
theorem c_197_104 : mj_code 197 104 = some (.iaload, 105, 0, 0, 0) := rfl
theorem c_197_105 : mj_code 197 105 = some (.aload_n 0, 106, 0, 0, 0) := rfl
theorem c_197_106 : mj_code 197 106 = some (.getfield 60, 109, 12, 19, 1071) := rfl
theorem c_197_109 : mj_code 197 109 = some (.iload_n 1, 110, 0, 0, 0) := rfl
theorem c_197_110 : mj_code 197 110 = some (.aload_n 0, 111, 0, 0, 0) := rfl
theorem c_197_111 : mj_code 197 111 = some (.getfield 7, 114, 12, 0, 1052) := rfl
theorem c_197_114 : mj_code 197 114 = some (.imul, 115, 0, 0, 0) := rfl
theorem c_197_115 : mj_code 197 115 = some (.aload_n 0, 116, 0, 0, 0) := rfl
theorem c_197_116 : mj_code 197 116 = some (.getfield 60, 119, 12, 19, 1071) := rfl
theorem c_197_119 : mj_code 197 119 = some (.iload_n 2, 120, 0, 0, 0) := rfl
theorem c_197_120 : mj_code 197 120 = some (.aload_n 0, 121, 0, 0, 0) := rfl
theorem c_197_121 : mj_code 197 121 = some (.getfield 7, 124, 12, 0, 1052) := rfl
theorem c_197_124 : mj_code 197 124 = some (.imul, 125, 0, 0, 0) := rfl
theorem c_197_125 : mj_code 197 125 = some (.iload_n 3, 126, 0, 0, 0) := rfl
theorem c_197_126 : mj_code 197 126 = some (.iadd, 127, 0, 0, 0) := rfl
theorem c_197_127 : mj_code 197 127 = some (.iaload, 128, 0, 0, 0) := rfl
theorem c_197_128 : mj_code 197 128 = some (.iadd, 129, 0, 0, 0) := rfl
theorem c_197_129 : mj_code 197 129 = some (.iaload, 130, 0, 0, 0) := rfl
theorem c_197_130 : mj_code 197 130 = some (.if_icmp .eq 5, 133, 135, 0, 0) := rfl
theorem c_197_133 : mj_code 197 133 = some (.iconst 0, 134, 0, 0, 0) := rfl
theorem c_197_134 : mj_code 197 134 = some (.ireturn, 135, 0, 0, 0) := rfl
theorem c_197_135 : mj_code 197 135 = some (.iinc 3 1, 138, 0, 0, 0) := rfl
theorem c_197_138 : mj_code 197 138 = some (.goto (-66), 141, 72, 0, 0) := rfl
theorem c_197_141 : mj_code 197 141 = some (.iinc 2 1, 144, 0, 0, 0) := rfl
theorem c_197_144 : mj_code 197 144 = some (.goto (-113), 147, 31, 0, 0) := rfl
theorem c_197_147 : mj_code 197 147 = some (.iinc 1 1, 150, 0, 0, 0) := rfl
theorem c_197_150 : mj_code 197 150 = some (.goto (-148), 153, 2, 0, 0) := rfl
theorem c_197_153 : mj_code 197 153 = some (.iconst 1, 154, 0, 0, 0) := rfl
theorem c_197_154 : mj_code 197 154 = some (.ireturn, 155, 0, 0, 0) := rfl
theorem c_198_0 : mj_code 198 0 = some (.lconst 0, 1, 0, 0, 0) := rfl
theorem c_198_1 : mj_code 198 1 = some (.lstore_n 1, 2, 0, 0, 0) := rfl
theorem c_198_2 : mj_code 198 2 = some (.aload_n 0, 3, 0, 0, 0) := rfl
theorem c_198_3 : mj_code 198 3 = some (.getfield 7, 6, 12, 0, 1052) := rfl
theorem c_198_6 : mj_code 198 6 = some (.iconst 3, 7, 0, 0, 0) := rfl
theorem c_198_7 : mj_code 198 7 = some (.invokestatic 88, 10, 140, 1, 1155) := rfl
theorem c_198_10 : mj_code 198 10 = some (.iconst 1, 11, 0, 0, 0) := rfl
theorem c_198_11 : mj_code 198 11 = some (.isub, 12, 0, 0, 0) := rfl
theorem c_198_12 : mj_code 198 12 = some (.istore_n 3, 13, 0, 0, 0) := rfl
theorem c_198_13 : mj_code 198 13 = some (.iload_n 3, 14, 0, 0, 0) := rfl
theorem c_198_14 : mj_code 198 14 = some (.ifCond .lt 25, 17, 39, 0, 0) := rfl
theorem c_198_17 : mj_code 198 17 = some (.lload_n 1, 18, 0, 0, 0) := rfl
theorem c_198_18 : mj_code 198 18 = some (.aload_n 0, 19, 0, 0, 0) := rfl
theorem c_198_19 : mj_code 198 19 = some (.getfield 7, 22, 12, 0, 1052) := rfl
theorem c_198_22 : mj_code 198 22 = some (.i2l, 23, 0, 0, 0) := rfl
theorem c_198_23 : mj_code 198 23 = some (.lmul, 24, 0, 0, 0) := rfl
theorem c_198_24 : mj_code 198 24 = some (.aload_n 0, 25, 0, 0, 0) := rfl
theorem c_198_25 : mj_code 198 25 = some (.getfield 60, 28, 12, 19, 1071) := rfl
theorem c_198_28 : mj_code 198 28 = some (.iload_n 3, 29, 0, 0, 0) := rfl
theorem c_198_29 : mj_code 198 29 = some (.iaload, 30, 0, 0, 0) := rfl
theorem c_198_30 : mj_code 198 30 = some (.i2l, 31, 0, 0, 0) := rfl
theorem c_198_31 : mj_code 198 31 = some (.ladd, 32, 0, 0, 0) := rfl
theorem c_198_32 : mj_code 198 32 = some (.lstore_n 1, 33, 0, 0, 0) := rfl
theorem c_198_33 : mj_code 198 33 = some (.iinc 3 (-1), 36, 0, 0, 0) := rfl
theorem c_198_36 : mj_code 198 36 = some (.goto (-23), 39, 13, 0, 0) := rfl
theorem c_198_39 : mj_code 198 39 = some (.lload_n 1, 40, 0, 0, 0) := rfl
theorem c_198_40 : mj_code 198 40 = some (.lreturn, 41, 0, 0, 0) := rfl
theorem c_199_0 : mj_code 199 0 = some (.iload_n 1, 1, 0, 0, 0) := rfl
theorem c_199_1 : mj_code 199 1 = some (.istore_n 2, 2, 0, 0, 0) := rfl
theorem c_199_2 : mj_code 199 2 = some (.iconst 0, 3, 0, 0, 0) := rfl
theorem c_199_3 : mj_code 199 3 = some (.istore_n 3, 4, 0, 0, 0) := rfl
theorem c_199_4 : mj_code 199 4 = some (.iload_n 3, 5, 0, 0, 0) := rfl
theorem c_199_5 : mj_code 199 5 = some (.aload_n 0, 6, 0, 0, 0) := rfl
theorem c_199_6 : mj_code 199 6 = some (.getfield 7, 9, 12, 0, 1052) := rfl
theorem c_199_9 : mj_code 199 9 = some (.iconst 3, 10, 0, 0, 0) := rfl
theorem c_199_10 : mj_code 199 10 = some (.invokestatic 88, 13, 140, 1, 1155) := rfl
theorem c_199_13 : mj_code 199 13 = some (.if_icmp .ge 98, 16, 111, 0, 0) := rfl
theorem c_199_16 : mj_code 199 16 = some (.aload_n 0, 17, 0, 0, 0) := rfl
theorem c_199_17 : mj_code 199 17 = some (.iload_n 3, 18, 0, 0, 0) := rfl
theorem c_199_18 : mj_code 199 18 = some (.iconst 3, 19, 0, 0, 0) := rfl
theorem c_199_19 : mj_code 199 19 = some (.iconst 0, 20, 0, 0, 0) := rfl
theorem c_199_20 : mj_code 199 20 = some (.invokevirtual 137, 23, 152, 0, 1224) := rfl
theorem c_199_23 : mj_code 199 23 = some (.istore 4, 25, 0, 0, 0) := rfl
theorem c_199_25 : mj_code 199 25 = some (.aload_n 0, 26, 0, 0, 0) := rfl
theorem c_199_26 : mj_code 199 26 = some (.iload_n 3, 27, 0, 0, 0) := rfl
theorem c_199_27 : mj_code 199 27 = some (.iconst 3, 28, 0, 0, 0) := rfl
theorem c_199_28 : mj_code 199 28 = some (.iconst 1, 29, 0, 0, 0) := rfl
theorem c_199_29 : mj_code 199 29 = some (.invokevirtual 137, 32, 152, 0, 1224) := rfl
theorem c_199_32 : mj_code 199 32 = some (.istore 5, 34, 0, 0, 0) := rfl
theorem c_199_34 : mj_code 199 34 = some (.aload_n 0, 35, 0, 0, 0) := rfl
theorem c_199_35 : mj_code 199 35 = some (.iload_n 3, 36, 0, 0, 0) := rfl
theorem c_199_36 : mj_code 199 36 = some (.iconst 3, 37, 0, 0, 0) := rfl
theorem c_199_37 : mj_code 199 37 = some (.iconst 2, 38, 0, 0, 0) := rfl
theorem c_199_38 : mj_code 199 38 = some (.invokevirtual 137, 41, 152, 0, 1224) := rfl
theorem c_199_41 : mj_code 199 41 = some (.istore 6, 43, 0, 0, 0) := rfl
theorem c_199_43 : mj_code 199 43 = some (.iload 4, 45, 0, 0, 0) := rfl
theorem c_199_45 : mj_code 199 45 = some (.iload 5, 47, 0, 0, 0) := rfl
theorem c_199_47 : mj_code 199 47 = some (.if_icmp .eq 10, 50, 57, 0, 0) := rfl
theorem c_199_50 : mj_code 199 50 = some (.iload 4, 52, 0, 0, 0) := rfl
theorem c_199_52 : mj_code 199 52 = some (.iload 6, 54, 0, 0, 0) := rfl
theorem c_199_54 : mj_code 199 54 = some (.if_icmp .ne 14, 57, 68, 0, 0) := rfl
theorem c_199_57 : mj_code 199 57 = some (.aload_n 0, 58, 0, 0, 0) := rfl
theorem c_199_58 : mj_code 199 58 = some (.getfield 60, 61, 12, 19, 1071) := rfl
theorem c_199_61 : mj_code 199 61 = some (.iload_n 3, 62, 0, 0, 0) := rfl
theorem c_199_62 : mj_code 199 62 = some (.iload 4, 64, 0, 0, 0) := rfl
theorem c_199_64 : mj_code 199 64 = some (.iastore, 65, 0, 0, 0) := rfl
theorem c_199_65 : mj_code 199 65 = some (.goto 40, 68, 105, 0, 0) := rfl
theorem c_199_68 : mj_code 199 68 = some (.iload 5, 70, 0, 0, 0) := rfl
theorem c_199_70 : mj_code 199 70 = some (.iload 6, 72, 0, 0, 0) := rfl
theorem c_199_72 : mj_code 199 72 = some (.if_icmp .ne 14, 75, 86, 0, 0) := rfl
theorem c_199_75 : mj_code 199 75 = some (.aload_n 0, 76, 0, 0, 0) := rfl
theorem c_199_76 : mj_code 199 76 = some (.getfield 60, 79, 12, 19, 1071) := rfl
theorem c_199_79 : mj_code 199 79 = some (.iload_n 3, 80, 0, 0, 0) := rfl
theorem c_199_80 : mj_code 199 80 = some (.iload 5, 82, 0, 0, 0) := rfl
theorem c_199_82 : mj_code 199 82 = some (.iastore, 83, 0, 0, 0) := rfl
theorem c_199_83 : mj_code 199 83 = some (.goto 22, 86, 105, 0, 0) := rfl
theorem c_199_86 : mj_code 199 86 = some (.aload_n 0, 87, 0, 0, 0) := rfl
theorem c_199_87 : mj_code 199 87 = some (.getfield 60, 90, 12, 19, 1071) := rfl
theorem c_199_90 : mj_code 199 90 = some (.iload_n 3, 91, 0, 0, 0) := rfl
theorem c_199_91 : mj_code 199 91 = some (.iload_n 2, 92, 0, 0, 0) := rfl
theorem c_199_92 : mj_code 199 92 = some (.aload_n 0, 93, 0, 0, 0) := rfl
theorem c_199_93 : mj_code 199 93 = some (.getfield 7, 96, 12, 0, 1052) := rfl
theorem c_199_96 : mj_code 199 96 = some (.irem, 97, 0, 0, 0) := rfl
theorem c_199_97 : mj_code 199 97 = some (.iastore, 98, 0, 0, 0) := rfl
theorem c_199_98 : mj_code 199 98 = some (.iload_n 2, 99, 0, 0, 0) := rfl
theorem c_199_99 : mj_code 199 99 = some (.aload_n 0, 100, 0, 0, 0) := rfl
theorem c_199_100 : mj_code 199 100 = some (.getfield 7, 103, 12, 0, 1052) := rfl
theorem c_199_103 : mj_code 199 103 = some (.idiv, 104, 0, 0, 0) := rfl
theorem c_199_104 : mj_code 199 104 = some (.istore_n 2, 105, 0, 0, 0) := rfl
theorem c_199_105 : mj_code 199 105 = some (.iinc 3 1, 108, 0, 0, 0) := rfl
theorem c_199_108 : mj_code 199 108 = some (.goto (-104), 111, 4, 0, 0) := rfl
theorem c_199_111 : mj_code 199 111 = some (.return_, 112, 0, 0, 0) := rfl
theorem c_200_0 : mj_code 200 0 = some (.aload_n 0, 1, 0, 0, 0) := rfl
theorem c_200_1 : mj_code 200 1 = some (.invokevirtual 203, 4, 196, 0, 1359) := rfl
theorem c_200_4 : mj_code 200 4 = some (.istore_n 2, 5, 0, 0, 0) := rfl
theorem c_200_5 : mj_code 200 5 = some (.iload_n 1, 6, 0, 0, 0) := rfl
theorem c_200_6 : mj_code 200 6 = some (.tableswitch 213 0 2 #[26, 84, 134], 32, 0, 0, 0) := rfl
theorem c_200_32 : mj_code 200 32 = some (.iconst 0, 33, 0, 0, 0) := rfl
theorem c_200_33 : mj_code 200 33 = some (.istore_n 3, 34, 0, 0, 0) := rfl
theorem c_200_34 : mj_code 200 34 = some (.iload_n 3, 35, 0, 0, 0) := rfl
theorem c_200_35 : mj_code 200 35 = some (.aload_n 0, 36, 0, 0, 0) := rfl
theorem c_200_36 : mj_code 200 36 = some (.getfield 7, 39, 12, 0, 1052) := rfl
theorem c_200_39 : mj_code 200 39 = some (.aload_n 0, 40, 0, 0, 0) := rfl
theorem c_200_40 : mj_code 200 40 = some (.iconst 2, 41, 0, 0, 0) := rfl
theorem c_200_41 : mj_code 200 41 = some (.invokevirtual 133, 44, 162, 0, 1220) := rfl
theorem c_200_44 : mj_code 200 44 = some (.invokestatic 88, 47, 140, 1, 1155) := rfl
theorem c_200_47 : mj_code 200 47 = some (.if_icmp .ge 39, 50, 86, 0, 0) := rfl
theorem c_200_50 : mj_code 200 50 = some (.aload_n 0, 51, 0, 0, 0) := rfl
theorem c_200_51 : mj_code 200 51 = some (.iload_n 3, 52, 0, 0, 0) := rfl
theorem c_200_52 : mj_code 200 52 = some (.i2l, 53, 0, 0, 0) := rfl
theorem c_200_53 : mj_code 200 53 = some (.aload_n 0, 54, 0, 0, 0) := rfl
theorem c_200_54 : mj_code 200 54 = some (.iconst 2, 55, 0, 0, 0) := rfl
theorem c_200_55 : mj_code 200 55 = some (.invokevirtual 133, 58, 162, 0, 1220) := rfl
theorem c_200_58 : mj_code 200 58 = some (.invokevirtual 162, 61, 171, 0, 1262) := rfl
theorem c_200_61 : mj_code 200 61 = some (.aload_n 0, 62, 0, 0, 0) := rfl
theorem c_200_62 : mj_code 200 62 = some (.invokevirtual 207, 65, 197, 0, 1363) := rfl
theorem c_200_65 : mj_code 200 65 = some (.ifCond .eq 15, 68, 80, 0, 0) := rfl
theorem c_200_68 : mj_code 200 68 = some (.aload_n 0, 69, 0, 0, 0) := rfl
theorem c_200_69 : mj_code 200 69 = some (.iconst 2, 70, 0, 0, 0) := rfl
theorem c_200_70 : mj_code 200 70 = some (.iload_n 2, 71, 0, 0, 0) := rfl
theorem c_200_71 : mj_code 200 71 = some (.invokevirtual 166, 74, 172, 0, 1266) := rfl
theorem c_200_74 : mj_code 200 74 = some (.ifCond .eq 6, 77, 80, 0, 0) := rfl
theorem c_200_77 : mj_code 200 77 = some (.iload_n 3, 78, 0, 0, 0) := rfl
theorem c_200_78 : mj_code 200 78 = some (.i2l, 79, 0, 0, 0) := rfl
theorem c_200_79 : mj_code 200 79 = some (.lreturn, 80, 0, 0, 0) := rfl
theorem c_200_80 : mj_code 200 80 = some (.iinc 3 1, 83, 0, 0, 0) := rfl
theorem c_200_83 : mj_code 200 83 = some (.goto (-49), 86, 34, 0, 0) := rfl
theorem c_200_86 : mj_code 200 86 = some (.ldc2_w 211, 89, 18446744073709551609, 0, 1367) := rfl
theorem c_200_89 : mj_code 200 89 = some (.lreturn, 90, 0, 0, 0) := rfl
theorem c_200_90 : mj_code 200 90 = some (.iconst 0, 91, 0, 0, 0) := rfl
theorem c_200_91 : mj_code 200 91 = some (.istore_n 3, 92, 0, 0, 0) := rfl
theorem c_200_92 : mj_code 200 92 = some (.iload_n 3, 93, 0, 0, 0) := rfl
theorem c_200_93 : mj_code 200 93 = some (.aload_n 0, 94, 0, 0, 0) := rfl
theorem c_200_94 : mj_code 200 94 = some (.getfield 7, 97, 12, 0, 1052) := rfl
theorem c_200_97 : mj_code 200 97 = some (.iconst 2, 98, 0, 0, 0) := rfl
theorem c_200_98 : mj_code 200 98 = some (.if_icmp .ne 7, 101, 105, 0, 0) := rfl
theorem c_200_101 : mj_code 200 101 = some (.iconst 1, 102, 0, 0, 0) := rfl
theorem c_200_102 : mj_code 200 102 = some (.goto 6, 105, 108, 0, 0) := rfl
theorem c_200_105 : mj_code 200 105 = some (.sipush 729, 108, 0, 0, 0) := rfl
theorem c_200_108 : mj_code 200 108 = some (.if_icmp .ge 28, 111, 136, 0, 0) := rfl
theorem c_200_111 : mj_code 200 111 = some (.aload_n 0, 112, 0, 0, 0) := rfl
theorem c_200_112 : mj_code 200 112 = some (.iload_n 3, 113, 0, 0, 0) := rfl
theorem c_200_113 : mj_code 200 113 = some (.invokevirtual 213, 116, 199, 0, 1368) := rfl
theorem c_200_116 : mj_code 200 116 = some (.aload_n 0, 117, 0, 0, 0) := rfl
theorem c_200_117 : mj_code 200 117 = some (.iconst 3, 118, 0, 0, 0) := rfl
theorem c_200_118 : mj_code 200 118 = some (.iload_n 2, 119, 0, 0, 0) := rfl
theorem c_200_119 : mj_code 200 119 = some (.invokevirtual 166, 122, 172, 0, 1266) := rfl
theorem c_200_122 : mj_code 200 122 = some (.ifCond .eq 8, 125, 130, 0, 0) := rfl
theorem c_200_125 : mj_code 200 125 = some (.aload_n 0, 126, 0, 0, 0) := rfl
theorem c_200_126 : mj_code 200 126 = some (.invokevirtual 216, 129, 198, 0, 1372) := rfl
theorem c_200_129 : mj_code 200 129 = some (.lreturn, 130, 0, 0, 0) := rfl
theorem c_200_130 : mj_code 200 130 = some (.iinc 3 1, 133, 0, 0, 0) := rfl
theorem c_200_133 : mj_code 200 133 = some (.goto (-41), 136, 92, 0, 0) := rfl
theorem c_200_136 : mj_code 200 136 = some (.ldc2_w 211, 139, 18446744073709551609, 0, 1367) := rfl
theorem c_200_139 : mj_code 200 139 = some (.lreturn, 140, 0, 0, 0) := rfl
theorem c_200_140 : mj_code 200 140 = some (.iconst 0, 141, 0, 0, 0) := rfl
theorem c_200_141 : mj_code 200 141 = some (.istore_n 3, 142, 0, 0, 0) := rfl
theorem c_200_142 : mj_code 200 142 = some (.iload_n 3, 143, 0, 0, 0) := rfl
theorem c_200_143 : mj_code 200 143 = some (.aload_n 0, 144, 0, 0, 0) := rfl
theorem c_200_144 : mj_code 200 144 = some (.getfield 7, 147, 12, 0, 1052) := rfl
theorem c_200_147 : mj_code 200 147 = some (.iconst 3, 148, 0, 0, 0) := rfl
theorem c_200_148 : mj_code 200 148 = some (.invokestatic 88, 151, 140, 1, 1155) := rfl
theorem c_200_151 : mj_code 200 151 = some (.if_icmp .ge 48, 154, 199, 0, 0) := rfl
theorem c_200_154 : mj_code 200 154 = some (.aload_n 0, 155, 0, 0, 0) := rfl
theorem c_200_155 : mj_code 200 155 = some (.getfield 60, 158, 12, 19, 1071) := rfl
theorem c_200_158 : mj_code 200 158 = some (.iload_n 3, 159, 0, 0, 0) := rfl
theorem c_200_159 : mj_code 200 159 = some (.aload_n 0, 160, 0, 0, 0) := rfl
theorem c_200_160 : mj_code 200 160 = some (.iload_n 3, 161, 0, 0, 0) := rfl
theorem c_200_161 : mj_code 200 161 = some (.iconst 3, 162, 0, 0, 0) := rfl
theorem c_200_162 : mj_code 200 162 = some (.iconst 0, 163, 0, 0, 0) := rfl
theorem c_200_163 : mj_code 200 163 = some (.invokevirtual 137, 166, 152, 0, 1224) := rfl
theorem c_200_166 : mj_code 200 166 = some (.aload_n 0, 167, 0, 0, 0) := rfl
theorem c_200_167 : mj_code 200 167 = some (.getfield 7, 170, 12, 0, 1052) := rfl
theorem c_200_170 : mj_code 200 170 = some (.iadd, 171, 0, 0, 0) := rfl
theorem c_200_171 : mj_code 200 171 = some (.aload_n 0, 172, 0, 0, 0) := rfl
theorem c_200_172 : mj_code 200 172 = some (.iload_n 3, 173, 0, 0, 0) := rfl
theorem c_200_173 : mj_code 200 173 = some (.iconst 3, 174, 0, 0, 0) := rfl
theorem c_200_174 : mj_code 200 174 = some (.iconst 1, 175, 0, 0, 0) := rfl
theorem c_200_175 : mj_code 200 175 = some (.invokevirtual 137, 178, 152, 0, 1224) := rfl
theorem c_200_178 : mj_code 200 178 = some (.isub, 179, 0, 0, 0) := rfl
theorem c_200_179 : mj_code 200 179 = some (.aload_n 0, 180, 0, 0, 0) := rfl
theorem c_200_180 : mj_code 200 180 = some (.iload_n 3, 181, 0, 0, 0) := rfl
theorem c_200_181 : mj_code 200 181 = some (.iconst 3, 182, 0, 0, 0) := rfl
theorem c_200_182 : mj_code 200 182 = some (.iconst 2, 183, 0, 0, 0) := rfl
theorem c_200_183 : mj_code 200 183 = some (.invokevirtual 137, 186, 152, 0, 1224) := rfl
theorem c_200_186 : mj_code 200 186 = some (.iadd, 187, 0, 0, 0) := rfl
theorem c_200_187 : mj_code 200 187 = some (.aload_n 0, 188, 0, 0, 0) := rfl
theorem c_200_188 : mj_code 200 188 = some (.getfield 7, 191, 12, 0, 1052) := rfl
theorem c_200_191 : mj_code 200 191 = some (.irem, 192, 0, 0, 0) := rfl
theorem c_200_192 : mj_code 200 192 = some (.iastore, 193, 0, 0, 0) := rfl
theorem c_200_193 : mj_code 200 193 = some (.iinc 3 1, 196, 0, 0, 0) := rfl
theorem c_200_196 : mj_code 200 196 = some (.goto (-54), 199, 142, 0, 0) := rfl
theorem c_200_199 : mj_code 200 199 = some (.aload_n 0, 200, 0, 0, 0) := rfl
theorem c_200_200 : mj_code 200 200 = some (.iconst 3, 201, 0, 0, 0) := rfl
theorem c_200_201 : mj_code 200 201 = some (.iload_n 2, 202, 0, 0, 0) := rfl
theorem c_200_202 : mj_code 200 202 = some (.invokevirtual 166, 205, 172, 0, 1266) := rfl
theorem c_200_205 : mj_code 200 205 = some (.ifCond .eq 10, 208, 215, 0, 0) := rfl
theorem c_200_208 : mj_code 200 208 = some (.aload_n 0, 209, 0, 0, 0) := rfl
theorem c_200_209 : mj_code 200 209 = some (.invokevirtual 216, 212, 198, 0, 1372) := rfl
theorem c_200_212 : mj_code 200 212 = some (.goto 6, 215, 218, 0, 0) := rfl
theorem c_200_215 : mj_code 200 215 = some (.ldc2_w 211, 218, 18446744073709551609, 0, 1367) := rfl
theorem c_200_218 : mj_code 200 218 = some (.lreturn, 219, 0, 0, 0) := rfl
theorem c_200_219 : mj_code 200 219 = some (.ldc2_w 98, 222, 18446744073709551615, 0, 1175) := rfl
theorem c_200_222 : mj_code 200 222 = some (.lreturn, 223, 0, 0, 0) := rfl
theorem c_201_0 : mj_code 201 0 = some (.iload_n 1, 1, 0, 0, 0) := rfl
theorem c_201_1 : mj_code 201 1 = some (.tableswitch 99 0 5 #[39, 44, 49, 54, 59, 64], 40, 0, 0, 0) := rfl
theorem c_201_40 : mj_code 201 40 = some (.aload_n 0, 41, 0, 0, 0) := rfl
theorem c_201_41 : mj_code 201 41 = some (.getfield 7, 44, 12, 0, 1052) := rfl
theorem c_201_44 : mj_code 201 44 = some (.ireturn, 45, 0, 0, 0) := rfl
theorem c_201_45 : mj_code 201 45 = some (.aload_n 0, 46, 0, 0, 0) := rfl
theorem c_201_46 : mj_code 201 46 = some (.getfield 72, 49, 12, 4, 1056) := rfl
theorem c_201_49 : mj_code 201 49 = some (.ireturn, 50, 0, 0, 0) := rfl
theorem c_201_50 : mj_code 201 50 = some (.aload_n 0, 51, 0, 0, 0) := rfl
theorem c_201_51 : mj_code 201 51 = some (.getfield 75, 54, 12, 7, 1059) := rfl
theorem c_201_54 : mj_code 201 54 = some (.ireturn, 55, 0, 0, 0) := rfl
theorem c_201_55 : mj_code 201 55 = some (.aload_n 0, 56, 0, 0, 0) := rfl
theorem c_201_56 : mj_code 201 56 = some (.getfield 36, 59, 12, 10, 1062) := rfl
theorem c_201_59 : mj_code 201 59 = some (.ireturn, 60, 0, 0, 0) := rfl
theorem c_201_60 : mj_code 201 60 = some (.aload_n 0, 61, 0, 0, 0) := rfl
theorem c_201_61 : mj_code 201 61 = some (.getfield 78, 64, 12, 11, 1063) := rfl
theorem c_201_64 : mj_code 201 64 = some (.ireturn, 65, 0, 0, 0) := rfl
theorem c_201_65 : mj_code 201 65 = some (.iconst 0, 66, 0, 0, 0) := rfl
theorem c_201_66 : mj_code 201 66 = some (.istore_n 2, 67, 0, 0, 0) := rfl
theorem c_201_67 : mj_code 201 67 = some (.iconst 0, 68, 0, 0, 0) := rfl
theorem c_201_68 : mj_code 201 68 = some (.istore_n 3, 69, 0, 0, 0) := rfl
theorem c_201_69 : mj_code 201 69 = some (.iload_n 3, 70, 0, 0, 0) := rfl
theorem c_201_70 : mj_code 201 70 = some (.bipush 8, 72, 0, 0, 0) := rfl
theorem c_201_72 : mj_code 201 72 = some (.if_icmp .ge 26, 75, 98, 0, 0) := rfl
theorem c_201_75 : mj_code 201 75 = some (.iload_n 2, 76, 0, 0, 0) := rfl
theorem c_201_76 : mj_code 201 76 = some (.aload_n 0, 77, 0, 0, 0) := rfl
theorem c_201_77 : mj_code 201 77 = some (.getfield 13, 80, 12, 1, 1053) := rfl
theorem c_201_80 : mj_code 201 80 = some (.iload_n 3, 81, 0, 0, 0) := rfl
theorem c_201_81 : mj_code 201 81 = some (.iaload, 82, 0, 0, 0) := rfl
theorem c_201_82 : mj_code 201 82 = some (.ifCond .ne 7, 85, 89, 0, 0) := rfl
theorem c_201_85 : mj_code 201 85 = some (.iconst 0, 86, 0, 0, 0) := rfl
theorem c_201_86 : mj_code 201 86 = some (.goto 4, 89, 90, 0, 0) := rfl
theorem c_201_89 : mj_code 201 89 = some (.iconst 1, 90, 0, 0, 0) := rfl
theorem c_201_90 : mj_code 201 90 = some (.iadd, 91, 0, 0, 0) := rfl
theorem c_201_91 : mj_code 201 91 = some (.istore_n 2, 92, 0, 0, 0) := rfl
theorem c_201_92 : mj_code 201 92 = some (.iinc 3 1, 95, 0, 0, 0) := rfl
theorem c_201_95 : mj_code 201 95 = some (.goto (-26), 98, 69, 0, 0) := rfl
theorem c_201_98 : mj_code 201 98 = some (.iload_n 2, 99, 0, 0, 0) := rfl
theorem c_201_99 : mj_code 201 99 = some (.ireturn, 100, 0, 0, 0) := rfl
theorem c_201_100 : mj_code 201 100 = some (.iconst (-1), 101, 0, 0, 0) := rfl
theorem c_201_101 : mj_code 201 101 = some (.ireturn, 102, 0, 0, 0) := rfl
theorem c_202_0 : mj_code 202 0 = some (.iload_n 0, 1, 0, 0, 0) := rfl
theorem c_202_1 : mj_code 202 1 = some (.iload_n 0, 2, 0, 0, 0) := rfl
theorem c_202_2 : mj_code 202 2 = some (.iconst 1, 3, 0, 0, 0) := rfl
theorem c_202_3 : mj_code 202 3 = some (.iushr, 4, 0, 0, 0) := rfl
theorem c_202_4 : mj_code 202 4 = some (.ldc_w 265, 7, 1431655765, 0, 701) := rfl
theorem c_202_7 : mj_code 202 7 = some (.iand, 8, 0, 0, 0) := rfl
theorem c_202_8 : mj_code 202 8 = some (.isub, 9, 0, 0, 0) := rfl
theorem c_202_9 : mj_code 202 9 = some (.istore_n 0, 10, 0, 0, 0) := rfl
theorem c_202_10 : mj_code 202 10 = some (.iload_n 0, 11, 0, 0, 0) := rfl
theorem c_202_11 : mj_code 202 11 = some (.ldc_w 266, 14, 858993459, 0, 702) := rfl
theorem c_202_14 : mj_code 202 14 = some (.iand, 15, 0, 0, 0) := rfl
theorem c_202_15 : mj_code 202 15 = some (.iload_n 0, 16, 0, 0, 0) := rfl
theorem c_202_16 : mj_code 202 16 = some (.iconst 2, 17, 0, 0, 0) := rfl
theorem c_202_17 : mj_code 202 17 = some (.iushr, 18, 0, 0, 0) := rfl
theorem c_202_18 : mj_code 202 18 = some (.ldc_w 266, 21, 858993459, 0, 702) := rfl
theorem c_202_21 : mj_code 202 21 = some (.iand, 22, 0, 0, 0) := rfl
theorem c_202_22 : mj_code 202 22 = some (.iadd, 23, 0, 0, 0) := rfl
theorem c_202_23 : mj_code 202 23 = some (.istore_n 0, 24, 0, 0, 0) := rfl
theorem c_202_24 : mj_code 202 24 = some (.iload_n 0, 25, 0, 0, 0) := rfl
theorem c_202_25 : mj_code 202 25 = some (.iload_n 0, 26, 0, 0, 0) := rfl
theorem c_202_26 : mj_code 202 26 = some (.iconst 4, 27, 0, 0, 0) := rfl
theorem c_202_27 : mj_code 202 27 = some (.iushr, 28, 0, 0, 0) := rfl
theorem c_202_28 : mj_code 202 28 = some (.iadd, 29, 0, 0, 0) := rfl
theorem c_202_29 : mj_code 202 29 = some (.ldc_w 267, 32, 252645135, 0, 703) := rfl
theorem c_202_32 : mj_code 202 32 = some (.iand, 33, 0, 0, 0) := rfl
theorem c_202_33 : mj_code 202 33 = some (.istore_n 0, 34, 0, 0, 0) := rfl
theorem c_202_34 : mj_code 202 34 = some (.iload_n 0, 35, 0, 0, 0) := rfl
theorem c_202_35 : mj_code 202 35 = some (.iload_n 0, 36, 0, 0, 0) := rfl
theorem c_202_36 : mj_code 202 36 = some (.bipush 8, 38, 0, 0, 0) := rfl
theorem c_202_38 : mj_code 202 38 = some (.iushr, 39, 0, 0, 0) := rfl
theorem c_202_39 : mj_code 202 39 = some (.iadd, 40, 0, 0, 0) := rfl
theorem c_202_40 : mj_code 202 40 = some (.istore_n 0, 41, 0, 0, 0) := rfl
theorem c_202_41 : mj_code 202 41 = some (.iload_n 0, 42, 0, 0, 0) := rfl
theorem c_202_42 : mj_code 202 42 = some (.iload_n 0, 43, 0, 0, 0) := rfl
theorem c_202_43 : mj_code 202 43 = some (.bipush 16, 45, 0, 0, 0) := rfl
theorem c_202_45 : mj_code 202 45 = some (.iushr, 46, 0, 0, 0) := rfl
theorem c_202_46 : mj_code 202 46 = some (.iadd, 47, 0, 0, 0) := rfl
theorem c_202_47 : mj_code 202 47 = some (.istore_n 0, 48, 0, 0, 0) := rfl
theorem c_202_48 : mj_code 202 48 = some (.iload_n 0, 49, 0, 0, 0) := rfl
theorem c_202_49 : mj_code 202 49 = some (.bipush 63, 51, 0, 0, 0) := rfl
theorem c_202_51 : mj_code 202 51 = some (.iand, 52, 0, 0, 0) := rfl
theorem c_202_52 : mj_code 202 52 = some (.ireturn, 53, 0, 0, 0) := rfl
theorem c_203_0 : mj_code 203 0 = some (.lload_n 0, 1, 0, 0, 0) := rfl
theorem c_203_1 : mj_code 203 1 = some (.lload_n 0, 2, 0, 0, 0) := rfl
theorem c_203_2 : mj_code 203 2 = some (.iconst 1, 3, 0, 0, 0) := rfl
theorem c_203_3 : mj_code 203 3 = some (.lushr, 4, 0, 0, 0) := rfl
theorem c_203_4 : mj_code 203 4 = some (.ldc2_w 314, 7, 6148914691236517205, 0, 874) := rfl
theorem c_203_7 : mj_code 203 7 = some (.land, 8, 0, 0, 0) := rfl
theorem c_203_8 : mj_code 203 8 = some (.lsub, 9, 0, 0, 0) := rfl
theorem c_203_9 : mj_code 203 9 = some (.lstore_n 0, 10, 0, 0, 0) := rfl
theorem c_203_10 : mj_code 203 10 = some (.lload_n 0, 11, 0, 0, 0) := rfl
theorem c_203_11 : mj_code 203 11 = some (.ldc2_w 316, 14, 3689348814741910323, 0, 875) := rfl
theorem c_203_14 : mj_code 203 14 = some (.land, 15, 0, 0, 0) := rfl
theorem c_203_15 : mj_code 203 15 = some (.lload_n 0, 16, 0, 0, 0) := rfl
theorem c_203_16 : mj_code 203 16 = some (.iconst 2, 17, 0, 0, 0) := rfl
theorem c_203_17 : mj_code 203 17 = some (.lushr, 18, 0, 0, 0) := rfl
theorem c_203_18 : mj_code 203 18 = some (.ldc2_w 316, 21, 3689348814741910323, 0, 875) := rfl
theorem c_203_21 : mj_code 203 21 = some (.land, 22, 0, 0, 0) := rfl
theorem c_203_22 : mj_code 203 22 = some (.ladd, 23, 0, 0, 0) := rfl
theorem c_203_23 : mj_code 203 23 = some (.lstore_n 0, 24, 0, 0, 0) := rfl
theorem c_203_24 : mj_code 203 24 = some (.lload_n 0, 25, 0, 0, 0) := rfl
theorem c_203_25 : mj_code 203 25 = some (.lload_n 0, 26, 0, 0, 0) := rfl
theorem c_203_26 : mj_code 203 26 = some (.iconst 4, 27, 0, 0, 0) := rfl
theorem c_203_27 : mj_code 203 27 = some (.lushr, 28, 0, 0, 0) := rfl
theorem c_203_28 : mj_code 203 28 = some (.ladd, 29, 0, 0, 0) := rfl
theorem c_203_29 : mj_code 203 29 = some (.ldc2_w 318, 32, 1085102592571150095, 0, 876) := rfl
theorem c_203_32 : mj_code 203 32 = some (.land, 33, 0, 0, 0) := rfl
theorem c_203_33 : mj_code 203 33 = some (.lstore_n 0, 34, 0, 0, 0) := rfl
theorem c_203_34 : mj_code 203 34 = some (.lload_n 0, 35, 0, 0, 0) := rfl
theorem c_203_35 : mj_code 203 35 = some (.lload_n 0, 36, 0, 0, 0) := rfl
theorem c_203_36 : mj_code 203 36 = some (.bipush 8, 38, 0, 0, 0) := rfl
theorem c_203_38 : mj_code 203 38 = some (.lushr, 39, 0, 0, 0) := rfl
theorem c_203_39 : mj_code 203 39 = some (.ladd, 40, 0, 0, 0) := rfl
theorem c_203_40 : mj_code 203 40 = some (.lstore_n 0, 41, 0, 0, 0) := rfl
theorem c_203_41 : mj_code 203 41 = some (.lload_n 0, 42, 0, 0, 0) := rfl
theorem c_203_42 : mj_code 203 42 = some (.lload_n 0, 43, 0, 0, 0) := rfl
theorem c_203_43 : mj_code 203 43 = some (.bipush 16, 45, 0, 0, 0) := rfl
theorem c_203_45 : mj_code 203 45 = some (.lushr, 46, 0, 0, 0) := rfl
theorem c_203_46 : mj_code 203 46 = some (.ladd, 47, 0, 0, 0) := rfl
theorem c_203_47 : mj_code 203 47 = some (.lstore_n 0, 48, 0, 0, 0) := rfl
theorem c_203_48 : mj_code 203 48 = some (.lload_n 0, 49, 0, 0, 0) := rfl
theorem c_203_49 : mj_code 203 49 = some (.lload_n 0, 50, 0, 0, 0) := rfl
theorem c_203_50 : mj_code 203 50 = some (.bipush 32, 52, 0, 0, 0) := rfl
theorem c_203_52 : mj_code 203 52 = some (.lushr, 53, 0, 0, 0) := rfl
theorem c_203_53 : mj_code 203 53 = some (.ladd, 54, 0, 0, 0) := rfl
theorem c_203_54 : mj_code 203 54 = some (.lstore_n 0, 55, 0, 0, 0) := rfl
theorem c_203_55 : mj_code 203 55 = some (.lload_n 0, 56, 0, 0, 0) := rfl
theorem c_203_56 : mj_code 203 56 = some (.l2i, 57, 0, 0, 0) := rfl
theorem c_203_57 : mj_code 203 57 = some (.bipush 127, 59, 0, 0, 0) := rfl
theorem c_203_59 : mj_code 203 59 = some (.iand, 60, 0, 0, 0) := rfl
theorem c_203_60 : mj_code 203 60 = some (.ireturn, 61, 0, 0, 0) := rfl
theorem c_204_0 : mj_code 204 0 = some (.iload_n 0, 1, 0, 0, 0) := rfl
theorem c_204_1 : mj_code 204 1 = some (.iload_n 1, 2, 0, 0, 0) := rfl
theorem c_204_2 : mj_code 204 2 = some (.irem, 3, 0, 0, 0) := rfl
theorem c_204_3 : mj_code 204 3 = some (.istore_n 2, 4, 0, 0, 0) := rfl
theorem c_204_4 : mj_code 204 4 = some (.iload_n 0, 5, 0, 0, 0) := rfl
theorem c_204_5 : mj_code 204 5 = some (.iload_n 1, 6, 0, 0, 0) := rfl
theorem c_204_6 : mj_code 204 6 = some (.ixor, 7, 0, 0, 0) := rfl
theorem c_204_7 : mj_code 204 7 = some (.ifCond .ge 11, 10, 18, 0, 0) := rfl
theorem c_204_10 : mj_code 204 10 = some (.iload_n 2, 11, 0, 0, 0) := rfl
theorem c_204_11 : mj_code 204 11 = some (.ifCond .eq 7, 14, 18, 0, 0) := rfl
theorem c_204_14 : mj_code 204 14 = some (.iload_n 2, 15, 0, 0, 0) := rfl
theorem c_204_15 : mj_code 204 15 = some (.iload_n 1, 16, 0, 0, 0) := rfl
theorem c_204_16 : mj_code 204 16 = some (.iadd, 17, 0, 0, 0) := rfl
theorem c_204_17 : mj_code 204 17 = some (.ireturn, 18, 0, 0, 0) := rfl
theorem c_204_18 : mj_code 204 18 = some (.iload_n 2, 19, 0, 0, 0) := rfl
theorem c_204_19 : mj_code 204 19 = some (.ireturn, 20, 0, 0, 0) := rfl
theorem c_205_0 : mj_code 205 0 = some (.iload_n 0, 1, 0, 0, 0) := rfl
theorem c_205_1 : mj_code 205 1 = some (.iload_n 1, 2, 0, 0, 0) := rfl
theorem c_205_2 : mj_code 205 2 = some (.if_icmp .lt 7, 5, 9, 0, 0) := rfl
theorem c_205_5 : mj_code 205 5 = some (.iload_n 0, 6, 0, 0, 0) := rfl
theorem c_205_6 : mj_code 205 6 = some (.goto 4, 9, 10, 0, 0) := rfl
theorem c_205_9 : mj_code 205 9 = some (.iload_n 1, 10, 0, 0, 0) := rfl
theorem c_205_10 : mj_code 205 10 = some (.ireturn, 11, 0, 0, 0) := rfl
theorem c_206_0 : mj_code 206 0 = some (.iload_n 0, 1, 0, 0, 0) := rfl
theorem c_206_1 : mj_code 206 1 = some (.iload_n 1, 2, 0, 0, 0) := rfl
theorem c_206_2 : mj_code 206 2 = some (.if_icmp .gt 7, 5, 9, 0, 0) := rfl
theorem c_206_5 : mj_code 206 5 = some (.iload_n 0, 6, 0, 0, 0) := rfl
theorem c_206_6 : mj_code 206 6 = some (.goto 4, 9, 10, 0, 0) := rfl
theorem c_206_9 : mj_code 206 9 = some (.iload_n 1, 10, 0, 0, 0) := rfl
theorem c_206_10 : mj_code 206 10 = some (.ireturn, 11, 0, 0, 0) := rfl
theorem c_207_0 : mj_code 207 0 = some (.iconst 0, 1, 0, 0, 0) := rfl
theorem c_207_1 : mj_code 207 1 = some (.istore_n 3, 2, 0, 0, 0) := rfl
theorem c_207_2 : mj_code 207 2 = some (.aload_n 0, 3, 0, 0, 0) := rfl
theorem c_207_3 : mj_code 207 3 = some (.arraylength, 4, 0, 0, 0) := rfl
theorem c_207_4 : mj_code 207 4 = some (.istore 4, 6, 0, 0, 0) := rfl
theorem c_207_6 : mj_code 207 6 = some (.iload_n 3, 7, 0, 0, 0) := rfl
theorem c_207_7 : mj_code 207 7 = some (.iload 4, 9, 0, 0, 0) := rfl
theorem c_207_9 : mj_code 207 9 = some (.if_icmp .ge 13, 12, 22, 0, 0) := rfl
theorem c_207_12 : mj_code 207 12 = some (.aload_n 0, 13, 0, 0, 0) := rfl
theorem c_207_13 : mj_code 207 13 = some (.iload_n 3, 14, 0, 0, 0) := rfl
theorem c_207_14 : mj_code 207 14 = some (.lload_n 1, 15, 0, 0, 0) := rfl
theorem c_207_15 : mj_code 207 15 = some (.lastore, 16, 0, 0, 0) := rfl
theorem c_207_16 : mj_code 207 16 = some (.iinc 3 1, 19, 0, 0, 0) := rfl
theorem c_207_19 : mj_code 207 19 = some (.goto (-13), 22, 6, 0, 0) := rfl
theorem c_207_22 : mj_code 207 22 = some (.return_, 23, 0, 0, 0) := rfl
theorem c_208_0 : mj_code 208 0 = some (.iconst 0, 1, 0, 0, 0) := rfl
theorem c_208_1 : mj_code 208 1 = some (.istore_n 2, 2, 0, 0, 0) := rfl
theorem c_208_2 : mj_code 208 2 = some (.aload_n 0, 3, 0, 0, 0) := rfl
theorem c_208_3 : mj_code 208 3 = some (.arraylength, 4, 0, 0, 0) := rfl
theorem c_208_4 : mj_code 208 4 = some (.istore_n 3, 5, 0, 0, 0) := rfl
theorem c_208_5 : mj_code 208 5 = some (.iload_n 2, 6, 0, 0, 0) := rfl
theorem c_208_6 : mj_code 208 6 = some (.iload_n 3, 7, 0, 0, 0) := rfl
theorem c_208_7 : mj_code 208 7 = some (.if_icmp .ge 13, 10, 20, 0, 0) := rfl
theorem c_208_10 : mj_code 208 10 = some (.aload_n 0, 11, 0, 0, 0) := rfl
theorem c_208_11 : mj_code 208 11 = some (.iload_n 2, 12, 0, 0, 0) := rfl
theorem c_208_12 : mj_code 208 12 = some (.iload_n 1, 13, 0, 0, 0) := rfl
theorem c_208_13 : mj_code 208 13 = some (.iastore, 14, 0, 0, 0) := rfl
theorem c_208_14 : mj_code 208 14 = some (.iinc 2 1, 17, 0, 0, 0) := rfl
theorem c_208_17 : mj_code 208 17 = some (.goto (-12), 20, 5, 0, 0) := rfl
theorem c_208_20 : mj_code 208 20 = some (.return_, 21, 0, 0, 0) := rfl
