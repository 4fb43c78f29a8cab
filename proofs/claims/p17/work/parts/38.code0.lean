/-! The rows of the code, one by one. -/
theorem c_0_0 : mj_code 0 0 = some (.new 7, 3, 11, 0, 93) := rfl
theorem c_0_3 : mj_code 0 3 = some (.dup, 4, 0, 0, 0) := rfl
theorem c_0_4 : mj_code 0 4 = some (.invokespecial 9, 7, 92, 2, 95) := rfl
theorem c_0_7 : mj_code 0 7 = some (.astore_n 1, 8, 0, 0, 0) := rfl
theorem c_0_8 : mj_code 0 8 = some (.new 10, 11, 12, 0, 1046) := rfl
theorem c_0_11 : mj_code 0 11 = some (.dup, 12, 0, 0, 0) := rfl
theorem c_0_12 : mj_code 0 12 = some (.invokespecial 12, 15, 139, 2, 1048) := rfl
theorem c_0_15 : mj_code 0 15 = some (.astore_n 2, 16, 0, 0, 0) := rfl
theorem c_0_16 : mj_code 0 16 = some (.iconst 0, 17, 0, 0, 0) := rfl
theorem c_0_17 : mj_code 0 17 = some (.istore_n 3, 18, 0, 0, 0) := rfl
theorem c_0_18 : mj_code 0 18 = some (.iload_n 3, 19, 0, 0, 0) := rfl
theorem c_0_19 : mj_code 0 19 = some (.aload_n 0, 20, 0, 0, 0) := rfl
theorem c_0_20 : mj_code 0 20 = some (.arraylength, 21, 0, 0, 0) := rfl
theorem c_0_21 : mj_code 0 21 = some (.iconst 5, 22, 0, 0, 0) := rfl
theorem c_0_22 : mj_code 0 22 = some (.isub, 23, 0, 0, 0) := rfl
theorem c_0_23 : mj_code 0 23 = some (.if_icmp .gt 974, 26, 997, 0, 0) := rfl
theorem c_0_26 : mj_code 0 26 = some (.aload_n 0, 27, 0, 0, 0) := rfl
theorem c_0_27 : mj_code 0 27 = some (.iload_n 3, 28, 0, 0, 0) := rfl
theorem c_0_28 : mj_code 0 28 = some (.iaload, 29, 0, 0, 0) := rfl
theorem c_0_29 : mj_code 0 29 = some (.bipush 31, 31, 0, 0, 0) := rfl
theorem c_0_31 : mj_code 0 31 = some (.iand, 32, 0, 0, 0) := rfl
theorem c_0_32 : mj_code 0 32 = some (.tableswitch 959 0 28 #[132, 155, 198, 221, 294, 327, 360, 393, 416, 449, 472, 495, 518, 561, 594, 627, 670, 683, 706, 719, 742, 765, 778, 801, 854, 877, 890, 913, 936], 164, 0, 0, 0) := rfl
theorem c_0_164 : mj_code 0 164 = some (.aload_n 1, 165, 0, 0, 0) := rfl
theorem c_0_165 : mj_code 0 165 = some (.aload_n 0, 166, 0, 0, 0) := rfl
theorem c_0_166 : mj_code 0 166 = some (.iload_n 3, 167, 0, 0, 0) := rfl
theorem c_0_167 : mj_code 0 167 = some (.iconst 1, 168, 0, 0, 0) := rfl
theorem c_0_168 : mj_code 0 168 = some (.iadd, 169, 0, 0, 0) := rfl
theorem c_0_169 : mj_code 0 169 = some (.iaload, 170, 0, 0, 0) := rfl
theorem c_0_170 : mj_code 0 170 = some (.invokevirtual 13, 173, 93, 0, 518) := rfl
theorem c_0_173 : mj_code 0 173 = some (.pop, 174, 0, 0, 0) := rfl
theorem c_0_174 : mj_code 0 174 = some (.aload_n 2, 175, 0, 0, 0) := rfl
theorem c_0_175 : mj_code 0 175 = some (.aload_n 0, 176, 0, 0, 0) := rfl
theorem c_0_176 : mj_code 0 176 = some (.iload_n 3, 177, 0, 0, 0) := rfl
theorem c_0_177 : mj_code 0 177 = some (.iconst 1, 178, 0, 0, 0) := rfl
theorem c_0_178 : mj_code 0 178 = some (.iadd, 179, 0, 0, 0) := rfl
theorem c_0_179 : mj_code 0 179 = some (.iaload, 180, 0, 0, 0) := rfl
theorem c_0_180 : mj_code 0 180 = some (.invokevirtual 17, 183, 142, 0, 1128) := rfl
theorem c_0_183 : mj_code 0 183 = some (.pop, 184, 0, 0, 0) := rfl
theorem c_0_184 : mj_code 0 184 = some (.goto 807, 187, 991, 0, 0) := rfl
theorem c_0_187 : mj_code 0 187 = some (.aload_n 1, 188, 0, 0, 0) := rfl
theorem c_0_188 : mj_code 0 188 = some (.aload_n 0, 189, 0, 0, 0) := rfl
theorem c_0_189 : mj_code 0 189 = some (.iload_n 3, 190, 0, 0, 0) := rfl
theorem c_0_190 : mj_code 0 190 = some (.iconst 1, 191, 0, 0, 0) := rfl
theorem c_0_191 : mj_code 0 191 = some (.iadd, 192, 0, 0, 0) := rfl
theorem c_0_192 : mj_code 0 192 = some (.iaload, 193, 0, 0, 0) := rfl
theorem c_0_193 : mj_code 0 193 = some (.aload_n 0, 194, 0, 0, 0) := rfl
theorem c_0_194 : mj_code 0 194 = some (.iload_n 3, 195, 0, 0, 0) := rfl
theorem c_0_195 : mj_code 0 195 = some (.iconst 2, 196, 0, 0, 0) := rfl
theorem c_0_196 : mj_code 0 196 = some (.iadd, 197, 0, 0, 0) := rfl
theorem c_0_197 : mj_code 0 197 = some (.iaload, 198, 0, 0, 0) := rfl
theorem c_0_198 : mj_code 0 198 = some (.aload_n 0, 199, 0, 0, 0) := rfl
theorem c_0_199 : mj_code 0 199 = some (.iload_n 3, 200, 0, 0, 0) := rfl
theorem c_0_200 : mj_code 0 200 = some (.iconst 3, 201, 0, 0, 0) := rfl
theorem c_0_201 : mj_code 0 201 = some (.iadd, 202, 0, 0, 0) := rfl
theorem c_0_202 : mj_code 0 202 = some (.iaload, 203, 0, 0, 0) := rfl
theorem c_0_203 : mj_code 0 203 = some (.invokevirtual 18, 206, 94, 0, 522) := rfl
theorem c_0_206 : mj_code 0 206 = some (.pop, 207, 0, 0, 0) := rfl
theorem c_0_207 : mj_code 0 207 = some (.aload_n 2, 208, 0, 0, 0) := rfl
theorem c_0_208 : mj_code 0 208 = some (.aload_n 0, 209, 0, 0, 0) := rfl
theorem c_0_209 : mj_code 0 209 = some (.iload_n 3, 210, 0, 0, 0) := rfl
theorem c_0_210 : mj_code 0 210 = some (.iconst 1, 211, 0, 0, 0) := rfl
theorem c_0_211 : mj_code 0 211 = some (.iadd, 212, 0, 0, 0) := rfl
theorem c_0_212 : mj_code 0 212 = some (.iaload, 213, 0, 0, 0) := rfl
theorem c_0_213 : mj_code 0 213 = some (.aload_n 0, 214, 0, 0, 0) := rfl
theorem c_0_214 : mj_code 0 214 = some (.iload_n 3, 215, 0, 0, 0) := rfl
theorem c_0_215 : mj_code 0 215 = some (.iconst 2, 216, 0, 0, 0) := rfl
theorem c_0_216 : mj_code 0 216 = some (.iadd, 217, 0, 0, 0) := rfl
theorem c_0_217 : mj_code 0 217 = some (.iaload, 218, 0, 0, 0) := rfl
theorem c_0_218 : mj_code 0 218 = some (.aload_n 0, 219, 0, 0, 0) := rfl
theorem c_0_219 : mj_code 0 219 = some (.iload_n 3, 220, 0, 0, 0) := rfl
theorem c_0_220 : mj_code 0 220 = some (.iconst 3, 221, 0, 0, 0) := rfl
theorem c_0_221 : mj_code 0 221 = some (.iadd, 222, 0, 0, 0) := rfl
theorem c_0_222 : mj_code 0 222 = some (.iaload, 223, 0, 0, 0) := rfl
theorem c_0_223 : mj_code 0 223 = some (.invokevirtual 22, 226, 144, 0, 1136) := rfl
theorem c_0_226 : mj_code 0 226 = some (.pop, 227, 0, 0, 0) := rfl
theorem c_0_227 : mj_code 0 227 = some (.goto 764, 230, 991, 0, 0) := rfl
theorem c_0_230 : mj_code 0 230 = some (.aload_n 1, 231, 0, 0, 0) := rfl
theorem c_0_231 : mj_code 0 231 = some (.aload_n 0, 232, 0, 0, 0) := rfl
theorem c_0_232 : mj_code 0 232 = some (.iload_n 3, 233, 0, 0, 0) := rfl
theorem c_0_233 : mj_code 0 233 = some (.iconst 1, 234, 0, 0, 0) := rfl
theorem c_0_234 : mj_code 0 234 = some (.iadd, 235, 0, 0, 0) := rfl
theorem c_0_235 : mj_code 0 235 = some (.iaload, 236, 0, 0, 0) := rfl
theorem c_0_236 : mj_code 0 236 = some (.invokevirtual 23, 239, 95, 0, 534) := rfl
theorem c_0_239 : mj_code 0 239 = some (.pop, 240, 0, 0, 0) := rfl
theorem c_0_240 : mj_code 0 240 = some (.aload_n 2, 241, 0, 0, 0) := rfl
theorem c_0_241 : mj_code 0 241 = some (.aload_n 0, 242, 0, 0, 0) := rfl
theorem c_0_242 : mj_code 0 242 = some (.iload_n 3, 243, 0, 0, 0) := rfl
theorem c_0_243 : mj_code 0 243 = some (.iconst 1, 244, 0, 0, 0) := rfl
theorem c_0_244 : mj_code 0 244 = some (.iadd, 245, 0, 0, 0) := rfl
theorem c_0_245 : mj_code 0 245 = some (.iaload, 246, 0, 0, 0) := rfl
theorem c_0_246 : mj_code 0 246 = some (.invokevirtual 26, 249, 145, 0, 1143) := rfl
theorem c_0_249 : mj_code 0 249 = some (.pop, 250, 0, 0, 0) := rfl
theorem c_0_250 : mj_code 0 250 = some (.goto 741, 253, 991, 0, 0) := rfl
theorem c_0_253 : mj_code 0 253 = some (.aload_n 1, 254, 0, 0, 0) := rfl
theorem c_0_254 : mj_code 0 254 = some (.aload_n 0, 255, 0, 0, 0) := rfl
theorem c_0_255 : mj_code 0 255 = some (.iload_n 3, 256, 0, 0, 0) := rfl
theorem c_0_256 : mj_code 0 256 = some (.iconst 1, 257, 0, 0, 0) := rfl
theorem c_0_257 : mj_code 0 257 = some (.iadd, 258, 0, 0, 0) := rfl
theorem c_0_258 : mj_code 0 258 = some (.iaload, 259, 0, 0, 0) := rfl
theorem c_0_259 : mj_code 0 259 = some (.aload_n 0, 260, 0, 0, 0) := rfl
theorem c_0_260 : mj_code 0 260 = some (.iload_n 3, 261, 0, 0, 0) := rfl
theorem c_0_261 : mj_code 0 261 = some (.iconst 2, 262, 0, 0, 0) := rfl
theorem c_0_262 : mj_code 0 262 = some (.iadd, 263, 0, 0, 0) := rfl
theorem c_0_263 : mj_code 0 263 = some (.iaload, 264, 0, 0, 0) := rfl
theorem c_0_264 : mj_code 0 264 = some (.aload_n 0, 265, 0, 0, 0) := rfl
theorem c_0_265 : mj_code 0 265 = some (.iload_n 3, 266, 0, 0, 0) := rfl
theorem c_0_266 : mj_code 0 266 = some (.iconst 3, 267, 0, 0, 0) := rfl
theorem c_0_267 : mj_code 0 267 = some (.iadd, 268, 0, 0, 0) := rfl
theorem c_0_268 : mj_code 0 268 = some (.iaload, 269, 0, 0, 0) := rfl
theorem c_0_269 : mj_code 0 269 = some (.i2l, 270, 0, 0, 0) := rfl
theorem c_0_270 : mj_code 0 270 = some (.bipush 32, 272, 0, 0, 0) := rfl
theorem c_0_272 : mj_code 0 272 = some (.lshl, 273, 0, 0, 0) := rfl
theorem c_0_273 : mj_code 0 273 = some (.aload_n 0, 274, 0, 0, 0) := rfl
theorem c_0_274 : mj_code 0 274 = some (.iload_n 3, 275, 0, 0, 0) := rfl
theorem c_0_275 : mj_code 0 275 = some (.iconst 4, 276, 0, 0, 0) := rfl
theorem c_0_276 : mj_code 0 276 = some (.iadd, 277, 0, 0, 0) := rfl
theorem c_0_277 : mj_code 0 277 = some (.iaload, 278, 0, 0, 0) := rfl
theorem c_0_278 : mj_code 0 278 = some (.i2l, 279, 0, 0, 0) := rfl
theorem c_0_279 : mj_code 0 279 = some (.ldc2_w 27, 282, 4294967295, 0, 1380) := rfl
theorem c_0_282 : mj_code 0 282 = some (.land, 283, 0, 0, 0) := rfl
theorem c_0_283 : mj_code 0 283 = some (.lor, 284, 0, 0, 0) := rfl
theorem c_0_284 : mj_code 0 284 = some (.invokevirtual 29, 287, 96, 0, 547) := rfl
theorem c_0_287 : mj_code 0 287 = some (.pop, 288, 0, 0, 0) := rfl
theorem c_0_288 : mj_code 0 288 = some (.aload_n 2, 289, 0, 0, 0) := rfl
theorem c_0_289 : mj_code 0 289 = some (.aload_n 0, 290, 0, 0, 0) := rfl
theorem c_0_290 : mj_code 0 290 = some (.iload_n 3, 291, 0, 0, 0) := rfl
theorem c_0_291 : mj_code 0 291 = some (.iconst 1, 292, 0, 0, 0) := rfl
theorem c_0_292 : mj_code 0 292 = some (.iadd, 293, 0, 0, 0) := rfl
theorem c_0_293 : mj_code 0 293 = some (.iaload, 294, 0, 0, 0) := rfl
theorem c_0_294 : mj_code 0 294 = some (.aload_n 0, 295, 0, 0, 0) := rfl
theorem c_0_295 : mj_code 0 295 = some (.iload_n 3, 296, 0, 0, 0) := rfl
theorem c_0_296 : mj_code 0 296 = some (.iconst 2, 297, 0, 0, 0) := rfl
theorem c_0_297 : mj_code 0 297 = some (.iadd, 298, 0, 0, 0) := rfl
theorem c_0_298 : mj_code 0 298 = some (.iaload, 299, 0, 0, 0) := rfl
theorem c_0_299 : mj_code 0 299 = some (.aload_n 0, 300, 0, 0, 0) := rfl
theorem c_0_300 : mj_code 0 300 = some (.iload_n 3, 301, 0, 0, 0) := rfl
theorem c_0_301 : mj_code 0 301 = some (.iconst 3, 302, 0, 0, 0) := rfl
theorem c_0_302 : mj_code 0 302 = some (.iadd, 303, 0, 0, 0) := rfl
theorem c_0_303 : mj_code 0 303 = some (.iaload, 304, 0, 0, 0) := rfl
theorem c_0_304 : mj_code 0 304 = some (.i2l, 305, 0, 0, 0) := rfl
theorem c_0_305 : mj_code 0 305 = some (.bipush 32, 307, 0, 0, 0) := rfl
theorem c_0_307 : mj_code 0 307 = some (.lshl, 308, 0, 0, 0) := rfl
theorem c_0_308 : mj_code 0 308 = some (.aload_n 0, 309, 0, 0, 0) := rfl
theorem c_0_309 : mj_code 0 309 = some (.iload_n 3, 310, 0, 0, 0) := rfl
theorem c_0_310 : mj_code 0 310 = some (.iconst 4, 311, 0, 0, 0) := rfl
theorem c_0_311 : mj_code 0 311 = some (.iadd, 312, 0, 0, 0) := rfl
theorem c_0_312 : mj_code 0 312 = some (.iaload, 313, 0, 0, 0) := rfl
theorem c_0_313 : mj_code 0 313 = some (.i2l, 314, 0, 0, 0) := rfl
theorem c_0_314 : mj_code 0 314 = some (.ldc2_w 27, 317, 4294967295, 0, 1380) := rfl
theorem c_0_317 : mj_code 0 317 = some (.land, 318, 0, 0, 0) := rfl
theorem c_0_318 : mj_code 0 318 = some (.lor, 319, 0, 0, 0) := rfl
theorem c_0_319 : mj_code 0 319 = some (.invokevirtual 33, 322, 146, 0, 1147) := rfl
theorem c_0_322 : mj_code 0 322 = some (.pop, 323, 0, 0, 0) := rfl
theorem c_0_323 : mj_code 0 323 = some (.goto 668, 326, 991, 0, 0) := rfl
theorem c_0_326 : mj_code 0 326 = some (.aload_n 1, 327, 0, 0, 0) := rfl
theorem c_0_327 : mj_code 0 327 = some (.aload_n 0, 328, 0, 0, 0) := rfl
theorem c_0_328 : mj_code 0 328 = some (.iload_n 3, 329, 0, 0, 0) := rfl
theorem c_0_329 : mj_code 0 329 = some (.iconst 1, 330, 0, 0, 0) := rfl
theorem c_0_330 : mj_code 0 330 = some (.iadd, 331, 0, 0, 0) := rfl
theorem c_0_331 : mj_code 0 331 = some (.iaload, 332, 0, 0, 0) := rfl
theorem c_0_332 : mj_code 0 332 = some (.aload_n 0, 333, 0, 0, 0) := rfl
theorem c_0_333 : mj_code 0 333 = some (.iload_n 3, 334, 0, 0, 0) := rfl
theorem c_0_334 : mj_code 0 334 = some (.iconst 2, 335, 0, 0, 0) := rfl
theorem c_0_335 : mj_code 0 335 = some (.iadd, 336, 0, 0, 0) := rfl
theorem c_0_336 : mj_code 0 336 = some (.iaload, 337, 0, 0, 0) := rfl
theorem c_0_337 : mj_code 0 337 = some (.invokevirtual 34, 340, 97, 0, 559) := rfl
theorem c_0_340 : mj_code 0 340 = some (.pop, 341, 0, 0, 0) := rfl
theorem c_0_341 : mj_code 0 341 = some (.aload_n 2, 342, 0, 0, 0) := rfl
theorem c_0_342 : mj_code 0 342 = some (.aload_n 0, 343, 0, 0, 0) := rfl
theorem c_0_343 : mj_code 0 343 = some (.iload_n 3, 344, 0, 0, 0) := rfl
theorem c_0_344 : mj_code 0 344 = some (.iconst 1, 345, 0, 0, 0) := rfl
theorem c_0_345 : mj_code 0 345 = some (.iadd, 346, 0, 0, 0) := rfl
theorem c_0_346 : mj_code 0 346 = some (.iaload, 347, 0, 0, 0) := rfl
theorem c_0_347 : mj_code 0 347 = some (.aload_n 0, 348, 0, 0, 0) := rfl
theorem c_0_348 : mj_code 0 348 = some (.iload_n 3, 349, 0, 0, 0) := rfl
theorem c_0_349 : mj_code 0 349 = some (.iconst 2, 350, 0, 0, 0) := rfl
theorem c_0_350 : mj_code 0 350 = some (.iadd, 351, 0, 0, 0) := rfl
theorem c_0_351 : mj_code 0 351 = some (.iaload, 352, 0, 0, 0) := rfl
theorem c_0_352 : mj_code 0 352 = some (.invokevirtual 38, 355, 148, 0, 1151) := rfl
theorem c_0_355 : mj_code 0 355 = some (.pop, 356, 0, 0, 0) := rfl
theorem c_0_356 : mj_code 0 356 = some (.goto 635, 359, 991, 0, 0) := rfl
theorem c_0_359 : mj_code 0 359 = some (.aload_n 1, 360, 0, 0, 0) := rfl
theorem c_0_360 : mj_code 0 360 = some (.aload_n 0, 361, 0, 0, 0) := rfl
theorem c_0_361 : mj_code 0 361 = some (.iload_n 3, 362, 0, 0, 0) := rfl
theorem c_0_362 : mj_code 0 362 = some (.iconst 1, 363, 0, 0, 0) := rfl
theorem c_0_363 : mj_code 0 363 = some (.iadd, 364, 0, 0, 0) := rfl
theorem c_0_364 : mj_code 0 364 = some (.iaload, 365, 0, 0, 0) := rfl
theorem c_0_365 : mj_code 0 365 = some (.aload_n 0, 366, 0, 0, 0) := rfl
theorem c_0_366 : mj_code 0 366 = some (.iload_n 3, 367, 0, 0, 0) := rfl
theorem c_0_367 : mj_code 0 367 = some (.iconst 2, 368, 0, 0, 0) := rfl
theorem c_0_368 : mj_code 0 368 = some (.iadd, 369, 0, 0, 0) := rfl
theorem c_0_369 : mj_code 0 369 = some (.iaload, 370, 0, 0, 0) := rfl
theorem c_0_370 : mj_code 0 370 = some (.invokevirtual 39, 373, 98, 0, 584) := rfl
theorem c_0_373 : mj_code 0 373 = some (.pop, 374, 0, 0, 0) := rfl
theorem c_0_374 : mj_code 0 374 = some (.aload_n 2, 375, 0, 0, 0) := rfl
theorem c_0_375 : mj_code 0 375 = some (.aload_n 0, 376, 0, 0, 0) := rfl
theorem c_0_376 : mj_code 0 376 = some (.iload_n 3, 377, 0, 0, 0) := rfl
theorem c_0_377 : mj_code 0 377 = some (.iconst 1, 378, 0, 0, 0) := rfl
theorem c_0_378 : mj_code 0 378 = some (.iadd, 379, 0, 0, 0) := rfl
theorem c_0_379 : mj_code 0 379 = some (.iaload, 380, 0, 0, 0) := rfl
theorem c_0_380 : mj_code 0 380 = some (.aload_n 0, 381, 0, 0, 0) := rfl
theorem c_0_381 : mj_code 0 381 = some (.iload_n 3, 382, 0, 0, 0) := rfl
theorem c_0_382 : mj_code 0 382 = some (.iconst 2, 383, 0, 0, 0) := rfl
theorem c_0_383 : mj_code 0 383 = some (.iadd, 384, 0, 0, 0) := rfl
theorem c_0_384 : mj_code 0 384 = some (.iaload, 385, 0, 0, 0) := rfl
theorem c_0_385 : mj_code 0 385 = some (.invokevirtual 42, 388, 149, 0, 1162) := rfl
theorem c_0_388 : mj_code 0 388 = some (.pop, 389, 0, 0, 0) := rfl
theorem c_0_389 : mj_code 0 389 = some (.goto 602, 392, 991, 0, 0) := rfl
theorem c_0_392 : mj_code 0 392 = some (.aload_n 1, 393, 0, 0, 0) := rfl
theorem c_0_393 : mj_code 0 393 = some (.aload_n 0, 394, 0, 0, 0) := rfl
theorem c_0_394 : mj_code 0 394 = some (.iload_n 3, 395, 0, 0, 0) := rfl
theorem c_0_395 : mj_code 0 395 = some (.iconst 1, 396, 0, 0, 0) := rfl
theorem c_0_396 : mj_code 0 396 = some (.iadd, 397, 0, 0, 0) := rfl
theorem c_0_397 : mj_code 0 397 = some (.iaload, 398, 0, 0, 0) := rfl
theorem c_0_398 : mj_code 0 398 = some (.aload_n 0, 399, 0, 0, 0) := rfl
theorem c_0_399 : mj_code 0 399 = some (.iload_n 3, 400, 0, 0, 0) := rfl
theorem c_0_400 : mj_code 0 400 = some (.iconst 2, 401, 0, 0, 0) := rfl
theorem c_0_401 : mj_code 0 401 = some (.iadd, 402, 0, 0, 0) := rfl
theorem c_0_402 : mj_code 0 402 = some (.iaload, 403, 0, 0, 0) := rfl
theorem c_0_403 : mj_code 0 403 = some (.invokevirtual 43, 406, 99, 0, 605) := rfl
theorem c_0_406 : mj_code 0 406 = some (.pop, 407, 0, 0, 0) := rfl
theorem c_0_407 : mj_code 0 407 = some (.aload_n 2, 408, 0, 0, 0) := rfl
theorem c_0_408 : mj_code 0 408 = some (.aload_n 0, 409, 0, 0, 0) := rfl
theorem c_0_409 : mj_code 0 409 = some (.iload_n 3, 410, 0, 0, 0) := rfl
theorem c_0_410 : mj_code 0 410 = some (.iconst 1, 411, 0, 0, 0) := rfl
theorem c_0_411 : mj_code 0 411 = some (.iadd, 412, 0, 0, 0) := rfl
theorem c_0_412 : mj_code 0 412 = some (.iaload, 413, 0, 0, 0) := rfl
theorem c_0_413 : mj_code 0 413 = some (.aload_n 0, 414, 0, 0, 0) := rfl
theorem c_0_414 : mj_code 0 414 = some (.iload_n 3, 415, 0, 0, 0) := rfl
theorem c_0_415 : mj_code 0 415 = some (.iconst 2, 416, 0, 0, 0) := rfl
theorem c_0_416 : mj_code 0 416 = some (.iadd, 417, 0, 0, 0) := rfl
theorem c_0_417 : mj_code 0 417 = some (.iaload, 418, 0, 0, 0) := rfl
theorem c_0_418 : mj_code 0 418 = some (.invokevirtual 46, 421, 150, 0, 1167) := rfl
theorem c_0_421 : mj_code 0 421 = some (.pop, 422, 0, 0, 0) := rfl
theorem c_0_422 : mj_code 0 422 = some (.goto 569, 425, 991, 0, 0) := rfl
theorem c_0_425 : mj_code 0 425 = some (.aload_n 1, 426, 0, 0, 0) := rfl
theorem c_0_426 : mj_code 0 426 = some (.aload_n 0, 427, 0, 0, 0) := rfl
theorem c_0_427 : mj_code 0 427 = some (.iload_n 3, 428, 0, 0, 0) := rfl
theorem c_0_428 : mj_code 0 428 = some (.iconst 1, 429, 0, 0, 0) := rfl
theorem c_0_429 : mj_code 0 429 = some (.iadd, 430, 0, 0, 0) := rfl
theorem c_0_430 : mj_code 0 430 = some (.iaload, 431, 0, 0, 0) := rfl
theorem c_0_431 : mj_code 0 431 = some (.invokevirtual 47, 434, 100, 0, 613) := rfl
theorem c_0_434 : mj_code 0 434 = some (.pop2, 435, 0, 0, 0) := rfl
theorem c_0_435 : mj_code 0 435 = some (.aload_n 2, 436, 0, 0, 0) := rfl
theorem c_0_436 : mj_code 0 436 = some (.aload_n 0, 437, 0, 0, 0) := rfl
theorem c_0_437 : mj_code 0 437 = some (.iload_n 3, 438, 0, 0, 0) := rfl
theorem c_0_438 : mj_code 0 438 = some (.iconst 1, 439, 0, 0, 0) := rfl
theorem c_0_439 : mj_code 0 439 = some (.iadd, 440, 0, 0, 0) := rfl
theorem c_0_440 : mj_code 0 440 = some (.iaload, 441, 0, 0, 0) := rfl
theorem c_0_441 : mj_code 0 441 = some (.invokevirtual 51, 444, 151, 0, 1171) := rfl
theorem c_0_444 : mj_code 0 444 = some (.pop2, 445, 0, 0, 0) := rfl
theorem c_0_445 : mj_code 0 445 = some (.goto 546, 448, 991, 0, 0) := rfl
theorem c_0_448 : mj_code 0 448 = some (.aload_n 1, 449, 0, 0, 0) := rfl
theorem c_0_449 : mj_code 0 449 = some (.aload_n 0, 450, 0, 0, 0) := rfl
theorem c_0_450 : mj_code 0 450 = some (.iload_n 3, 451, 0, 0, 0) := rfl
theorem c_0_451 : mj_code 0 451 = some (.iconst 1, 452, 0, 0, 0) := rfl
theorem c_0_452 : mj_code 0 452 = some (.iadd, 453, 0, 0, 0) := rfl
theorem c_0_453 : mj_code 0 453 = some (.iaload, 454, 0, 0, 0) := rfl
theorem c_0_454 : mj_code 0 454 = some (.aload_n 0, 455, 0, 0, 0) := rfl
theorem c_0_455 : mj_code 0 455 = some (.iload_n 3, 456, 0, 0, 0) := rfl
theorem c_0_456 : mj_code 0 456 = some (.iconst 2, 457, 0, 0, 0) := rfl
theorem c_0_457 : mj_code 0 457 = some (.iadd, 458, 0, 0, 0) := rfl
theorem c_0_458 : mj_code 0 458 = some (.iaload, 459, 0, 0, 0) := rfl
theorem c_0_459 : mj_code 0 459 = some (.invokevirtual 52, 462, 101, 0, 622) := rfl
theorem c_0_462 : mj_code 0 462 = some (.pop, 463, 0, 0, 0) := rfl
theorem c_0_463 : mj_code 0 463 = some (.aload_n 2, 464, 0, 0, 0) := rfl
theorem c_0_464 : mj_code 0 464 = some (.aload_n 0, 465, 0, 0, 0) := rfl
theorem c_0_465 : mj_code 0 465 = some (.iload_n 3, 466, 0, 0, 0) := rfl
theorem c_0_466 : mj_code 0 466 = some (.iconst 1, 467, 0, 0, 0) := rfl
theorem c_0_467 : mj_code 0 467 = some (.iadd, 468, 0, 0, 0) := rfl
theorem c_0_468 : mj_code 0 468 = some (.iaload, 469, 0, 0, 0) := rfl
theorem c_0_469 : mj_code 0 469 = some (.aload_n 0, 470, 0, 0, 0) := rfl
theorem c_0_470 : mj_code 0 470 = some (.iload_n 3, 471, 0, 0, 0) := rfl
theorem c_0_471 : mj_code 0 471 = some (.iconst 2, 472, 0, 0, 0) := rfl
theorem c_0_472 : mj_code 0 472 = some (.iadd, 473, 0, 0, 0) := rfl
theorem c_0_473 : mj_code 0 473 = some (.iaload, 474, 0, 0, 0) := rfl
theorem c_0_474 : mj_code 0 474 = some (.invokevirtual 55, 477, 158, 0, 1176) := rfl
theorem c_0_477 : mj_code 0 477 = some (.pop, 478, 0, 0, 0) := rfl
theorem c_0_478 : mj_code 0 478 = some (.goto 513, 481, 991, 0, 0) := rfl
theorem c_0_481 : mj_code 0 481 = some (.aload_n 1, 482, 0, 0, 0) := rfl
theorem c_0_482 : mj_code 0 482 = some (.aload_n 0, 483, 0, 0, 0) := rfl
theorem c_0_483 : mj_code 0 483 = some (.iload_n 3, 484, 0, 0, 0) := rfl
theorem c_0_484 : mj_code 0 484 = some (.iconst 1, 485, 0, 0, 0) := rfl
theorem c_0_485 : mj_code 0 485 = some (.iadd, 486, 0, 0, 0) := rfl
theorem c_0_486 : mj_code 0 486 = some (.iaload, 487, 0, 0, 0) := rfl
theorem c_0_487 : mj_code 0 487 = some (.invokevirtual 56, 490, 102, 0, 641) := rfl
theorem c_0_490 : mj_code 0 490 = some (.pop2, 491, 0, 0, 0) := rfl
theorem c_0_491 : mj_code 0 491 = some (.aload_n 2, 492, 0, 0, 0) := rfl
theorem c_0_492 : mj_code 0 492 = some (.aload_n 0, 493, 0, 0, 0) := rfl
theorem c_0_493 : mj_code 0 493 = some (.iload_n 3, 494, 0, 0, 0) := rfl
theorem c_0_494 : mj_code 0 494 = some (.iconst 1, 495, 0, 0, 0) := rfl
theorem c_0_495 : mj_code 0 495 = some (.iadd, 496, 0, 0, 0) := rfl
theorem c_0_496 : mj_code 0 496 = some (.iaload, 497, 0, 0, 0) := rfl
theorem c_0_497 : mj_code 0 497 = some (.invokevirtual 59, 500, 159, 0, 1192) := rfl
theorem c_0_500 : mj_code 0 500 = some (.pop2, 501, 0, 0, 0) := rfl
theorem c_0_501 : mj_code 0 501 = some (.goto 490, 504, 991, 0, 0) := rfl
theorem c_0_504 : mj_code 0 504 = some (.aload_n 1, 505, 0, 0, 0) := rfl
theorem c_0_505 : mj_code 0 505 = some (.aload_n 0, 506, 0, 0, 0) := rfl
theorem c_0_506 : mj_code 0 506 = some (.iload_n 3, 507, 0, 0, 0) := rfl
theorem c_0_507 : mj_code 0 507 = some (.iconst 1, 508, 0, 0, 0) := rfl
theorem c_0_508 : mj_code 0 508 = some (.iadd, 509, 0, 0, 0) := rfl
theorem c_0_509 : mj_code 0 509 = some (.iaload, 510, 0, 0, 0) := rfl
theorem c_0_510 : mj_code 0 510 = some (.invokevirtual 60, 513, 103, 0, 653) := rfl
theorem c_0_513 : mj_code 0 513 = some (.pop, 514, 0, 0, 0) := rfl
theorem c_0_514 : mj_code 0 514 = some (.aload_n 2, 515, 0, 0, 0) := rfl
theorem c_0_515 : mj_code 0 515 = some (.aload_n 0, 516, 0, 0, 0) := rfl
theorem c_0_516 : mj_code 0 516 = some (.iload_n 3, 517, 0, 0, 0) := rfl
theorem c_0_517 : mj_code 0 517 = some (.iconst 1, 518, 0, 0, 0) := rfl
theorem c_0_518 : mj_code 0 518 = some (.iadd, 519, 0, 0, 0) := rfl
theorem c_0_519 : mj_code 0 519 = some (.iaload, 520, 0, 0, 0) := rfl
theorem c_0_520 : mj_code 0 520 = some (.invokevirtual 64, 523, 160, 0, 1200) := rfl
theorem c_0_523 : mj_code 0 523 = some (.pop, 524, 0, 0, 0) := rfl
theorem c_0_524 : mj_code 0 524 = some (.goto 467, 527, 991, 0, 0) := rfl
theorem c_0_527 : mj_code 0 527 = some (.aload_n 1, 528, 0, 0, 0) := rfl
theorem c_0_528 : mj_code 0 528 = some (.aload_n 0, 529, 0, 0, 0) := rfl
theorem c_0_529 : mj_code 0 529 = some (.iload_n 3, 530, 0, 0, 0) := rfl
theorem c_0_530 : mj_code 0 530 = some (.iconst 1, 531, 0, 0, 0) := rfl
theorem c_0_531 : mj_code 0 531 = some (.iadd, 532, 0, 0, 0) := rfl
theorem c_0_532 : mj_code 0 532 = some (.iaload, 533, 0, 0, 0) := rfl
theorem c_0_533 : mj_code 0 533 = some (.invokevirtual 65, 536, 104, 0, 661) := rfl
theorem c_0_536 : mj_code 0 536 = some (.pop, 537, 0, 0, 0) := rfl
theorem c_0_537 : mj_code 0 537 = some (.aload_n 2, 538, 0, 0, 0) := rfl
theorem c_0_538 : mj_code 0 538 = some (.aload_n 0, 539, 0, 0, 0) := rfl
theorem c_0_539 : mj_code 0 539 = some (.iload_n 3, 540, 0, 0, 0) := rfl
theorem c_0_540 : mj_code 0 540 = some (.iconst 1, 541, 0, 0, 0) := rfl
theorem c_0_541 : mj_code 0 541 = some (.iadd, 542, 0, 0, 0) := rfl
theorem c_0_542 : mj_code 0 542 = some (.iaload, 543, 0, 0, 0) := rfl
theorem c_0_543 : mj_code 0 543 = some (.invokevirtual 68, 546, 168, 0, 1208) := rfl
theorem c_0_546 : mj_code 0 546 = some (.pop, 547, 0, 0, 0) := rfl
theorem c_0_547 : mj_code 0 547 = some (.goto 444, 550, 991, 0, 0) := rfl
theorem c_0_550 : mj_code 0 550 = some (.aload_n 1, 551, 0, 0, 0) := rfl
theorem c_0_551 : mj_code 0 551 = some (.aload_n 0, 552, 0, 0, 0) := rfl
theorem c_0_552 : mj_code 0 552 = some (.iload_n 3, 553, 0, 0, 0) := rfl
theorem c_0_553 : mj_code 0 553 = some (.iconst 1, 554, 0, 0, 0) := rfl
theorem c_0_554 : mj_code 0 554 = some (.iadd, 555, 0, 0, 0) := rfl
theorem c_0_555 : mj_code 0 555 = some (.iaload, 556, 0, 0, 0) := rfl
theorem c_0_556 : mj_code 0 556 = some (.aload_n 0, 557, 0, 0, 0) := rfl
theorem c_0_557 : mj_code 0 557 = some (.iload_n 3, 558, 0, 0, 0) := rfl
theorem c_0_558 : mj_code 0 558 = some (.iconst 2, 559, 0, 0, 0) := rfl
theorem c_0_559 : mj_code 0 559 = some (.iadd, 560, 0, 0, 0) := rfl
theorem c_0_560 : mj_code 0 560 = some (.iaload, 561, 0, 0, 0) := rfl
theorem c_0_561 : mj_code 0 561 = some (.aload_n 0, 562, 0, 0, 0) := rfl
theorem c_0_562 : mj_code 0 562 = some (.iload_n 3, 563, 0, 0, 0) := rfl
theorem c_0_563 : mj_code 0 563 = some (.iconst 3, 564, 0, 0, 0) := rfl
theorem c_0_564 : mj_code 0 564 = some (.iadd, 565, 0, 0, 0) := rfl
theorem c_0_565 : mj_code 0 565 = some (.iaload, 566, 0, 0, 0) := rfl
theorem c_0_566 : mj_code 0 566 = some (.invokevirtual 69, 569, 105, 0, 776) := rfl
theorem c_0_569 : mj_code 0 569 = some (.pop, 570, 0, 0, 0) := rfl
theorem c_0_570 : mj_code 0 570 = some (.aload_n 2, 571, 0, 0, 0) := rfl
theorem c_0_571 : mj_code 0 571 = some (.aload_n 0, 572, 0, 0, 0) := rfl
theorem c_0_572 : mj_code 0 572 = some (.iload_n 3, 573, 0, 0, 0) := rfl
theorem c_0_573 : mj_code 0 573 = some (.iconst 1, 574, 0, 0, 0) := rfl
theorem c_0_574 : mj_code 0 574 = some (.iadd, 575, 0, 0, 0) := rfl
theorem c_0_575 : mj_code 0 575 = some (.iaload, 576, 0, 0, 0) := rfl
theorem c_0_576 : mj_code 0 576 = some (.aload_n 0, 577, 0, 0, 0) := rfl
theorem c_0_577 : mj_code 0 577 = some (.iload_n 3, 578, 0, 0, 0) := rfl
theorem c_0_578 : mj_code 0 578 = some (.iconst 2, 579, 0, 0, 0) := rfl
theorem c_0_579 : mj_code 0 579 = some (.iadd, 580, 0, 0, 0) := rfl
theorem c_0_580 : mj_code 0 580 = some (.iaload, 581, 0, 0, 0) := rfl
theorem c_0_581 : mj_code 0 581 = some (.aload_n 0, 582, 0, 0, 0) := rfl
theorem c_0_582 : mj_code 0 582 = some (.iload_n 3, 583, 0, 0, 0) := rfl
theorem c_0_583 : mj_code 0 583 = some (.iconst 3, 584, 0, 0, 0) := rfl
theorem c_0_584 : mj_code 0 584 = some (.iadd, 585, 0, 0, 0) := rfl
theorem c_0_585 : mj_code 0 585 = some (.iaload, 586, 0, 0, 0) := rfl
theorem c_0_586 : mj_code 0 586 = some (.invokevirtual 72, 589, 169, 0, 1246) := rfl
theorem c_0_589 : mj_code 0 589 = some (.pop, 590, 0, 0, 0) := rfl
theorem c_0_590 : mj_code 0 590 = some (.goto 401, 593, 991, 0, 0) := rfl
theorem c_0_593 : mj_code 0 593 = some (.aload_n 1, 594, 0, 0, 0) := rfl
theorem c_0_594 : mj_code 0 594 = some (.aload_n 0, 595, 0, 0, 0) := rfl
theorem c_0_595 : mj_code 0 595 = some (.iload_n 3, 596, 0, 0, 0) := rfl
theorem c_0_596 : mj_code 0 596 = some (.iconst 1, 597, 0, 0, 0) := rfl
theorem c_0_597 : mj_code 0 597 = some (.iadd, 598, 0, 0, 0) := rfl
theorem c_0_598 : mj_code 0 598 = some (.iaload, 599, 0, 0, 0) := rfl
theorem c_0_599 : mj_code 0 599 = some (.aload_n 0, 600, 0, 0, 0) := rfl
theorem c_0_600 : mj_code 0 600 = some (.iload_n 3, 601, 0, 0, 0) := rfl
theorem c_0_601 : mj_code 0 601 = some (.iconst 2, 602, 0, 0, 0) := rfl
theorem c_0_602 : mj_code 0 602 = some (.iadd, 603, 0, 0, 0) := rfl
theorem c_0_603 : mj_code 0 603 = some (.iaload, 604, 0, 0, 0) := rfl
theorem c_0_604 : mj_code 0 604 = some (.invokevirtual 73, 607, 106, 0, 780) := rfl
theorem c_0_607 : mj_code 0 607 = some (.pop, 608, 0, 0, 0) := rfl
theorem c_0_608 : mj_code 0 608 = some (.aload_n 2, 609, 0, 0, 0) := rfl
theorem c_0_609 : mj_code 0 609 = some (.aload_n 0, 610, 0, 0, 0) := rfl
theorem c_0_610 : mj_code 0 610 = some (.iload_n 3, 611, 0, 0, 0) := rfl
theorem c_0_611 : mj_code 0 611 = some (.iconst 1, 612, 0, 0, 0) := rfl
theorem c_0_612 : mj_code 0 612 = some (.iadd, 613, 0, 0, 0) := rfl
theorem c_0_613 : mj_code 0 613 = some (.iaload, 614, 0, 0, 0) := rfl
theorem c_0_614 : mj_code 0 614 = some (.aload_n 0, 615, 0, 0, 0) := rfl
theorem c_0_615 : mj_code 0 615 = some (.iload_n 3, 616, 0, 0, 0) := rfl
theorem c_0_616 : mj_code 0 616 = some (.iconst 2, 617, 0, 0, 0) := rfl
theorem c_0_617 : mj_code 0 617 = some (.iadd, 618, 0, 0, 0) := rfl
theorem c_0_618 : mj_code 0 618 = some (.iaload, 619, 0, 0, 0) := rfl
theorem c_0_619 : mj_code 0 619 = some (.invokevirtual 76, 622, 170, 0, 1250) := rfl
theorem c_0_622 : mj_code 0 622 = some (.pop, 623, 0, 0, 0) := rfl
theorem c_0_623 : mj_code 0 623 = some (.goto 368, 626, 991, 0, 0) := rfl
theorem c_0_626 : mj_code 0 626 = some (.aload_n 1, 627, 0, 0, 0) := rfl
theorem c_0_627 : mj_code 0 627 = some (.aload_n 0, 628, 0, 0, 0) := rfl
theorem c_0_628 : mj_code 0 628 = some (.iload_n 3, 629, 0, 0, 0) := rfl
theorem c_0_629 : mj_code 0 629 = some (.iconst 1, 630, 0, 0, 0) := rfl
theorem c_0_630 : mj_code 0 630 = some (.iadd, 631, 0, 0, 0) := rfl
theorem c_0_631 : mj_code 0 631 = some (.iaload, 632, 0, 0, 0) := rfl
theorem c_0_632 : mj_code 0 632 = some (.aload_n 0, 633, 0, 0, 0) := rfl
theorem c_0_633 : mj_code 0 633 = some (.iload_n 3, 634, 0, 0, 0) := rfl
theorem c_0_634 : mj_code 0 634 = some (.iconst 2, 635, 0, 0, 0) := rfl
theorem c_0_635 : mj_code 0 635 = some (.iadd, 636, 0, 0, 0) := rfl
theorem c_0_636 : mj_code 0 636 = some (.iaload, 637, 0, 0, 0) := rfl
theorem c_0_637 : mj_code 0 637 = some (.invokevirtual 77, 640, 107, 0, 789) := rfl
theorem c_0_640 : mj_code 0 640 = some (.pop, 641, 0, 0, 0) := rfl
theorem c_0_641 : mj_code 0 641 = some (.aload_n 2, 642, 0, 0, 0) := rfl
theorem c_0_642 : mj_code 0 642 = some (.aload_n 0, 643, 0, 0, 0) := rfl
theorem c_0_643 : mj_code 0 643 = some (.iload_n 3, 644, 0, 0, 0) := rfl
theorem c_0_644 : mj_code 0 644 = some (.iconst 1, 645, 0, 0, 0) := rfl
theorem c_0_645 : mj_code 0 645 = some (.iadd, 646, 0, 0, 0) := rfl
theorem c_0_646 : mj_code 0 646 = some (.iaload, 647, 0, 0, 0) := rfl
theorem c_0_647 : mj_code 0 647 = some (.aload_n 0, 648, 0, 0, 0) := rfl
theorem c_0_648 : mj_code 0 648 = some (.iload_n 3, 649, 0, 0, 0) := rfl
theorem c_0_649 : mj_code 0 649 = some (.iconst 2, 650, 0, 0, 0) := rfl
theorem c_0_650 : mj_code 0 650 = some (.iadd, 651, 0, 0, 0) := rfl
theorem c_0_651 : mj_code 0 651 = some (.iaload, 652, 0, 0, 0) := rfl
theorem c_0_652 : mj_code 0 652 = some (.invokevirtual 80, 655, 174, 0, 1254) := rfl
theorem c_0_655 : mj_code 0 655 = some (.pop, 656, 0, 0, 0) := rfl
theorem c_0_656 : mj_code 0 656 = some (.goto 335, 659, 991, 0, 0) := rfl
theorem c_0_659 : mj_code 0 659 = some (.aload_n 1, 660, 0, 0, 0) := rfl
theorem c_0_660 : mj_code 0 660 = some (.aload_n 0, 661, 0, 0, 0) := rfl
theorem c_0_661 : mj_code 0 661 = some (.iload_n 3, 662, 0, 0, 0) := rfl
theorem c_0_662 : mj_code 0 662 = some (.iconst 1, 663, 0, 0, 0) := rfl
theorem c_0_663 : mj_code 0 663 = some (.iadd, 664, 0, 0, 0) := rfl
theorem c_0_664 : mj_code 0 664 = some (.iaload, 665, 0, 0, 0) := rfl
theorem c_0_665 : mj_code 0 665 = some (.aload_n 0, 666, 0, 0, 0) := rfl
theorem c_0_666 : mj_code 0 666 = some (.iload_n 3, 667, 0, 0, 0) := rfl
theorem c_0_667 : mj_code 0 667 = some (.iconst 2, 668, 0, 0, 0) := rfl
theorem c_0_668 : mj_code 0 668 = some (.iadd, 669, 0, 0, 0) := rfl
theorem c_0_669 : mj_code 0 669 = some (.iaload, 670, 0, 0, 0) := rfl
theorem c_0_670 : mj_code 0 670 = some (.aload_n 0, 671, 0, 0, 0) := rfl
theorem c_0_671 : mj_code 0 671 = some (.iload_n 3, 672, 0, 0, 0) := rfl
theorem c_0_672 : mj_code 0 672 = some (.iconst 3, 673, 0, 0, 0) := rfl
theorem c_0_673 : mj_code 0 673 = some (.iadd, 674, 0, 0, 0) := rfl
theorem c_0_674 : mj_code 0 674 = some (.iaload, 675, 0, 0, 0) := rfl
theorem c_0_675 : mj_code 0 675 = some (.invokevirtual 81, 678, 108, 0, 863) := rfl
theorem c_0_678 : mj_code 0 678 = some (.aload_n 2, 679, 0, 0, 0) := rfl
theorem c_0_679 : mj_code 0 679 = some (.aload_n 0, 680, 0, 0, 0) := rfl
theorem c_0_680 : mj_code 0 680 = some (.iload_n 3, 681, 0, 0, 0) := rfl
theorem c_0_681 : mj_code 0 681 = some (.iconst 1, 682, 0, 0, 0) := rfl
theorem c_0_682 : mj_code 0 682 = some (.iadd, 683, 0, 0, 0) := rfl
theorem c_0_683 : mj_code 0 683 = some (.iaload, 684, 0, 0, 0) := rfl
theorem c_0_684 : mj_code 0 684 = some (.aload_n 0, 685, 0, 0, 0) := rfl
theorem c_0_685 : mj_code 0 685 = some (.iload_n 3, 686, 0, 0, 0) := rfl
theorem c_0_686 : mj_code 0 686 = some (.iconst 2, 687, 0, 0, 0) := rfl
theorem c_0_687 : mj_code 0 687 = some (.iadd, 688, 0, 0, 0) := rfl
theorem c_0_688 : mj_code 0 688 = some (.iaload, 689, 0, 0, 0) := rfl
theorem c_0_689 : mj_code 0 689 = some (.aload_n 0, 690, 0, 0, 0) := rfl
theorem c_0_690 : mj_code 0 690 = some (.iload_n 3, 691, 0, 0, 0) := rfl
theorem c_0_691 : mj_code 0 691 = some (.iconst 3, 692, 0, 0, 0) := rfl
theorem c_0_692 : mj_code 0 692 = some (.iadd, 693, 0, 0, 0) := rfl
theorem c_0_693 : mj_code 0 693 = some (.iaload, 694, 0, 0, 0) := rfl
theorem c_0_694 : mj_code 0 694 = some (.invokevirtual 84, 697, 175, 0, 1270) := rfl
theorem c_0_697 : mj_code 0 697 = some (.if_icmp .eq 294, 700, 991, 0, 0) := rfl
theorem c_0_700 : mj_code 0 700 = some (.iconst 0, 701, 0, 0, 0) := rfl
theorem c_0_701 : mj_code 0 701 = some (.ireturn, 702, 0, 0, 0) := rfl
theorem c_0_702 : mj_code 0 702 = some (.aload_n 1, 703, 0, 0, 0) := rfl
theorem c_0_703 : mj_code 0 703 = some (.invokevirtual 85, 706, 109, 0, 881) := rfl
theorem c_0_706 : mj_code 0 706 = some (.pop, 707, 0, 0, 0) := rfl
theorem c_0_707 : mj_code 0 707 = some (.aload_n 2, 708, 0, 0, 0) := rfl
theorem c_0_708 : mj_code 0 708 = some (.invokevirtual 89, 711, 176, 0, 1274) := rfl
theorem c_0_711 : mj_code 0 711 = some (.pop, 712, 0, 0, 0) := rfl
theorem c_0_712 : mj_code 0 712 = some (.goto 279, 715, 991, 0, 0) := rfl
theorem c_0_715 : mj_code 0 715 = some (.aload_n 1, 716, 0, 0, 0) := rfl
theorem c_0_716 : mj_code 0 716 = some (.aload_n 0, 717, 0, 0, 0) := rfl
theorem c_0_717 : mj_code 0 717 = some (.iload_n 3, 718, 0, 0, 0) := rfl
theorem c_0_718 : mj_code 0 718 = some (.iconst 1, 719, 0, 0, 0) := rfl
theorem c_0_719 : mj_code 0 719 = some (.iadd, 720, 0, 0, 0) := rfl
theorem c_0_720 : mj_code 0 720 = some (.iaload, 721, 0, 0, 0) := rfl
theorem c_0_721 : mj_code 0 721 = some (.invokevirtual 90, 724, 110, 0, 885) := rfl
theorem c_0_724 : mj_code 0 724 = some (.pop, 725, 0, 0, 0) := rfl
theorem c_0_725 : mj_code 0 725 = some (.aload_n 2, 726, 0, 0, 0) := rfl
theorem c_0_726 : mj_code 0 726 = some (.aload_n 0, 727, 0, 0, 0) := rfl
theorem c_0_727 : mj_code 0 727 = some (.iload_n 3, 728, 0, 0, 0) := rfl
theorem c_0_728 : mj_code 0 728 = some (.iconst 1, 729, 0, 0, 0) := rfl
theorem c_0_729 : mj_code 0 729 = some (.iadd, 730, 0, 0, 0) := rfl
theorem c_0_730 : mj_code 0 730 = some (.iaload, 731, 0, 0, 0) := rfl
theorem c_0_731 : mj_code 0 731 = some (.invokevirtual 93, 734, 177, 0, 1278) := rfl
theorem c_0_734 : mj_code 0 734 = some (.pop, 735, 0, 0, 0) := rfl
theorem c_0_735 : mj_code 0 735 = some (.goto 256, 738, 991, 0, 0) := rfl
theorem c_0_738 : mj_code 0 738 = some (.aload_n 1, 739, 0, 0, 0) := rfl
theorem c_0_739 : mj_code 0 739 = some (.invokevirtual 94, 742, 111, 0, 889) := rfl
theorem c_0_742 : mj_code 0 742 = some (.pop, 743, 0, 0, 0) := rfl
theorem c_0_743 : mj_code 0 743 = some (.aload_n 2, 744, 0, 0, 0) := rfl
theorem c_0_744 : mj_code 0 744 = some (.invokevirtual 97, 747, 180, 0, 1282) := rfl
theorem c_0_747 : mj_code 0 747 = some (.pop, 748, 0, 0, 0) := rfl
theorem c_0_748 : mj_code 0 748 = some (.goto 243, 751, 991, 0, 0) := rfl
theorem c_0_751 : mj_code 0 751 = some (.aload_n 1, 752, 0, 0, 0) := rfl
theorem c_0_752 : mj_code 0 752 = some (.aload_n 0, 753, 0, 0, 0) := rfl
theorem c_0_753 : mj_code 0 753 = some (.iload_n 3, 754, 0, 0, 0) := rfl
theorem c_0_754 : mj_code 0 754 = some (.iconst 1, 755, 0, 0, 0) := rfl
theorem c_0_755 : mj_code 0 755 = some (.iadd, 756, 0, 0, 0) := rfl
theorem c_0_756 : mj_code 0 756 = some (.iaload, 757, 0, 0, 0) := rfl
theorem c_0_757 : mj_code 0 757 = some (.invokevirtual 98, 760, 112, 0, 912) := rfl
theorem c_0_760 : mj_code 0 760 = some (.pop, 761, 0, 0, 0) := rfl
theorem c_0_761 : mj_code 0 761 = some (.aload_n 2, 762, 0, 0, 0) := rfl
theorem c_0_762 : mj_code 0 762 = some (.aload_n 0, 763, 0, 0, 0) := rfl
theorem c_0_763 : mj_code 0 763 = some (.iload_n 3, 764, 0, 0, 0) := rfl
theorem c_0_764 : mj_code 0 764 = some (.iconst 1, 765, 0, 0, 0) := rfl
theorem c_0_765 : mj_code 0 765 = some (.iadd, 766, 0, 0, 0) := rfl
theorem c_0_766 : mj_code 0 766 = some (.iaload, 767, 0, 0, 0) := rfl
theorem c_0_767 : mj_code 0 767 = some (.invokevirtual 101, 770, 181, 0, 1294) := rfl
theorem c_0_770 : mj_code 0 770 = some (.pop, 771, 0, 0, 0) := rfl
theorem c_0_771 : mj_code 0 771 = some (.goto 220, 774, 991, 0, 0) := rfl
theorem c_0_774 : mj_code 0 774 = some (.aload_n 1, 775, 0, 0, 0) := rfl
theorem c_0_775 : mj_code 0 775 = some (.aload_n 0, 776, 0, 0, 0) := rfl
theorem c_0_776 : mj_code 0 776 = some (.iload_n 3, 777, 0, 0, 0) := rfl
theorem c_0_777 : mj_code 0 777 = some (.iconst 1, 778, 0, 0, 0) := rfl
theorem c_0_778 : mj_code 0 778 = some (.iadd, 779, 0, 0, 0) := rfl
theorem c_0_779 : mj_code 0 779 = some (.iaload, 780, 0, 0, 0) := rfl
theorem c_0_780 : mj_code 0 780 = some (.invokevirtual 102, 783, 113, 0, 916) := rfl
theorem c_0_783 : mj_code 0 783 = some (.pop, 784, 0, 0, 0) := rfl
theorem c_0_784 : mj_code 0 784 = some (.aload_n 2, 785, 0, 0, 0) := rfl
theorem c_0_785 : mj_code 0 785 = some (.aload_n 0, 786, 0, 0, 0) := rfl
theorem c_0_786 : mj_code 0 786 = some (.iload_n 3, 787, 0, 0, 0) := rfl
theorem c_0_787 : mj_code 0 787 = some (.iconst 1, 788, 0, 0, 0) := rfl
theorem c_0_788 : mj_code 0 788 = some (.iadd, 789, 0, 0, 0) := rfl
theorem c_0_789 : mj_code 0 789 = some (.iaload, 790, 0, 0, 0) := rfl
theorem c_0_790 : mj_code 0 790 = some (.invokevirtual 105, 793, 185, 0, 1298) := rfl
theorem c_0_793 : mj_code 0 793 = some (.pop, 794, 0, 0, 0) := rfl
theorem c_0_794 : mj_code 0 794 = some (.goto 197, 797, 991, 0, 0) := rfl
theorem c_0_797 : mj_code 0 797 = some (.aload_n 1, 798, 0, 0, 0) := rfl
theorem c_0_798 : mj_code 0 798 = some (.invokevirtual 106, 801, 114, 0, 936) := rfl
theorem c_0_801 : mj_code 0 801 = some (.pop, 802, 0, 0, 0) := rfl
theorem c_0_802 : mj_code 0 802 = some (.aload_n 2, 803, 0, 0, 0) := rfl
theorem c_0_803 : mj_code 0 803 = some (.invokevirtual 109, 806, 186, 0, 1314) := rfl
theorem c_0_806 : mj_code 0 806 = some (.pop, 807, 0, 0, 0) := rfl
theorem c_0_807 : mj_code 0 807 = some (.goto 184, 810, 991, 0, 0) := rfl
theorem c_0_810 : mj_code 0 810 = some (.aload_n 1, 811, 0, 0, 0) := rfl
theorem c_0_811 : mj_code 0 811 = some (.aload_n 0, 812, 0, 0, 0) := rfl
theorem c_0_812 : mj_code 0 812 = some (.iload_n 3, 813, 0, 0, 0) := rfl
theorem c_0_813 : mj_code 0 813 = some (.iconst 1, 814, 0, 0, 0) := rfl
theorem c_0_814 : mj_code 0 814 = some (.iadd, 815, 0, 0, 0) := rfl
theorem c_0_815 : mj_code 0 815 = some (.iaload, 816, 0, 0, 0) := rfl
theorem c_0_816 : mj_code 0 816 = some (.invokevirtual 110, 819, 115, 0, 940) := rfl
theorem c_0_819 : mj_code 0 819 = some (.pop, 820, 0, 0, 0) := rfl
theorem c_0_820 : mj_code 0 820 = some (.aload_n 2, 821, 0, 0, 0) := rfl
theorem c_0_821 : mj_code 0 821 = some (.aload_n 0, 822, 0, 0, 0) := rfl
theorem c_0_822 : mj_code 0 822 = some (.iload_n 3, 823, 0, 0, 0) := rfl
theorem c_0_823 : mj_code 0 823 = some (.iconst 1, 824, 0, 0, 0) := rfl
theorem c_0_824 : mj_code 0 824 = some (.iadd, 825, 0, 0, 0) := rfl
theorem c_0_825 : mj_code 0 825 = some (.iaload, 826, 0, 0, 0) := rfl
theorem c_0_826 : mj_code 0 826 = some (.invokevirtual 113, 829, 187, 0, 1319) := rfl
theorem c_0_829 : mj_code 0 829 = some (.pop, 830, 0, 0, 0) := rfl
theorem c_0_830 : mj_code 0 830 = some (.goto 161, 833, 991, 0, 0) := rfl
theorem c_0_833 : mj_code 0 833 = some (.aload_n 1, 834, 0, 0, 0) := rfl
theorem c_0_834 : mj_code 0 834 = some (.aload_n 0, 835, 0, 0, 0) := rfl
theorem c_0_835 : mj_code 0 835 = some (.iload_n 3, 836, 0, 0, 0) := rfl
theorem c_0_836 : mj_code 0 836 = some (.iconst 1, 837, 0, 0, 0) := rfl
theorem c_0_837 : mj_code 0 837 = some (.iadd, 838, 0, 0, 0) := rfl
theorem c_0_838 : mj_code 0 838 = some (.iaload, 839, 0, 0, 0) := rfl
theorem c_0_839 : mj_code 0 839 = some (.aload_n 0, 840, 0, 0, 0) := rfl
theorem c_0_840 : mj_code 0 840 = some (.iload_n 3, 841, 0, 0, 0) := rfl
theorem c_0_841 : mj_code 0 841 = some (.iconst 2, 842, 0, 0, 0) := rfl
theorem c_0_842 : mj_code 0 842 = some (.iadd, 843, 0, 0, 0) := rfl
theorem c_0_843 : mj_code 0 843 = some (.iaload, 844, 0, 0, 0) := rfl
theorem c_0_844 : mj_code 0 844 = some (.aload_n 0, 845, 0, 0, 0) := rfl
theorem c_0_845 : mj_code 0 845 = some (.iload_n 3, 846, 0, 0, 0) := rfl
theorem c_0_846 : mj_code 0 846 = some (.iconst 3, 847, 0, 0, 0) := rfl
theorem c_0_847 : mj_code 0 847 = some (.iadd, 848, 0, 0, 0) := rfl
theorem c_0_848 : mj_code 0 848 = some (.iaload, 849, 0, 0, 0) := rfl
theorem c_0_849 : mj_code 0 849 = some (.aload_n 0, 850, 0, 0, 0) := rfl
theorem c_0_850 : mj_code 0 850 = some (.iload_n 3, 851, 0, 0, 0) := rfl
theorem c_0_851 : mj_code 0 851 = some (.iconst 4, 852, 0, 0, 0) := rfl
theorem c_0_852 : mj_code 0 852 = some (.iadd, 853, 0, 0, 0) := rfl
theorem c_0_853 : mj_code 0 853 = some (.iaload, 854, 0, 0, 0) := rfl
theorem c_0_854 : mj_code 0 854 = some (.invokevirtual 114, 857, 116, 0, 944) := rfl
theorem c_0_857 : mj_code 0 857 = some (.pop, 858, 0, 0, 0) := rfl
theorem c_0_858 : mj_code 0 858 = some (.aload_n 2, 859, 0, 0, 0) := rfl
theorem c_0_859 : mj_code 0 859 = some (.aload_n 0, 860, 0, 0, 0) := rfl
theorem c_0_860 : mj_code 0 860 = some (.iload_n 3, 861, 0, 0, 0) := rfl
theorem c_0_861 : mj_code 0 861 = some (.iconst 1, 862, 0, 0, 0) := rfl
theorem c_0_862 : mj_code 0 862 = some (.iadd, 863, 0, 0, 0) := rfl
theorem c_0_863 : mj_code 0 863 = some (.iaload, 864, 0, 0, 0) := rfl
theorem c_0_864 : mj_code 0 864 = some (.aload_n 0, 865, 0, 0, 0) := rfl
theorem c_0_865 : mj_code 0 865 = some (.iload_n 3, 866, 0, 0, 0) := rfl
theorem c_0_866 : mj_code 0 866 = some (.iconst 2, 867, 0, 0, 0) := rfl
theorem c_0_867 : mj_code 0 867 = some (.iadd, 868, 0, 0, 0) := rfl
theorem c_0_868 : mj_code 0 868 = some (.iaload, 869, 0, 0, 0) := rfl
theorem c_0_869 : mj_code 0 869 = some (.aload_n 0, 870, 0, 0, 0) := rfl
theorem c_0_870 : mj_code 0 870 = some (.iload_n 3, 871, 0, 0, 0) := rfl
theorem c_0_871 : mj_code 0 871 = some (.iconst 3, 872, 0, 0, 0) := rfl
theorem c_0_872 : mj_code 0 872 = some (.iadd, 873, 0, 0, 0) := rfl
theorem c_0_873 : mj_code 0 873 = some (.iaload, 874, 0, 0, 0) := rfl
theorem c_0_874 : mj_code 0 874 = some (.aload_n 0, 875, 0, 0, 0) := rfl
theorem c_0_875 : mj_code 0 875 = some (.iload_n 3, 876, 0, 0, 0) := rfl
theorem c_0_876 : mj_code 0 876 = some (.iconst 4, 877, 0, 0, 0) := rfl
theorem c_0_877 : mj_code 0 877 = some (.iadd, 878, 0, 0, 0) := rfl
theorem c_0_878 : mj_code 0 878 = some (.iaload, 879, 0, 0, 0) := rfl
theorem c_0_879 : mj_code 0 879 = some (.invokevirtual 118, 882, 189, 0, 1323) := rfl
theorem c_0_882 : mj_code 0 882 = some (.pop, 883, 0, 0, 0) := rfl
theorem c_0_883 : mj_code 0 883 = some (.goto 108, 886, 991, 0, 0) := rfl
theorem c_0_886 : mj_code 0 886 = some (.aload_n 1, 887, 0, 0, 0) := rfl
theorem c_0_887 : mj_code 0 887 = some (.aload_n 0, 888, 0, 0, 0) := rfl
theorem c_0_888 : mj_code 0 888 = some (.iload_n 3, 889, 0, 0, 0) := rfl
theorem c_0_889 : mj_code 0 889 = some (.iconst 1, 890, 0, 0, 0) := rfl
theorem c_0_890 : mj_code 0 890 = some (.iadd, 891, 0, 0, 0) := rfl
theorem c_0_891 : mj_code 0 891 = some (.iaload, 892, 0, 0, 0) := rfl
theorem c_0_892 : mj_code 0 892 = some (.invokevirtual 119, 895, 117, 0, 956) := rfl
theorem c_0_895 : mj_code 0 895 = some (.pop, 896, 0, 0, 0) := rfl
theorem c_0_896 : mj_code 0 896 = some (.aload_n 2, 897, 0, 0, 0) := rfl
theorem c_0_897 : mj_code 0 897 = some (.aload_n 0, 898, 0, 0, 0) := rfl
theorem c_0_898 : mj_code 0 898 = some (.iload_n 3, 899, 0, 0, 0) := rfl
theorem c_0_899 : mj_code 0 899 = some (.iconst 1, 900, 0, 0, 0) := rfl
theorem c_0_900 : mj_code 0 900 = some (.iadd, 901, 0, 0, 0) := rfl
theorem c_0_901 : mj_code 0 901 = some (.iaload, 902, 0, 0, 0) := rfl
theorem c_0_902 : mj_code 0 902 = some (.invokevirtual 122, 905, 192, 0, 1331) := rfl
theorem c_0_905 : mj_code 0 905 = some (.pop, 906, 0, 0, 0) := rfl
theorem c_0_906 : mj_code 0 906 = some (.goto 85, 909, 991, 0, 0) := rfl
theorem c_0_909 : mj_code 0 909 = some (.aload_n 1, 910, 0, 0, 0) := rfl
theorem c_0_910 : mj_code 0 910 = some (.invokevirtual 123, 913, 118, 0, 982) := rfl
theorem c_0_913 : mj_code 0 913 = some (.pop, 914, 0, 0, 0) := rfl
theorem c_0_914 : mj_code 0 914 = some (.aload_n 2, 915, 0, 0, 0) := rfl
theorem c_0_915 : mj_code 0 915 = some (.invokevirtual 126, 918, 194, 0, 1343) := rfl
theorem c_0_918 : mj_code 0 918 = some (.pop, 919, 0, 0, 0) := rfl
theorem c_0_919 : mj_code 0 919 = some (.goto 72, 922, 991, 0, 0) := rfl
theorem c_0_922 : mj_code 0 922 = some (.aload_n 1, 923, 0, 0, 0) := rfl
theorem c_0_923 : mj_code 0 923 = some (.aload_n 0, 924, 0, 0, 0) := rfl
theorem c_0_924 : mj_code 0 924 = some (.iload_n 3, 925, 0, 0, 0) := rfl
theorem c_0_925 : mj_code 0 925 = some (.iconst 1, 926, 0, 0, 0) := rfl
theorem c_0_926 : mj_code 0 926 = some (.iadd, 927, 0, 0, 0) := rfl
theorem c_0_927 : mj_code 0 927 = some (.iaload, 928, 0, 0, 0) := rfl
theorem c_0_928 : mj_code 0 928 = some (.invokevirtual 127, 931, 119, 0, 991) := rfl
theorem c_0_931 : mj_code 0 931 = some (.pop, 932, 0, 0, 0) := rfl
theorem c_0_932 : mj_code 0 932 = some (.aload_n 2, 933, 0, 0, 0) := rfl
theorem c_0_933 : mj_code 0 933 = some (.aload_n 0, 934, 0, 0, 0) := rfl
theorem c_0_934 : mj_code 0 934 = some (.iload_n 3, 935, 0, 0, 0) := rfl
theorem c_0_935 : mj_code 0 935 = some (.iconst 1, 936, 0, 0, 0) := rfl
theorem c_0_936 : mj_code 0 936 = some (.iadd, 937, 0, 0, 0) := rfl
theorem c_0_937 : mj_code 0 937 = some (.iaload, 938, 0, 0, 0) := rfl
theorem c_0_938 : mj_code 0 938 = some (.invokevirtual 130, 941, 195, 0, 1351) := rfl
theorem c_0_941 : mj_code 0 941 = some (.pop, 942, 0, 0, 0) := rfl
theorem c_0_942 : mj_code 0 942 = some (.goto 49, 945, 991, 0, 0) := rfl
theorem c_0_945 : mj_code 0 945 = some (.aload_n 1, 946, 0, 0, 0) := rfl
theorem c_0_946 : mj_code 0 946 = some (.aload_n 0, 947, 0, 0, 0) := rfl
theorem c_0_947 : mj_code 0 947 = some (.iload_n 3, 948, 0, 0, 0) := rfl
theorem c_0_948 : mj_code 0 948 = some (.iconst 1, 949, 0, 0, 0) := rfl
theorem c_0_949 : mj_code 0 949 = some (.iadd, 950, 0, 0, 0) := rfl
theorem c_0_950 : mj_code 0 950 = some (.iaload, 951, 0, 0, 0) := rfl
theorem c_0_951 : mj_code 0 951 = some (.invokevirtual 131, 954, 120, 0, 995) := rfl
theorem c_0_954 : mj_code 0 954 = some (.pop2, 955, 0, 0, 0) := rfl
theorem c_0_955 : mj_code 0 955 = some (.aload_n 2, 956, 0, 0, 0) := rfl
theorem c_0_956 : mj_code 0 956 = some (.aload_n 0, 957, 0, 0, 0) := rfl
theorem c_0_957 : mj_code 0 957 = some (.iload_n 3, 958, 0, 0, 0) := rfl
theorem c_0_958 : mj_code 0 958 = some (.iconst 1, 959, 0, 0, 0) := rfl
theorem c_0_959 : mj_code 0 959 = some (.iadd, 960, 0, 0, 0) := rfl
theorem c_0_960 : mj_code 0 960 = some (.iaload, 961, 0, 0, 0) := rfl
theorem c_0_961 : mj_code 0 961 = some (.invokevirtual 134, 964, 200, 0, 1355) := rfl
theorem c_0_964 : mj_code 0 964 = some (.pop2, 965, 0, 0, 0) := rfl
theorem c_0_965 : mj_code 0 965 = some (.goto 26, 968, 991, 0, 0) := rfl
theorem c_0_968 : mj_code 0 968 = some (.aload_n 1, 969, 0, 0, 0) := rfl
theorem c_0_969 : mj_code 0 969 = some (.aload_n 0, 970, 0, 0, 0) := rfl
theorem c_0_970 : mj_code 0 970 = some (.iload_n 3, 971, 0, 0, 0) := rfl
theorem c_0_971 : mj_code 0 971 = some (.iconst 1, 972, 0, 0, 0) := rfl
theorem c_0_972 : mj_code 0 972 = some (.iadd, 973, 0, 0, 0) := rfl
theorem c_0_973 : mj_code 0 973 = some (.iaload, 974, 0, 0, 0) := rfl
theorem c_0_974 : mj_code 0 974 = some (.invokevirtual 135, 977, 121, 0, 1038) := rfl
theorem c_0_977 : mj_code 0 977 = some (.pop, 978, 0, 0, 0) := rfl
theorem c_0_978 : mj_code 0 978 = some (.aload_n 2, 979, 0, 0, 0) := rfl
theorem c_0_979 : mj_code 0 979 = some (.aload_n 0, 980, 0, 0, 0) := rfl
theorem c_0_980 : mj_code 0 980 = some (.iload_n 3, 981, 0, 0, 0) := rfl
theorem c_0_981 : mj_code 0 981 = some (.iconst 1, 982, 0, 0, 0) := rfl
theorem c_0_982 : mj_code 0 982 = some (.iadd, 983, 0, 0, 0) := rfl
theorem c_0_983 : mj_code 0 983 = some (.iaload, 984, 0, 0, 0) := rfl
theorem c_0_984 : mj_code 0 984 = some (.invokevirtual 138, 987, 201, 0, 1376) := rfl
theorem c_0_987 : mj_code 0 987 = some (.pop, 988, 0, 0, 0) := rfl
theorem c_0_988 : mj_code 0 988 = some (.goto 3, 991, 991, 0, 0) := rfl
theorem c_0_991 : mj_code 0 991 = some (.iinc 3 5, 994, 0, 0, 0) := rfl
theorem c_0_994 : mj_code 0 994 = some (.goto (-976), 997, 18, 0, 0) := rfl
theorem c_0_997 : mj_code 0 997 = some (.iconst 1, 998, 0, 0, 0) := rfl
theorem c_0_998 : mj_code 0 998 = some (.ireturn, 999, 0, 0, 0) := rfl
theorem c_2_0 : mj_code 2 0 = some (.aload_n 0, 1, 0, 0, 0) := rfl
theorem c_2_1 : mj_code 2 1 = some (.iload_n 1, 2, 0, 0, 0) := rfl
theorem c_2_2 : mj_code 2 2 = some (.putfield 18, 5, 0, 0, 389) := rfl
theorem c_2_5 : mj_code 2 5 = some (.aload_n 0, 6, 0, 0, 0) := rfl
theorem c_2_6 : mj_code 2 6 = some (.aload_n 3, 7, 0, 0, 0) := rfl
theorem c_2_7 : mj_code 2 7 = some (.iload_n 1, 8, 0, 0, 0) := rfl
theorem c_2_8 : mj_code 2 8 = some (.invokevirtual 22, 11, 12, 0, 583) := rfl
theorem c_2_11 : mj_code 2 11 = some (.putfield 28, 14, 0, 1, 393) := rfl
theorem c_2_14 : mj_code 2 14 = some (.iconst 0, 15, 0, 0, 0) := rfl
theorem c_2_15 : mj_code 2 15 = some (.istore 4, 17, 0, 0, 0) := rfl
theorem c_2_17 : mj_code 2 17 = some (.iconst 0, 18, 0, 0, 0) := rfl
theorem c_2_18 : mj_code 2 18 = some (.istore 5, 20, 0, 0, 0) := rfl
theorem c_2_20 : mj_code 2 20 = some (.iload 5, 22, 0, 0, 0) := rfl
theorem c_2_22 : mj_code 2 22 = some (.aload_n 3, 23, 0, 0, 0) := rfl
theorem c_2_23 : mj_code 2 23 = some (.getfield 31, 26, 1, 1, 114) := rfl
theorem c_2_26 : mj_code 2 26 = some (.if_icmp .ge 41, 29, 67, 0, 0) := rfl
theorem c_2_29 : mj_code 2 29 = some (.aload_n 0, 30, 0, 0, 0) := rfl
theorem c_2_30 : mj_code 2 30 = some (.getfield 9, 33, 0, 2, 395) := rfl
theorem c_2_33 : mj_code 2 33 = some (.iload 5, 35, 0, 0, 0) := rfl
theorem c_2_35 : mj_code 2 35 = some (.aload_n 2, 36, 0, 0, 0) := rfl
theorem c_2_36 : mj_code 2 36 = some (.iload 4, 38, 0, 0, 0) := rfl
theorem c_2_38 : mj_code 2 38 = some (.iaload, 39, 0, 0, 0) := rfl
theorem c_2_39 : mj_code 2 39 = some (.iastore, 40, 0, 0, 0) := rfl
theorem c_2_40 : mj_code 2 40 = some (.iload 4, 42, 0, 0, 0) := rfl
theorem c_2_42 : mj_code 2 42 = some (.iconst 1, 43, 0, 0, 0) := rfl
theorem c_2_43 : mj_code 2 43 = some (.iadd, 44, 0, 0, 0) := rfl
theorem c_2_44 : mj_code 2 44 = some (.aload_n 0, 45, 0, 0, 0) := rfl
theorem c_2_45 : mj_code 2 45 = some (.getfield 28, 48, 0, 1, 393) := rfl
theorem c_2_48 : mj_code 2 48 = some (.if_icmp .ge 10, 51, 58, 0, 0) := rfl
theorem c_2_51 : mj_code 2 51 = some (.iload 4, 53, 0, 0, 0) := rfl
theorem c_2_53 : mj_code 2 53 = some (.iconst 1, 54, 0, 0, 0) := rfl
theorem c_2_54 : mj_code 2 54 = some (.iadd, 55, 0, 0, 0) := rfl
theorem c_2_55 : mj_code 2 55 = some (.goto 4, 58, 59, 0, 0) := rfl
theorem c_2_58 : mj_code 2 58 = some (.iconst 0, 59, 0, 0, 0) := rfl
theorem c_2_59 : mj_code 2 59 = some (.istore 4, 61, 0, 0, 0) := rfl
theorem c_2_61 : mj_code 2 61 = some (.iinc 5 1, 64, 0, 0, 0) := rfl
theorem c_2_64 : mj_code 2 64 = some (.goto (-44), 67, 20, 0, 0) := rfl
theorem c_2_67 : mj_code 2 67 = some (.iconst 0, 68, 0, 0, 0) := rfl
theorem c_2_68 : mj_code 2 68 = some (.istore 5, 70, 0, 0, 0) := rfl
theorem c_2_70 : mj_code 2 70 = some (.iload 5, 72, 0, 0, 0) := rfl
theorem c_2_72 : mj_code 2 72 = some (.aload_n 3, 73, 0, 0, 0) := rfl
theorem c_2_73 : mj_code 2 73 = some (.getfield 31, 76, 1, 1, 114) := rfl
theorem c_2_76 : mj_code 2 76 = some (.if_icmp .ge 58, 79, 134, 0, 0) := rfl
theorem c_2_79 : mj_code 2 79 = some (.aload_n 3, 80, 0, 0, 0) := rfl
theorem c_2_80 : mj_code 2 80 = some (.getfield 34, 83, 1, 2, 117) := rfl
theorem c_2_83 : mj_code 2 83 = some (.iload 5, 85, 0, 0, 0) := rfl
theorem c_2_85 : mj_code 2 85 = some (.iaload, 86, 0, 0, 0) := rfl
theorem c_2_86 : mj_code 2 86 = some (.aload_n 3, 87, 0, 0, 0) := rfl
theorem c_2_87 : mj_code 2 87 = some (.getfield 37, 90, 1, 0, 108) := rfl
theorem c_2_90 : mj_code 2 90 = some (.imul, 91, 0, 0, 0) := rfl
theorem c_2_91 : mj_code 2 91 = some (.aload_n 3, 92, 0, 0, 0) := rfl
theorem c_2_92 : mj_code 2 92 = some (.getfield 40, 95, 1, 4, 131) := rfl
theorem c_2_95 : mj_code 2 95 = some (.iload 5, 97, 0, 0, 0) := rfl
theorem c_2_97 : mj_code 2 97 = some (.iaload, 98, 0, 0, 0) := rfl
theorem c_2_98 : mj_code 2 98 = some (.iadd, 99, 0, 0, 0) := rfl
theorem c_2_99 : mj_code 2 99 = some (.aload_n 3, 100, 0, 0, 0) := rfl
theorem c_2_100 : mj_code 2 100 = some (.getfield 37, 103, 1, 0, 108) := rfl
theorem c_2_103 : mj_code 2 103 = some (.imul, 104, 0, 0, 0) := rfl
theorem c_2_104 : mj_code 2 104 = some (.aload_n 3, 105, 0, 0, 0) := rfl
theorem c_2_105 : mj_code 2 105 = some (.getfield 43, 108, 1, 3, 124) := rfl
theorem c_2_108 : mj_code 2 108 = some (.iload 5, 110, 0, 0, 0) := rfl
theorem c_2_110 : mj_code 2 110 = some (.iaload, 111, 0, 0, 0) := rfl
theorem c_2_111 : mj_code 2 111 = some (.iadd, 112, 0, 0, 0) := rfl
theorem c_2_112 : mj_code 2 112 = some (.istore 6, 114, 0, 0, 0) := rfl
theorem c_2_114 : mj_code 2 114 = some (.aload_n 0, 115, 0, 0, 0) := rfl
theorem c_2_115 : mj_code 2 115 = some (.getfield 15, 118, 0, 3, 399) := rfl
theorem c_2_118 : mj_code 2 118 = some (.iload 5, 120, 0, 0, 0) := rfl
theorem c_2_120 : mj_code 2 120 = some (.aload_n 0, 121, 0, 0, 0) := rfl
theorem c_2_121 : mj_code 2 121 = some (.getfield 9, 124, 0, 2, 395) := rfl
theorem c_2_124 : mj_code 2 124 = some (.iload 6, 126, 0, 0, 0) := rfl
theorem c_2_126 : mj_code 2 126 = some (.iaload, 127, 0, 0, 0) := rfl
theorem c_2_127 : mj_code 2 127 = some (.iastore, 128, 0, 0, 0) := rfl
theorem c_2_128 : mj_code 2 128 = some (.iinc 5 1, 131, 0, 0, 0) := rfl
theorem c_2_131 : mj_code 2 131 = some (.goto (-61), 134, 70, 0, 0) := rfl
theorem c_2_134 : mj_code 2 134 = some (.return_, 135, 0, 0, 0) := rfl
theorem c_3_0 : mj_code 3 0 = some (.iconst 0, 1, 0, 0, 0) := rfl
theorem c_3_1 : mj_code 3 1 = some (.istore_n 3, 2, 0, 0, 0) := rfl
theorem c_3_2 : mj_code 3 2 = some (.iload_n 3, 3, 0, 0, 0) := rfl
theorem c_3_3 : mj_code 3 3 = some (.aload_n 0, 4, 0, 0, 0) := rfl
theorem c_3_4 : mj_code 3 4 = some (.getfield 28, 7, 0, 1, 393) := rfl
theorem c_3_7 : mj_code 3 7 = some (.if_icmp .ge 44, 10, 51, 0, 0) := rfl
theorem c_3_10 : mj_code 3 10 = some (.aload_n 2, 11, 0, 0, 0) := rfl
theorem c_3_11 : mj_code 3 11 = some (.iload_n 3, 12, 0, 0, 0) := rfl
theorem c_3_12 : mj_code 3 12 = some (.aload_n 0, 13, 0, 0, 0) := rfl
theorem c_3_13 : mj_code 3 13 = some (.getfield 18, 16, 0, 0, 389) := rfl
theorem c_3_16 : mj_code 3 16 = some (.invokevirtual 46, 19, 16, 0, 697) := rfl
theorem c_3_19 : mj_code 3 19 = some (.istore 4, 21, 0, 0, 0) := rfl
theorem c_3_21 : mj_code 3 21 = some (.iload 4, 23, 0, 0, 0) := rfl
theorem c_3_23 : mj_code 3 23 = some (.iload_n 1, 24, 0, 0, 0) := rfl
theorem c_3_24 : mj_code 3 24 = some (.iand, 25, 0, 0, 0) := rfl
theorem c_3_25 : mj_code 3 25 = some (.iload 4, 27, 0, 0, 0) := rfl
theorem c_3_27 : mj_code 3 27 = some (.if_icmp .ne 18, 30, 45, 0, 0) := rfl
theorem c_3_30 : mj_code 3 30 = some (.iload_n 1, 31, 0, 0, 0) := rfl
theorem c_3_31 : mj_code 3 31 = some (.aload_n 0, 32, 0, 0, 0) := rfl
theorem c_3_32 : mj_code 3 32 = some (.getfield 9, 35, 0, 2, 395) := rfl
theorem c_3_35 : mj_code 3 35 = some (.iload_n 3, 36, 0, 0, 0) := rfl
theorem c_3_36 : mj_code 3 36 = some (.iaload, 37, 0, 0, 0) := rfl
theorem c_3_37 : mj_code 3 37 = some (.ishr, 38, 0, 0, 0) := rfl
theorem c_3_38 : mj_code 3 38 = some (.iconst 1, 39, 0, 0, 0) := rfl
theorem c_3_39 : mj_code 3 39 = some (.iand, 40, 0, 0, 0) := rfl
theorem c_3_40 : mj_code 3 40 = some (.ifCond .ne 5, 43, 45, 0, 0) := rfl
theorem c_3_43 : mj_code 3 43 = some (.iconst 0, 44, 0, 0, 0) := rfl
theorem c_3_44 : mj_code 3 44 = some (.ireturn, 45, 0, 0, 0) := rfl
theorem c_3_45 : mj_code 3 45 = some (.iinc 3 1, 48, 0, 0, 0) := rfl
theorem c_3_48 : mj_code 3 48 = some (.goto (-46), 51, 2, 0, 0) := rfl
theorem c_3_51 : mj_code 3 51 = some (.iconst 1, 52, 0, 0, 0) := rfl
theorem c_3_52 : mj_code 3 52 = some (.ireturn, 53, 0, 0, 0) := rfl
theorem c_4_0 : mj_code 4 0 = some (.iconst 0, 1, 0, 0, 0) := rfl
theorem c_4_1 : mj_code 4 1 = some (.istore_n 3, 2, 0, 0, 0) := rfl
theorem c_4_2 : mj_code 4 2 = some (.iload_n 3, 3, 0, 0, 0) := rfl
theorem c_4_3 : mj_code 4 3 = some (.aload_n 0, 4, 0, 0, 0) := rfl
theorem c_4_4 : mj_code 4 4 = some (.getfield 28, 7, 0, 1, 393) := rfl
theorem c_4_7 : mj_code 4 7 = some (.if_icmp .ge 83, 10, 90, 0, 0) := rfl
theorem c_4_10 : mj_code 4 10 = some (.iload_n 1, 11, 0, 0, 0) := rfl
theorem c_4_11 : mj_code 4 11 = some (.aload_n 2, 12, 0, 0, 0) := rfl
theorem c_4_12 : mj_code 4 12 = some (.getfield 34, 15, 1, 2, 117) := rfl
theorem c_4_15 : mj_code 4 15 = some (.iload_n 3, 16, 0, 0, 0) := rfl
theorem c_4_16 : mj_code 4 16 = some (.iaload, 17, 0, 0, 0) := rfl
theorem c_4_17 : mj_code 4 17 = some (.invokestatic 50, 20, 6, 1, 909) := rfl
theorem c_4_20 : mj_code 4 20 = some (.aload_n 2, 21, 0, 0, 0) := rfl
theorem c_4_21 : mj_code 4 21 = some (.getfield 37, 24, 1, 0, 108) := rfl
theorem c_4_24 : mj_code 4 24 = some (.imul, 25, 0, 0, 0) := rfl
theorem c_4_25 : mj_code 4 25 = some (.iload_n 1, 26, 0, 0, 0) := rfl
theorem c_4_26 : mj_code 4 26 = some (.aload_n 2, 27, 0, 0, 0) := rfl
theorem c_4_27 : mj_code 4 27 = some (.getfield 43, 30, 1, 3, 124) := rfl
theorem c_4_30 : mj_code 4 30 = some (.iload_n 3, 31, 0, 0, 0) := rfl
theorem c_4_31 : mj_code 4 31 = some (.iaload, 32, 0, 0, 0) := rfl
theorem c_4_32 : mj_code 4 32 = some (.invokestatic 50, 35, 6, 1, 909) := rfl
theorem c_4_35 : mj_code 4 35 = some (.iadd, 36, 0, 0, 0) := rfl
theorem c_4_36 : mj_code 4 36 = some (.istore 4, 38, 0, 0, 0) := rfl
theorem c_4_38 : mj_code 4 38 = some (.iload 4, 40, 0, 0, 0) := rfl
theorem c_4_40 : mj_code 4 40 = some (.aload_n 2, 41, 0, 0, 0) := rfl
theorem c_4_41 : mj_code 4 41 = some (.getfield 37, 44, 1, 0, 108) := rfl
theorem c_4_44 : mj_code 4 44 = some (.imul, 45, 0, 0, 0) := rfl
theorem c_4_45 : mj_code 4 45 = some (.iload_n 1, 46, 0, 0, 0) := rfl
theorem c_4_46 : mj_code 4 46 = some (.aload_n 2, 47, 0, 0, 0) := rfl
theorem c_4_47 : mj_code 4 47 = some (.getfield 40, 50, 1, 4, 131) := rfl
theorem c_4_50 : mj_code 4 50 = some (.iload_n 3, 51, 0, 0, 0) := rfl
theorem c_4_51 : mj_code 4 51 = some (.iaload, 52, 0, 0, 0) := rfl
theorem c_4_52 : mj_code 4 52 = some (.invokestatic 50, 55, 6, 1, 909) := rfl
theorem c_4_55 : mj_code 4 55 = some (.iadd, 56, 0, 0, 0) := rfl
theorem c_4_56 : mj_code 4 56 = some (.istore 4, 58, 0, 0, 0) := rfl
theorem c_4_58 : mj_code 4 58 = some (.iload_n 1, 59, 0, 0, 0) := rfl
theorem c_4_59 : mj_code 4 59 = some (.aload_n 0, 60, 0, 0, 0) := rfl
theorem c_4_60 : mj_code 4 60 = some (.getfield 9, 63, 0, 2, 395) := rfl
theorem c_4_63 : mj_code 4 63 = some (.iload_n 3, 64, 0, 0, 0) := rfl
theorem c_4_64 : mj_code 4 64 = some (.iaload, 65, 0, 0, 0) := rfl
theorem c_4_65 : mj_code 4 65 = some (.invokestatic 50, 68, 6, 1, 909) := rfl
theorem c_4_68 : mj_code 4 68 = some (.iload_n 1, 69, 0, 0, 0) := rfl
theorem c_4_69 : mj_code 4 69 = some (.aload_n 0, 70, 0, 0, 0) := rfl
theorem c_4_70 : mj_code 4 70 = some (.getfield 9, 73, 0, 2, 395) := rfl
theorem c_4_73 : mj_code 4 73 = some (.iload 4, 75, 0, 0, 0) := rfl
theorem c_4_75 : mj_code 4 75 = some (.iaload, 76, 0, 0, 0) := rfl
theorem c_4_76 : mj_code 4 76 = some (.invokestatic 50, 79, 6, 1, 909) := rfl
theorem c_4_79 : mj_code 4 79 = some (.if_icmp .eq 5, 82, 84, 0, 0) := rfl
theorem c_4_82 : mj_code 4 82 = some (.iconst 0, 83, 0, 0, 0) := rfl
theorem c_4_83 : mj_code 4 83 = some (.ireturn, 84, 0, 0, 0) := rfl
theorem c_4_84 : mj_code 4 84 = some (.iinc 3 1, 87, 0, 0, 0) := rfl
theorem c_4_87 : mj_code 4 87 = some (.goto (-85), 90, 2, 0, 0) := rfl
theorem c_4_90 : mj_code 4 90 = some (.iconst 1, 91, 0, 0, 0) := rfl
theorem c_4_91 : mj_code 4 91 = some (.ireturn, 92, 0, 0, 0) := rfl
theorem c_5_0 : mj_code 5 0 = some (.iconst 0, 1, 0, 0, 0) := rfl
theorem c_5_1 : mj_code 5 1 = some (.istore_n 1, 2, 0, 0, 0) := rfl
theorem c_5_2 : mj_code 5 2 = some (.aload_n 0, 3, 0, 0, 0) := rfl
theorem c_5_3 : mj_code 5 3 = some (.getfield 9, 6, 0, 2, 395) := rfl
theorem c_5_6 : mj_code 5 6 = some (.iconst 0, 7, 0, 0, 0) := rfl
theorem c_5_7 : mj_code 5 7 = some (.iaload, 8, 0, 0, 0) := rfl
theorem c_5_8 : mj_code 5 8 = some (.ifCond .ne 7, 11, 15, 0, 0) := rfl
theorem c_5_11 : mj_code 5 11 = some (.iload_n 1, 12, 0, 0, 0) := rfl
theorem c_5_12 : mj_code 5 12 = some (.iconst 1, 13, 0, 0, 0) := rfl
theorem c_5_13 : mj_code 5 13 = some (.ior, 14, 0, 0, 0) := rfl
theorem c_5_14 : mj_code 5 14 = some (.istore_n 1, 15, 0, 0, 0) := rfl
theorem c_5_15 : mj_code 5 15 = some (.aload_n 0, 16, 0, 0, 0) := rfl
theorem c_5_16 : mj_code 5 16 = some (.getfield 9, 19, 0, 2, 395) := rfl
theorem c_5_19 : mj_code 5 19 = some (.aload_n 0, 20, 0, 0, 0) := rfl
theorem c_5_20 : mj_code 5 20 = some (.getfield 28, 23, 0, 1, 393) := rfl
theorem c_5_23 : mj_code 5 23 = some (.iconst 1, 24, 0, 0, 0) := rfl
theorem c_5_24 : mj_code 5 24 = some (.isub, 25, 0, 0, 0) := rfl
theorem c_5_25 : mj_code 5 25 = some (.iaload, 26, 0, 0, 0) := rfl
theorem c_5_26 : mj_code 5 26 = some (.iconst 1, 27, 0, 0, 0) := rfl
theorem c_5_27 : mj_code 5 27 = some (.if_icmp .ne 7, 30, 34, 0, 0) := rfl
theorem c_5_30 : mj_code 5 30 = some (.iload_n 1, 31, 0, 0, 0) := rfl
theorem c_5_31 : mj_code 5 31 = some (.iconst 2, 32, 0, 0, 0) := rfl
theorem c_5_32 : mj_code 5 32 = some (.ior, 33, 0, 0, 0) := rfl
theorem c_5_33 : mj_code 5 33 = some (.istore_n 1, 34, 0, 0, 0) := rfl
theorem c_5_34 : mj_code 5 34 = some (.aload_n 0, 35, 0, 0, 0) := rfl
theorem c_5_35 : mj_code 5 35 = some (.invokevirtual 53, 38, 7, 0, 924) := rfl
theorem c_5_38 : mj_code 5 38 = some (.ifCond .eq 7, 41, 45, 0, 0) := rfl
theorem c_5_41 : mj_code 5 41 = some (.iload_n 1, 42, 0, 0, 0) := rfl
theorem c_5_42 : mj_code 5 42 = some (.iconst 4, 43, 0, 0, 0) := rfl
theorem c_5_43 : mj_code 5 43 = some (.ior, 44, 0, 0, 0) := rfl
theorem c_5_44 : mj_code 5 44 = some (.istore_n 1, 45, 0, 0, 0) := rfl
theorem c_5_45 : mj_code 5 45 = some (.aload_n 0, 46, 0, 0, 0) := rfl
theorem c_5_46 : mj_code 5 46 = some (.invokevirtual 57, 49, 8, 0, 928) := rfl
theorem c_5_49 : mj_code 5 49 = some (.ifCond .eq 8, 52, 57, 0, 0) := rfl
theorem c_5_52 : mj_code 5 52 = some (.iload_n 1, 53, 0, 0, 0) := rfl
theorem c_5_53 : mj_code 5 53 = some (.bipush 8, 55, 0, 0, 0) := rfl
theorem c_5_55 : mj_code 5 55 = some (.ior, 56, 0, 0, 0) := rfl
theorem c_5_56 : mj_code 5 56 = some (.istore_n 1, 57, 0, 0, 0) := rfl
theorem c_5_57 : mj_code 5 57 = some (.aload_n 0, 58, 0, 0, 0) := rfl
theorem c_5_58 : mj_code 5 58 = some (.invokevirtual 60, 61, 9, 0, 932) := rfl
theorem c_5_61 : mj_code 5 61 = some (.ifCond .eq 8, 64, 69, 0, 0) := rfl
theorem c_5_64 : mj_code 5 64 = some (.iload_n 1, 65, 0, 0, 0) := rfl
theorem c_5_65 : mj_code 5 65 = some (.bipush 16, 67, 0, 0, 0) := rfl
theorem c_5_67 : mj_code 5 67 = some (.ior, 68, 0, 0, 0) := rfl
theorem c_5_68 : mj_code 5 68 = some (.istore_n 1, 69, 0, 0, 0) := rfl
theorem c_5_69 : mj_code 5 69 = some (.iload_n 1, 70, 0, 0, 0) := rfl
theorem c_5_70 : mj_code 5 70 = some (.ireturn, 71, 0, 0, 0) := rfl
theorem c_6_0 : mj_code 6 0 = some (.iload_n 0, 1, 0, 0, 0) := rfl
theorem c_6_1 : mj_code 6 1 = some (.iconst 2, 2, 0, 0, 0) := rfl
theorem c_6_2 : mj_code 6 2 = some (.iload_n 1, 3, 0, 0, 0) := rfl
theorem c_6_3 : mj_code 6 3 = some (.imul, 4, 0, 0, 0) := rfl
theorem c_6_4 : mj_code 6 4 = some (.ishr, 5, 0, 0, 0) := rfl
theorem c_6_5 : mj_code 6 5 = some (.iconst 3, 6, 0, 0, 0) := rfl
theorem c_6_6 : mj_code 6 6 = some (.iand, 7, 0, 0, 0) := rfl
theorem c_6_7 : mj_code 6 7 = some (.ireturn, 8, 0, 0, 0) := rfl
theorem c_7_0 : mj_code 7 0 = some (.iconst 0, 1, 0, 0, 0) := rfl
theorem c_7_1 : mj_code 7 1 = some (.istore_n 1, 2, 0, 0, 0) := rfl
theorem c_7_2 : mj_code 7 2 = some (.iload_n 1, 3, 0, 0, 0) := rfl
theorem c_7_3 : mj_code 7 3 = some (.aload_n 0, 4, 0, 0, 0) := rfl
theorem c_7_4 : mj_code 7 4 = some (.getfield 28, 7, 0, 1, 393) := rfl
theorem c_7_7 : mj_code 7 7 = some (.if_icmp .ge 45, 10, 52, 0, 0) := rfl
theorem c_7_10 : mj_code 7 10 = some (.iconst 1, 11, 0, 0, 0) := rfl
theorem c_7_11 : mj_code 7 11 = some (.istore_n 2, 12, 0, 0, 0) := rfl
theorem c_7_12 : mj_code 7 12 = some (.iload_n 2, 13, 0, 0, 0) := rfl
theorem c_7_13 : mj_code 7 13 = some (.aload_n 0, 14, 0, 0, 0) := rfl
theorem c_7_14 : mj_code 7 14 = some (.getfield 28, 17, 0, 1, 393) := rfl
theorem c_7_17 : mj_code 7 17 = some (.if_icmp .ge 29, 20, 46, 0, 0) := rfl
theorem c_7_20 : mj_code 7 20 = some (.aload_n 0, 21, 0, 0, 0) := rfl
theorem c_7_21 : mj_code 7 21 = some (.getfield 9, 24, 0, 2, 395) := rfl
theorem c_7_24 : mj_code 7 24 = some (.iload_n 1, 25, 0, 0, 0) := rfl
theorem c_7_25 : mj_code 7 25 = some (.iaload, 26, 0, 0, 0) := rfl
theorem c_7_26 : mj_code 7 26 = some (.aload_n 0, 27, 0, 0, 0) := rfl
theorem c_7_27 : mj_code 7 27 = some (.getfield 9, 30, 0, 2, 395) := rfl
theorem c_7_30 : mj_code 7 30 = some (.iload_n 1, 31, 0, 0, 0) := rfl
theorem c_7_31 : mj_code 7 31 = some (.iload_n 2, 32, 0, 0, 0) := rfl
theorem c_7_32 : mj_code 7 32 = some (.ior, 33, 0, 0, 0) := rfl
theorem c_7_33 : mj_code 7 33 = some (.iaload, 34, 0, 0, 0) := rfl
theorem c_7_34 : mj_code 7 34 = some (.if_icmp .le 5, 37, 39, 0, 0) := rfl
theorem c_7_37 : mj_code 7 37 = some (.iconst 0, 38, 0, 0, 0) := rfl
theorem c_7_38 : mj_code 7 38 = some (.ireturn, 39, 0, 0, 0) := rfl
theorem c_7_39 : mj_code 7 39 = some (.iload_n 2, 40, 0, 0, 0) := rfl
theorem c_7_40 : mj_code 7 40 = some (.iconst 2, 41, 0, 0, 0) := rfl
theorem c_7_41 : mj_code 7 41 = some (.imul, 42, 0, 0, 0) := rfl
theorem c_7_42 : mj_code 7 42 = some (.istore_n 2, 43, 0, 0, 0) := rfl
theorem c_7_43 : mj_code 7 43 = some (.goto (-31), 46, 12, 0, 0) := rfl
theorem c_7_46 : mj_code 7 46 = some (.iinc 1 1, 49, 0, 0, 0) := rfl
theorem c_7_49 : mj_code 7 49 = some (.goto (-47), 52, 2, 0, 0) := rfl
theorem c_7_52 : mj_code 7 52 = some (.iconst 1, 53, 0, 0, 0) := rfl
theorem c_7_53 : mj_code 7 53 = some (.ireturn, 54, 0, 0, 0) := rfl
theorem c_8_0 : mj_code 8 0 = some (.iconst 0, 1, 0, 0, 0) := rfl
theorem c_8_1 : mj_code 8 1 = some (.istore_n 1, 2, 0, 0, 0) := rfl
theorem c_8_2 : mj_code 8 2 = some (.iload_n 1, 3, 0, 0, 0) := rfl
theorem c_8_3 : mj_code 8 3 = some (.aload_n 0, 4, 0, 0, 0) := rfl
theorem c_8_4 : mj_code 8 4 = some (.getfield 28, 7, 0, 1, 393) := rfl
theorem c_8_7 : mj_code 8 7 = some (.if_icmp .ge 33, 10, 40, 0, 0) := rfl
theorem c_8_10 : mj_code 8 10 = some (.aload_n 0, 11, 0, 0, 0) := rfl
theorem c_8_11 : mj_code 8 11 = some (.getfield 9, 14, 0, 2, 395) := rfl
theorem c_8_14 : mj_code 8 14 = some (.iload_n 1, 15, 0, 0, 0) := rfl
theorem c_8_15 : mj_code 8 15 = some (.iaload, 16, 0, 0, 0) := rfl
theorem c_8_16 : mj_code 8 16 = some (.aload_n 0, 17, 0, 0, 0) := rfl
theorem c_8_17 : mj_code 8 17 = some (.getfield 9, 20, 0, 2, 395) := rfl
theorem c_8_20 : mj_code 8 20 = some (.aload_n 0, 21, 0, 0, 0) := rfl
theorem c_8_21 : mj_code 8 21 = some (.getfield 28, 24, 0, 1, 393) := rfl
theorem c_8_24 : mj_code 8 24 = some (.iconst 1, 25, 0, 0, 0) := rfl
theorem c_8_25 : mj_code 8 25 = some (.isub, 26, 0, 0, 0) := rfl
theorem c_8_26 : mj_code 8 26 = some (.iload_n 1, 27, 0, 0, 0) := rfl
theorem c_8_27 : mj_code 8 27 = some (.isub, 28, 0, 0, 0) := rfl
theorem c_8_28 : mj_code 8 28 = some (.iaload, 29, 0, 0, 0) := rfl
theorem c_8_29 : mj_code 8 29 = some (.if_icmp .ne 5, 32, 34, 0, 0) := rfl
theorem c_8_32 : mj_code 8 32 = some (.iconst 0, 33, 0, 0, 0) := rfl
theorem c_8_33 : mj_code 8 33 = some (.ireturn, 34, 0, 0, 0) := rfl
theorem c_8_34 : mj_code 8 34 = some (.iinc 1 1, 37, 0, 0, 0) := rfl
theorem c_8_37 : mj_code 8 37 = some (.goto (-35), 40, 2, 0, 0) := rfl
theorem c_8_40 : mj_code 8 40 = some (.iconst 1, 41, 0, 0, 0) := rfl
theorem c_8_41 : mj_code 8 41 = some (.ireturn, 42, 0, 0, 0) := rfl
theorem c_9_0 : mj_code 9 0 = some (.iconst 0, 1, 0, 0, 0) := rfl
theorem c_9_1 : mj_code 9 1 = some (.istore_n 1, 2, 0, 0, 0) := rfl
theorem c_9_2 : mj_code 9 2 = some (.iload_n 1, 3, 0, 0, 0) := rfl
theorem c_9_3 : mj_code 9 3 = some (.aload_n 0, 4, 0, 0, 0) := rfl
theorem c_9_4 : mj_code 9 4 = some (.getfield 28, 7, 0, 1, 393) := rfl
theorem c_9_7 : mj_code 9 7 = some (.if_icmp .ge 67, 10, 74, 0, 0) := rfl
theorem c_9_10 : mj_code 9 10 = some (.aload_n 0, 11, 0, 0, 0) := rfl
theorem c_9_11 : mj_code 9 11 = some (.getfield 9, 14, 0, 2, 395) := rfl
theorem c_9_14 : mj_code 9 14 = some (.iconst 0, 15, 0, 0, 0) := rfl
theorem c_9_15 : mj_code 9 15 = some (.iaload, 16, 0, 0, 0) := rfl
theorem c_9_16 : mj_code 9 16 = some (.istore_n 2, 17, 0, 0, 0) := rfl
theorem c_9_17 : mj_code 9 17 = some (.iconst 1, 18, 0, 0, 0) := rfl
theorem c_9_18 : mj_code 9 18 = some (.istore_n 3, 19, 0, 0, 0) := rfl
theorem c_9_19 : mj_code 9 19 = some (.iload_n 3, 20, 0, 0, 0) := rfl
theorem c_9_20 : mj_code 9 20 = some (.aload_n 0, 21, 0, 0, 0) := rfl
theorem c_9_21 : mj_code 9 21 = some (.getfield 28, 24, 0, 1, 393) := rfl
theorem c_9_24 : mj_code 9 24 = some (.if_icmp .ge 32, 27, 56, 0, 0) := rfl
theorem c_9_27 : mj_code 9 27 = some (.iload_n 1, 28, 0, 0, 0) := rfl
theorem c_9_28 : mj_code 9 28 = some (.iload_n 3, 29, 0, 0, 0) := rfl
theorem c_9_29 : mj_code 9 29 = some (.iand, 30, 0, 0, 0) := rfl
theorem c_9_30 : mj_code 9 30 = some (.ifCond .eq 19, 33, 49, 0, 0) := rfl
theorem c_9_33 : mj_code 9 33 = some (.iload_n 2, 34, 0, 0, 0) := rfl
theorem c_9_34 : mj_code 9 34 = some (.aload_n 0, 35, 0, 0, 0) := rfl
theorem c_9_35 : mj_code 9 35 = some (.getfield 9, 38, 0, 2, 395) := rfl
theorem c_9_38 : mj_code 9 38 = some (.iload_n 3, 39, 0, 0, 0) := rfl
theorem c_9_39 : mj_code 9 39 = some (.iaload, 40, 0, 0, 0) := rfl
theorem c_9_40 : mj_code 9 40 = some (.aload_n 0, 41, 0, 0, 0) := rfl
theorem c_9_41 : mj_code 9 41 = some (.getfield 9, 44, 0, 2, 395) := rfl
theorem c_9_44 : mj_code 9 44 = some (.iconst 0, 45, 0, 0, 0) := rfl
theorem c_9_45 : mj_code 9 45 = some (.iaload, 46, 0, 0, 0) := rfl
theorem c_9_46 : mj_code 9 46 = some (.ixor, 47, 0, 0, 0) := rfl
theorem c_9_47 : mj_code 9 47 = some (.ixor, 48, 0, 0, 0) := rfl
theorem c_9_48 : mj_code 9 48 = some (.istore_n 2, 49, 0, 0, 0) := rfl
theorem c_9_49 : mj_code 9 49 = some (.iload_n 3, 50, 0, 0, 0) := rfl
theorem c_9_50 : mj_code 9 50 = some (.iconst 2, 51, 0, 0, 0) := rfl
theorem c_9_51 : mj_code 9 51 = some (.imul, 52, 0, 0, 0) := rfl
theorem c_9_52 : mj_code 9 52 = some (.istore_n 3, 53, 0, 0, 0) := rfl
theorem c_9_53 : mj_code 9 53 = some (.goto (-34), 56, 19, 0, 0) := rfl
theorem c_9_56 : mj_code 9 56 = some (.iload_n 2, 57, 0, 0, 0) := rfl
theorem c_9_57 : mj_code 9 57 = some (.aload_n 0, 58, 0, 0, 0) := rfl
theorem c_9_58 : mj_code 9 58 = some (.getfield 9, 61, 0, 2, 395) := rfl
theorem c_9_61 : mj_code 9 61 = some (.iload_n 1, 62, 0, 0, 0) := rfl
theorem c_9_62 : mj_code 9 62 = some (.iaload, 63, 0, 0, 0) := rfl
theorem c_9_63 : mj_code 9 63 = some (.if_icmp .eq 5, 66, 68, 0, 0) := rfl
theorem c_9_66 : mj_code 9 66 = some (.iconst 0, 67, 0, 0, 0) := rfl
theorem c_9_67 : mj_code 9 67 = some (.ireturn, 68, 0, 0, 0) := rfl
theorem c_9_68 : mj_code 9 68 = some (.iinc 1 1, 71, 0, 0, 0) := rfl
theorem c_9_71 : mj_code 9 71 = some (.goto (-69), 74, 2, 0, 0) := rfl
theorem c_9_74 : mj_code 9 74 = some (.iconst 1, 75, 0, 0, 0) := rfl
theorem c_9_75 : mj_code 9 75 = some (.ireturn, 76, 0, 0, 0) := rfl
theorem c_11_0 : mj_code 11 0 = some (.aload_n 0, 1, 0, 0, 0) := rfl
theorem c_11_1 : mj_code 11 1 = some (.iload_n 1, 2, 0, 0, 0) := rfl
theorem c_11_2 : mj_code 11 2 = some (.putfield 9, 5, 1, 0, 107) := rfl
theorem c_11_5 : mj_code 11 5 = some (.aload_n 0, 6, 0, 0, 0) := rfl
theorem c_11_6 : mj_code 11 6 = some (.aload_n 0, 7, 0, 0, 0) := rfl
theorem c_11_7 : mj_code 11 7 = some (.getfield 9, 10, 1, 0, 107) := rfl
theorem c_11_10 : mj_code 11 10 = some (.aload_n 0, 11, 0, 0, 0) := rfl
theorem c_11_11 : mj_code 11 11 = some (.getfield 9, 14, 1, 0, 107) := rfl
theorem c_11_14 : mj_code 11 14 = some (.imul, 15, 0, 0, 0) := rfl
theorem c_11_15 : mj_code 11 15 = some (.aload_n 0, 16, 0, 0, 0) := rfl
theorem c_11_16 : mj_code 11 16 = some (.getfield 9, 19, 1, 0, 107) := rfl
theorem c_11_19 : mj_code 11 19 = some (.imul, 20, 0, 0, 0) := rfl
theorem c_11_20 : mj_code 11 20 = some (.putfield 15, 23, 1, 1, 113) := rfl
theorem c_11_23 : mj_code 11 23 = some (.iconst 0, 24, 0, 0, 0) := rfl
theorem c_11_24 : mj_code 11 24 = some (.istore_n 2, 25, 0, 0, 0) := rfl
theorem c_11_25 : mj_code 11 25 = some (.iconst 0, 26, 0, 0, 0) := rfl
theorem c_11_26 : mj_code 11 26 = some (.istore_n 3, 27, 0, 0, 0) := rfl
theorem c_11_27 : mj_code 11 27 = some (.iload_n 3, 28, 0, 0, 0) := rfl
theorem c_11_28 : mj_code 11 28 = some (.aload_n 0, 29, 0, 0, 0) := rfl
theorem c_11_29 : mj_code 11 29 = some (.getfield 9, 32, 1, 0, 107) := rfl
theorem c_11_32 : mj_code 11 32 = some (.if_icmp .ge 71, 35, 103, 0, 0) := rfl
theorem c_11_35 : mj_code 11 35 = some (.iconst 0, 36, 0, 0, 0) := rfl
theorem c_11_36 : mj_code 11 36 = some (.istore 4, 38, 0, 0, 0) := rfl
theorem c_11_38 : mj_code 11 38 = some (.iload 4, 40, 0, 0, 0) := rfl
theorem c_11_40 : mj_code 11 40 = some (.aload_n 0, 41, 0, 0, 0) := rfl
theorem c_11_41 : mj_code 11 41 = some (.getfield 9, 44, 1, 0, 107) := rfl
theorem c_11_44 : mj_code 11 44 = some (.if_icmp .ge 53, 47, 97, 0, 0) := rfl
theorem c_11_47 : mj_code 11 47 = some (.iconst 0, 48, 0, 0, 0) := rfl
theorem c_11_48 : mj_code 11 48 = some (.istore 5, 50, 0, 0, 0) := rfl
theorem c_11_50 : mj_code 11 50 = some (.iload 5, 52, 0, 0, 0) := rfl
theorem c_11_52 : mj_code 11 52 = some (.aload_n 0, 53, 0, 0, 0) := rfl
theorem c_11_53 : mj_code 11 53 = some (.getfield 9, 56, 1, 0, 107) := rfl
theorem c_11_56 : mj_code 11 56 = some (.if_icmp .ge 35, 59, 91, 0, 0) := rfl
theorem c_11_59 : mj_code 11 59 = some (.aload_n 0, 60, 0, 0, 0) := rfl
theorem c_11_60 : mj_code 11 60 = some (.getfield 18, 63, 1, 2, 116) := rfl
theorem c_11_63 : mj_code 11 63 = some (.iload_n 2, 64, 0, 0, 0) := rfl
theorem c_11_64 : mj_code 11 64 = some (.iload_n 3, 65, 0, 0, 0) := rfl
theorem c_11_65 : mj_code 11 65 = some (.iastore, 66, 0, 0, 0) := rfl
theorem c_11_66 : mj_code 11 66 = some (.aload_n 0, 67, 0, 0, 0) := rfl
theorem c_11_67 : mj_code 11 67 = some (.getfield 22, 70, 1, 3, 123) := rfl
theorem c_11_70 : mj_code 11 70 = some (.iload_n 2, 71, 0, 0, 0) := rfl
theorem c_11_71 : mj_code 11 71 = some (.iload 4, 73, 0, 0, 0) := rfl
theorem c_11_73 : mj_code 11 73 = some (.iastore, 74, 0, 0, 0) := rfl
theorem c_11_74 : mj_code 11 74 = some (.aload_n 0, 75, 0, 0, 0) := rfl
theorem c_11_75 : mj_code 11 75 = some (.getfield 25, 78, 1, 4, 130) := rfl
theorem c_11_78 : mj_code 11 78 = some (.iload_n 2, 79, 0, 0, 0) := rfl
theorem c_11_79 : mj_code 11 79 = some (.iload 5, 81, 0, 0, 0) := rfl
theorem c_11_81 : mj_code 11 81 = some (.iastore, 82, 0, 0, 0) := rfl
theorem c_11_82 : mj_code 11 82 = some (.iinc 2 1, 85, 0, 0, 0) := rfl
theorem c_11_85 : mj_code 11 85 = some (.iinc 5 1, 88, 0, 0, 0) := rfl
theorem c_11_88 : mj_code 11 88 = some (.goto (-38), 91, 50, 0, 0) := rfl
theorem c_11_91 : mj_code 11 91 = some (.iinc 4 1, 94, 0, 0, 0) := rfl
theorem c_11_94 : mj_code 11 94 = some (.goto (-56), 97, 38, 0, 0) := rfl
theorem c_11_97 : mj_code 11 97 = some (.iinc 3 1, 100, 0, 0, 0) := rfl
theorem c_11_100 : mj_code 11 100 = some (.goto (-73), 103, 27, 0, 0) := rfl
theorem c_11_103 : mj_code 11 103 = some (.return_, 104, 0, 0, 0) := rfl
theorem c_12_0 : mj_code 12 0 = some (.iconst 1, 1, 0, 0, 0) := rfl
theorem c_12_1 : mj_code 12 1 = some (.istore_n 2, 2, 0, 0, 0) := rfl
theorem c_12_2 : mj_code 12 2 = some (.iconst 0, 3, 0, 0, 0) := rfl
theorem c_12_3 : mj_code 12 3 = some (.istore_n 3, 4, 0, 0, 0) := rfl
theorem c_12_4 : mj_code 12 4 = some (.iload_n 3, 5, 0, 0, 0) := rfl
theorem c_12_5 : mj_code 12 5 = some (.iload_n 1, 6, 0, 0, 0) := rfl
theorem c_12_6 : mj_code 12 6 = some (.if_icmp .ge 16, 9, 22, 0, 0) := rfl
theorem c_12_9 : mj_code 12 9 = some (.iload_n 2, 10, 0, 0, 0) := rfl
theorem c_12_10 : mj_code 12 10 = some (.aload_n 0, 11, 0, 0, 0) := rfl
theorem c_12_11 : mj_code 12 11 = some (.getfield 9, 14, 1, 0, 107) := rfl
theorem c_12_14 : mj_code 12 14 = some (.imul, 15, 0, 0, 0) := rfl
theorem c_12_15 : mj_code 12 15 = some (.istore_n 2, 16, 0, 0, 0) := rfl
theorem c_12_16 : mj_code 12 16 = some (.iinc 3 1, 19, 0, 0, 0) := rfl
theorem c_12_19 : mj_code 12 19 = some (.goto (-15), 22, 4, 0, 0) := rfl
theorem c_12_22 : mj_code 12 22 = some (.iload_n 2, 23, 0, 0, 0) := rfl
theorem c_12_23 : mj_code 12 23 = some (.ireturn, 24, 0, 0, 0) := rfl
theorem c_13_0 : mj_code 13 0 = some (.iload_n 1, 1, 0, 0, 0) := rfl
theorem c_13_1 : mj_code 13 1 = some (.iconst 1, 2, 0, 0, 0) := rfl
theorem c_13_2 : mj_code 13 2 = some (.if_icmp .lt 24, 5, 26, 0, 0) := rfl
theorem c_13_5 : mj_code 13 5 = some (.iload_n 1, 6, 0, 0, 0) := rfl
theorem c_13_6 : mj_code 13 6 = some (.aload_n 0, 7, 0, 0, 0) := rfl
theorem c_13_7 : mj_code 13 7 = some (.getfield 9, 10, 1, 0, 107) := rfl
theorem c_13_10 : mj_code 13 10 = some (.iconst 2, 11, 0, 0, 0) := rfl
theorem c_13_11 : mj_code 13 11 = some (.if_icmp .ne 7, 14, 18, 0, 0) := rfl
theorem c_13_14 : mj_code 13 14 = some (.iconst 3, 15, 0, 0, 0) := rfl
theorem c_13_15 : mj_code 13 15 = some (.goto 4, 18, 19, 0, 0) := rfl
theorem c_13_18 : mj_code 13 18 = some (.iconst 2, 19, 0, 0, 0) := rfl
theorem c_13_19 : mj_code 13 19 = some (.if_icmp .gt 7, 22, 26, 0, 0) := rfl
theorem c_13_22 : mj_code 13 22 = some (.iconst 1, 23, 0, 0, 0) := rfl
theorem c_13_23 : mj_code 13 23 = some (.goto 4, 26, 27, 0, 0) := rfl
theorem c_13_26 : mj_code 13 26 = some (.iconst 0, 27, 0, 0, 0) := rfl
theorem c_13_27 : mj_code 13 27 = some (.ireturn, 28, 0, 0, 0) := rfl
theorem c_14_0 : mj_code 14 0 = some (.aload_n 0, 1, 0, 0, 0) := rfl
theorem c_14_1 : mj_code 14 1 = some (.aload_n 0, 2, 0, 0, 0) := rfl
theorem c_14_2 : mj_code 14 2 = some (.iload_n 1, 3, 0, 0, 0) := rfl
theorem c_14_3 : mj_code 14 3 = some (.invokevirtual 28, 6, 12, 0, 717) := rfl
theorem c_14_6 : mj_code 14 6 = some (.invokevirtual 28, 9, 12, 0, 717) := rfl
theorem c_14_9 : mj_code 14 9 = some (.ireturn, 10, 0, 0, 0) := rfl
theorem c_15_0 : mj_code 15 0 = some (.iconst 1, 1, 0, 0, 0) := rfl
theorem c_15_1 : mj_code 15 1 = some (.aload_n 0, 2, 0, 0, 0) := rfl
theorem c_15_2 : mj_code 15 2 = some (.getfield 9, 5, 1, 0, 107) := rfl
theorem c_15_5 : mj_code 15 5 = some (.ishl, 6, 0, 0, 0) := rfl
theorem c_15_6 : mj_code 15 6 = some (.iconst 1, 7, 0, 0, 0) := rfl
theorem c_15_7 : mj_code 15 7 = some (.isub, 8, 0, 0, 0) := rfl
theorem c_15_8 : mj_code 15 8 = some (.ireturn, 9, 0, 0, 0) := rfl
theorem c_16_0 : mj_code 16 0 = some (.iconst 1, 1, 0, 0, 0) := rfl
theorem c_16_1 : mj_code 16 1 = some (.aload_n 0, 2, 0, 0, 0) := rfl
theorem c_16_2 : mj_code 16 2 = some (.getfield 25, 5, 1, 4, 130) := rfl
theorem c_16_5 : mj_code 16 5 = some (.iload_n 1, 6, 0, 0, 0) := rfl
theorem c_16_6 : mj_code 16 6 = some (.iaload, 7, 0, 0, 0) := rfl
theorem c_16_7 : mj_code 16 7 = some (.ishl, 8, 0, 0, 0) := rfl
theorem c_16_8 : mj_code 16 8 = some (.istore_n 3, 9, 0, 0, 0) := rfl
theorem c_16_9 : mj_code 16 9 = some (.iload_n 2, 10, 0, 0, 0) := rfl
theorem c_16_10 : mj_code 16 10 = some (.iconst 1, 11, 0, 0, 0) := rfl
theorem c_16_11 : mj_code 16 11 = some (.if_icmp .le 14, 14, 25, 0, 0) := rfl
theorem c_16_14 : mj_code 16 14 = some (.iload_n 3, 15, 0, 0, 0) := rfl
theorem c_16_15 : mj_code 16 15 = some (.iconst 1, 16, 0, 0, 0) := rfl
theorem c_16_16 : mj_code 16 16 = some (.aload_n 0, 17, 0, 0, 0) := rfl
theorem c_16_17 : mj_code 16 17 = some (.getfield 22, 20, 1, 3, 123) := rfl
theorem c_16_20 : mj_code 16 20 = some (.iload_n 1, 21, 0, 0, 0) := rfl
theorem c_16_21 : mj_code 16 21 = some (.iaload, 22, 0, 0, 0) := rfl
theorem c_16_22 : mj_code 16 22 = some (.ishl, 23, 0, 0, 0) := rfl
theorem c_16_23 : mj_code 16 23 = some (.ior, 24, 0, 0, 0) := rfl
theorem c_16_24 : mj_code 16 24 = some (.istore_n 3, 25, 0, 0, 0) := rfl
theorem c_16_25 : mj_code 16 25 = some (.iload_n 2, 26, 0, 0, 0) := rfl
theorem c_16_26 : mj_code 16 26 = some (.iconst 2, 27, 0, 0, 0) := rfl
theorem c_16_27 : mj_code 16 27 = some (.if_icmp .le 14, 30, 41, 0, 0) := rfl
theorem c_16_30 : mj_code 16 30 = some (.iload_n 3, 31, 0, 0, 0) := rfl
theorem c_16_31 : mj_code 16 31 = some (.iconst 1, 32, 0, 0, 0) := rfl
theorem c_16_32 : mj_code 16 32 = some (.aload_n 0, 33, 0, 0, 0) := rfl
theorem c_16_33 : mj_code 16 33 = some (.getfield 18, 36, 1, 2, 116) := rfl
theorem c_16_36 : mj_code 16 36 = some (.iload_n 1, 37, 0, 0, 0) := rfl
theorem c_16_37 : mj_code 16 37 = some (.iaload, 38, 0, 0, 0) := rfl
theorem c_16_38 : mj_code 16 38 = some (.ishl, 39, 0, 0, 0) := rfl
theorem c_16_39 : mj_code 16 39 = some (.ior, 40, 0, 0, 0) := rfl
theorem c_16_40 : mj_code 16 40 = some (.istore_n 3, 41, 0, 0, 0) := rfl
theorem c_16_41 : mj_code 16 41 = some (.iload_n 3, 42, 0, 0, 0) := rfl
theorem c_16_42 : mj_code 16 42 = some (.ireturn, 43, 0, 0, 0) := rfl
theorem c_17_0 : mj_code 17 0 = some (.iload_n 1, 1, 0, 0, 0) := rfl
theorem c_17_1 : mj_code 17 1 = some (.istore_n 3, 2, 0, 0, 0) := rfl
theorem c_17_2 : mj_code 17 2 = some (.iload_n 2, 3, 0, 0, 0) := rfl
theorem c_17_3 : mj_code 17 3 = some (.istore 4, 5, 0, 0, 0) := rfl
theorem c_17_5 : mj_code 17 5 = some (.iload 4, 7, 0, 0, 0) := rfl
theorem c_17_7 : mj_code 17 7 = some (.iconst 3, 8, 0, 0, 0) := rfl
theorem c_17_8 : mj_code 17 8 = some (.if_icmp .ge 23, 11, 31, 0, 0) := rfl
theorem c_17_11 : mj_code 17 11 = some (.iload_n 3, 12, 0, 0, 0) := rfl
theorem c_17_12 : mj_code 17 12 = some (.aload_n 0, 13, 0, 0, 0) := rfl
theorem c_17_13 : mj_code 17 13 = some (.getfield 9, 16, 1, 0, 107) := rfl
theorem c_17_16 : mj_code 17 16 = some (.imul, 17, 0, 0, 0) := rfl
theorem c_17_17 : mj_code 17 17 = some (.aload_n 0, 18, 0, 0, 0) := rfl
theorem c_17_18 : mj_code 17 18 = some (.getfield 25, 21, 1, 4, 130) := rfl
theorem c_17_21 : mj_code 17 21 = some (.iload_n 1, 22, 0, 0, 0) := rfl
theorem c_17_22 : mj_code 17 22 = some (.iaload, 23, 0, 0, 0) := rfl
theorem c_17_23 : mj_code 17 23 = some (.iadd, 24, 0, 0, 0) := rfl
theorem c_17_24 : mj_code 17 24 = some (.istore_n 3, 25, 0, 0, 0) := rfl
theorem c_17_25 : mj_code 17 25 = some (.iinc 4 1, 28, 0, 0, 0) := rfl
theorem c_17_28 : mj_code 17 28 = some (.goto (-23), 31, 5, 0, 0) := rfl
theorem c_17_31 : mj_code 17 31 = some (.iload_n 3, 32, 0, 0, 0) := rfl
theorem c_17_32 : mj_code 17 32 = some (.ireturn, 33, 0, 0, 0) := rfl
theorem c_18_0 : mj_code 18 0 = some (.iload_n 1, 1, 0, 0, 0) := rfl
theorem c_18_1 : mj_code 18 1 = some (.istore_n 3, 2, 0, 0, 0) := rfl
theorem c_18_2 : mj_code 18 2 = some (.iconst 0, 3, 0, 0, 0) := rfl
theorem c_18_3 : mj_code 18 3 = some (.istore 4, 5, 0, 0, 0) := rfl
theorem c_18_5 : mj_code 18 5 = some (.iconst 0, 6, 0, 0, 0) := rfl
theorem c_18_6 : mj_code 18 6 = some (.istore 5, 8, 0, 0, 0) := rfl
theorem c_18_8 : mj_code 18 8 = some (.iload 5, 10, 0, 0, 0) := rfl
theorem c_18_10 : mj_code 18 10 = some (.iload_n 2, 11, 0, 0, 0) := rfl
theorem c_18_11 : mj_code 18 11 = some (.iconst 3, 12, 0, 0, 0) := rfl
theorem c_18_12 : mj_code 18 12 = some (.iadd, 13, 0, 0, 0) := rfl
theorem c_18_13 : mj_code 18 13 = some (.if_icmp .ge 64, 16, 77, 0, 0) := rfl
theorem c_18_16 : mj_code 18 16 = some (.aload_n 0, 17, 0, 0, 0) := rfl
theorem c_18_17 : mj_code 18 17 = some (.getfield 9, 20, 1, 0, 107) := rfl
theorem c_18_20 : mj_code 18 20 = some (.iconst 2, 21, 0, 0, 0) := rfl
theorem c_18_21 : mj_code 18 21 = some (.if_icmp .ne 9, 24, 30, 0, 0) := rfl
theorem c_18_24 : mj_code 18 24 = some (.iload_n 3, 25, 0, 0, 0) := rfl
theorem c_18_25 : mj_code 18 25 = some (.iconst 2, 26, 0, 0, 0) := rfl
theorem c_18_26 : mj_code 18 26 = some (.irem, 27, 0, 0, 0) := rfl
theorem c_18_27 : mj_code 18 27 = some (.goto 6, 30, 33, 0, 0) := rfl
theorem c_18_30 : mj_code 18 30 = some (.iload_n 3, 31, 0, 0, 0) := rfl
theorem c_18_31 : mj_code 18 31 = some (.iconst 3, 32, 0, 0, 0) := rfl
theorem c_18_32 : mj_code 18 32 = some (.irem, 33, 0, 0, 0) := rfl
theorem c_18_33 : mj_code 18 33 = some (.istore 6, 35, 0, 0, 0) := rfl
theorem c_18_35 : mj_code 18 35 = some (.aload_n 0, 36, 0, 0, 0) := rfl
theorem c_18_36 : mj_code 18 36 = some (.getfield 9, 39, 1, 0, 107) := rfl
theorem c_18_39 : mj_code 18 39 = some (.iconst 2, 40, 0, 0, 0) := rfl
theorem c_18_40 : mj_code 18 40 = some (.if_icmp .ne 9, 43, 49, 0, 0) := rfl
theorem c_18_43 : mj_code 18 43 = some (.iload_n 3, 44, 0, 0, 0) := rfl
theorem c_18_44 : mj_code 18 44 = some (.iconst 2, 45, 0, 0, 0) := rfl
theorem c_18_45 : mj_code 18 45 = some (.idiv, 46, 0, 0, 0) := rfl
theorem c_18_46 : mj_code 18 46 = some (.goto 6, 49, 52, 0, 0) := rfl
theorem c_18_49 : mj_code 18 49 = some (.iload_n 3, 50, 0, 0, 0) := rfl
theorem c_18_50 : mj_code 18 50 = some (.iconst 3, 51, 0, 0, 0) := rfl
theorem c_18_51 : mj_code 18 51 = some (.idiv, 52, 0, 0, 0) := rfl
theorem c_18_52 : mj_code 18 52 = some (.istore_n 3, 53, 0, 0, 0) := rfl
theorem c_18_53 : mj_code 18 53 = some (.iload 5, 55, 0, 0, 0) := rfl
theorem c_18_55 : mj_code 18 55 = some (.iload_n 2, 56, 0, 0, 0) := rfl
theorem c_18_56 : mj_code 18 56 = some (.if_icmp .lt 15, 59, 71, 0, 0) := rfl
theorem c_18_59 : mj_code 18 59 = some (.iload 4, 61, 0, 0, 0) := rfl
theorem c_18_61 : mj_code 18 61 = some (.aload_n 0, 62, 0, 0, 0) := rfl
theorem c_18_62 : mj_code 18 62 = some (.getfield 9, 65, 1, 0, 107) := rfl
theorem c_18_65 : mj_code 18 65 = some (.imul, 66, 0, 0, 0) := rfl
theorem c_18_66 : mj_code 18 66 = some (.iload 6, 68, 0, 0, 0) := rfl
theorem c_18_68 : mj_code 18 68 = some (.iadd, 69, 0, 0, 0) := rfl
theorem c_18_69 : mj_code 18 69 = some (.istore 4, 71, 0, 0, 0) := rfl
theorem c_18_71 : mj_code 18 71 = some (.iinc 5 1, 74, 0, 0, 0) := rfl
theorem c_18_74 : mj_code 18 74 = some (.goto (-66), 77, 8, 0, 0) := rfl
theorem c_18_77 : mj_code 18 77 = some (.iload 4, 79, 0, 0, 0) := rfl
theorem c_18_79 : mj_code 18 79 = some (.ireturn, 80, 0, 0, 0) := rfl
theorem c_20_0 : mj_code 20 0 = some (.aload_n 0, 1, 0, 0, 0) := rfl
theorem c_20_1 : mj_code 20 1 = some (.iload_n 1, 2, 0, 0, 0) := rfl
theorem c_20_2 : mj_code 20 2 = some (.iconst 0, 3, 0, 0, 0) := rfl
theorem c_20_3 : mj_code 20 3 = some (.aload_n 2, 4, 0, 0, 0) := rfl
theorem c_20_4 : mj_code 20 4 = some (.invokevirtual 19, 7, 27, 0, 801) := rfl
theorem c_20_7 : mj_code 20 7 = some (.aload_n 2, 8, 0, 0, 0) := rfl
theorem c_20_8 : mj_code 20 8 = some (.iload_n 1, 9, 0, 0, 0) := rfl
theorem c_20_9 : mj_code 20 9 = some (.invokevirtual 23, 12, 12, 0, 805) := rfl
theorem c_20_12 : mj_code 20 12 = some (.iconst 1, 13, 0, 0, 0) := rfl
theorem c_20_13 : mj_code 20 13 = some (.isub, 14, 0, 0, 0) := rfl
theorem c_20_14 : mj_code 20 14 = some (.istore_n 3, 15, 0, 0, 0) := rfl
theorem c_20_15 : mj_code 20 15 = some (.iload_n 3, 16, 0, 0, 0) := rfl
theorem c_20_16 : mj_code 20 16 = some (.ifCond .lt 26, 19, 42, 0, 0) := rfl
theorem c_20_19 : mj_code 20 19 = some (.aload_n 0, 20, 0, 0, 0) := rfl
theorem c_20_20 : mj_code 20 20 = some (.getfield 9, 23, 2, 4, 321) := rfl
theorem c_20_23 : mj_code 20 23 = some (.iload_n 3, 24, 0, 0, 0) := rfl
theorem c_20_24 : mj_code 20 24 = some (.aload_n 0, 25, 0, 0, 0) := rfl
theorem c_20_25 : mj_code 20 25 = some (.dup, 26, 0, 0, 0) := rfl
theorem c_20_26 : mj_code 20 26 = some (.getfield 29, 29, 2, 2, 318) := rfl
theorem c_20_29 : mj_code 20 29 = some (.dup_x1, 30, 0, 0, 0) := rfl
theorem c_20_30 : mj_code 20 30 = some (.iconst 1, 31, 0, 0, 0) := rfl
theorem c_20_31 : mj_code 20 31 = some (.iadd, 32, 0, 0, 0) := rfl
theorem c_20_32 : mj_code 20 32 = some (.putfield 29, 35, 2, 2, 318) := rfl
theorem c_20_35 : mj_code 20 35 = some (.iastore, 36, 0, 0, 0) := rfl
theorem c_20_36 : mj_code 20 36 = some (.iinc 3 (-1), 39, 0, 0, 0) := rfl
theorem c_20_39 : mj_code 20 39 = some (.goto (-24), 42, 15, 0, 0) := rfl
theorem c_20_42 : mj_code 20 42 = some (.aload_n 0, 43, 0, 0, 0) := rfl
theorem c_20_43 : mj_code 20 43 = some (.aload_n 2, 44, 0, 0, 0) := rfl
theorem c_20_44 : mj_code 20 44 = some (.invokevirtual 32, 47, 28, 0, 806) := rfl
theorem c_20_47 : mj_code 20 47 = some (.return_, 48, 0, 0, 0) := rfl
theorem c_21_0 : mj_code 21 0 = some (.aload_n 0, 1, 0, 0, 0) := rfl
theorem c_21_1 : mj_code 21 1 = some (.iconst 2, 2, 0, 0, 0) := rfl
theorem c_21_2 : mj_code 21 2 = some (.aload_n 1, 3, 0, 0, 0) := rfl
theorem c_21_3 : mj_code 21 3 = some (.getfield 36, 6, 1, 0, 109) := rfl
theorem c_21_6 : mj_code 21 6 = some (.aload_n 1, 7, 0, 0, 0) := rfl
theorem c_21_7 : mj_code 21 7 = some (.invokevirtual 19, 10, 27, 0, 801) := rfl
theorem c_21_10 : mj_code 21 10 = some (.aload_n 0, 11, 0, 0, 0) := rfl
theorem c_21_11 : mj_code 21 11 = some (.iconst 1, 12, 0, 0, 0) := rfl
theorem c_21_12 : mj_code 21 12 = some (.putfield 37, 15, 2, 3, 320) := rfl
theorem c_21_15 : mj_code 21 15 = some (.aload_n 0, 16, 0, 0, 0) := rfl
theorem c_21_16 : mj_code 21 16 = some (.getfield 15, 19, 2, 5, 322) := rfl
theorem c_21_19 : mj_code 21 19 = some (.iconst 1, 20, 0, 0, 0) := rfl
theorem c_21_20 : mj_code 21 20 = some (.isub, 21, 0, 0, 0) := rfl
theorem c_21_21 : mj_code 21 21 = some (.istore_n 2, 22, 0, 0, 0) := rfl
theorem c_21_22 : mj_code 21 22 = some (.iload_n 2, 23, 0, 0, 0) := rfl
theorem c_21_23 : mj_code 21 23 = some (.ifCond .lt 81, 26, 104, 0, 0) := rfl
theorem c_21_26 : mj_code 21 26 = some (.aload_n 0, 27, 0, 0, 0) := rfl
theorem c_21_27 : mj_code 21 27 = some (.getfield 9, 30, 2, 4, 321) := rfl
theorem c_21_30 : mj_code 21 30 = some (.iload_n 2, 31, 0, 0, 0) := rfl
theorem c_21_31 : mj_code 21 31 = some (.aload_n 0, 32, 0, 0, 0) := rfl
theorem c_21_32 : mj_code 21 32 = some (.getfield 15, 35, 2, 5, 322) := rfl
theorem c_21_35 : mj_code 21 35 = some (.imul, 36, 0, 0, 0) := rfl
theorem c_21_36 : mj_code 21 36 = some (.iload_n 2, 37, 0, 0, 0) := rfl
theorem c_21_37 : mj_code 21 37 = some (.iadd, 38, 0, 0, 0) := rfl
theorem c_21_38 : mj_code 21 38 = some (.iload_n 2, 39, 0, 0, 0) := rfl
theorem c_21_39 : mj_code 21 39 = some (.iastore, 40, 0, 0, 0) := rfl
theorem c_21_40 : mj_code 21 40 = some (.iload_n 2, 41, 0, 0, 0) := rfl
theorem c_21_41 : mj_code 21 41 = some (.iconst 1, 42, 0, 0, 0) := rfl
theorem c_21_42 : mj_code 21 42 = some (.isub, 43, 0, 0, 0) := rfl
theorem c_21_43 : mj_code 21 43 = some (.istore_n 3, 44, 0, 0, 0) := rfl
theorem c_21_44 : mj_code 21 44 = some (.iload_n 3, 45, 0, 0, 0) := rfl
theorem c_21_45 : mj_code 21 45 = some (.ifCond .lt 53, 48, 98, 0, 0) := rfl
theorem c_21_48 : mj_code 21 48 = some (.aload_n 0, 49, 0, 0, 0) := rfl
theorem c_21_49 : mj_code 21 49 = some (.getfield 9, 52, 2, 4, 321) := rfl
theorem c_21_52 : mj_code 21 52 = some (.iload_n 2, 53, 0, 0, 0) := rfl
theorem c_21_53 : mj_code 21 53 = some (.aload_n 0, 54, 0, 0, 0) := rfl
theorem c_21_54 : mj_code 21 54 = some (.getfield 15, 57, 2, 5, 322) := rfl
theorem c_21_57 : mj_code 21 57 = some (.imul, 58, 0, 0, 0) := rfl
theorem c_21_58 : mj_code 21 58 = some (.iload_n 3, 59, 0, 0, 0) := rfl
theorem c_21_59 : mj_code 21 59 = some (.iadd, 60, 0, 0, 0) := rfl
theorem c_21_60 : mj_code 21 60 = some (.aload_n 0, 61, 0, 0, 0) := rfl
theorem c_21_61 : mj_code 21 61 = some (.getfield 29, 64, 2, 2, 318) := rfl
theorem c_21_64 : mj_code 21 64 = some (.iastore, 65, 0, 0, 0) := rfl
theorem c_21_65 : mj_code 21 65 = some (.aload_n 0, 66, 0, 0, 0) := rfl
theorem c_21_66 : mj_code 21 66 = some (.getfield 9, 69, 2, 4, 321) := rfl
theorem c_21_69 : mj_code 21 69 = some (.iload_n 3, 70, 0, 0, 0) := rfl
theorem c_21_70 : mj_code 21 70 = some (.aload_n 0, 71, 0, 0, 0) := rfl
theorem c_21_71 : mj_code 21 71 = some (.getfield 15, 74, 2, 5, 322) := rfl
theorem c_21_74 : mj_code 21 74 = some (.imul, 75, 0, 0, 0) := rfl
theorem c_21_75 : mj_code 21 75 = some (.iload_n 2, 76, 0, 0, 0) := rfl
theorem c_21_76 : mj_code 21 76 = some (.iadd, 77, 0, 0, 0) := rfl
theorem c_21_77 : mj_code 21 77 = some (.aload_n 0, 78, 0, 0, 0) := rfl
theorem c_21_78 : mj_code 21 78 = some (.getfield 29, 81, 2, 2, 318) := rfl
theorem c_21_81 : mj_code 21 81 = some (.iastore, 82, 0, 0, 0) := rfl
theorem c_21_82 : mj_code 21 82 = some (.aload_n 0, 83, 0, 0, 0) := rfl
theorem c_21_83 : mj_code 21 83 = some (.dup, 84, 0, 0, 0) := rfl
theorem c_21_84 : mj_code 21 84 = some (.getfield 29, 87, 2, 2, 318) := rfl
theorem c_21_87 : mj_code 21 87 = some (.iconst 1, 88, 0, 0, 0) := rfl
theorem c_21_88 : mj_code 21 88 = some (.iadd, 89, 0, 0, 0) := rfl
theorem c_21_89 : mj_code 21 89 = some (.putfield 29, 92, 2, 2, 318) := rfl
theorem c_21_92 : mj_code 21 92 = some (.iinc 3 (-1), 95, 0, 0, 0) := rfl
theorem c_21_95 : mj_code 21 95 = some (.goto (-51), 98, 44, 0, 0) := rfl
theorem c_21_98 : mj_code 21 98 = some (.iinc 2 (-1), 101, 0, 0, 0) := rfl
theorem c_21_101 : mj_code 21 101 = some (.goto (-79), 104, 22, 0, 0) := rfl
theorem c_21_104 : mj_code 21 104 = some (.aload_n 0, 105, 0, 0, 0) := rfl
theorem c_21_105 : mj_code 21 105 = some (.aload_n 1, 106, 0, 0, 0) := rfl
theorem c_21_106 : mj_code 21 106 = some (.invokevirtual 32, 109, 28, 0, 806) := rfl
theorem c_21_109 : mj_code 21 109 = some (.return_, 110, 0, 0, 0) := rfl
theorem c_22_0 : mj_code 22 0 = some (.aload_n 0, 1, 0, 0, 0) := rfl
theorem c_22_1 : mj_code 22 1 = some (.iconst 3, 2, 0, 0, 0) := rfl
theorem c_22_2 : mj_code 22 2 = some (.aload_n 1, 3, 0, 0, 0) := rfl
theorem c_22_3 : mj_code 22 3 = some (.getfield 36, 6, 1, 0, 109) := rfl
theorem c_22_6 : mj_code 22 6 = some (.aload_n 1, 7, 0, 0, 0) := rfl
theorem c_22_7 : mj_code 22 7 = some (.invokevirtual 19, 10, 27, 0, 801) := rfl
theorem c_22_10 : mj_code 22 10 = some (.aload_n 1, 11, 0, 0, 0) := rfl
theorem c_22_11 : mj_code 22 11 = some (.getfield 41, 14, 1, 1, 115) := rfl
theorem c_22_14 : mj_code 22 14 = some (.iconst 1, 15, 0, 0, 0) := rfl
theorem c_22_15 : mj_code 22 15 = some (.isub, 16, 0, 0, 0) := rfl
theorem c_22_16 : mj_code 22 16 = some (.istore_n 2, 17, 0, 0, 0) := rfl
theorem c_22_17 : mj_code 22 17 = some (.iload_n 2, 18, 0, 0, 0) := rfl
theorem c_22_18 : mj_code 22 18 = some (.ifCond .lt 89, 21, 107, 0, 0) := rfl
theorem c_22_21 : mj_code 22 21 = some (.aload_n 1, 22, 0, 0, 0) := rfl
theorem c_22_22 : mj_code 22 22 = some (.getfield 44, 25, 1, 2, 120) := rfl
theorem c_22_25 : mj_code 22 25 = some (.iload_n 2, 26, 0, 0, 0) := rfl
theorem c_22_26 : mj_code 22 26 = some (.iaload, 27, 0, 0, 0) := rfl
theorem c_22_27 : mj_code 22 27 = some (.istore_n 3, 28, 0, 0, 0) := rfl
theorem c_22_28 : mj_code 22 28 = some (.aload_n 1, 29, 0, 0, 0) := rfl
theorem c_22_29 : mj_code 22 29 = some (.getfield 47, 32, 1, 3, 127) := rfl
theorem c_22_32 : mj_code 22 32 = some (.iload_n 2, 33, 0, 0, 0) := rfl
theorem c_22_33 : mj_code 22 33 = some (.iaload, 34, 0, 0, 0) := rfl
theorem c_22_34 : mj_code 22 34 = some (.istore 4, 36, 0, 0, 0) := rfl
theorem c_22_36 : mj_code 22 36 = some (.aload_n 1, 37, 0, 0, 0) := rfl
theorem c_22_37 : mj_code 22 37 = some (.getfield 50, 40, 1, 4, 134) := rfl
theorem c_22_40 : mj_code 22 40 = some (.iload_n 2, 41, 0, 0, 0) := rfl
theorem c_22_41 : mj_code 22 41 = some (.iaload, 42, 0, 0, 0) := rfl
theorem c_22_42 : mj_code 22 42 = some (.istore 5, 44, 0, 0, 0) := rfl
theorem c_22_44 : mj_code 22 44 = some (.iload_n 3, 45, 0, 0, 0) := rfl
theorem c_22_45 : mj_code 22 45 = some (.iload 4, 47, 0, 0, 0) := rfl
theorem c_22_47 : mj_code 22 47 = some (.if_icmp .eq 9, 50, 56, 0, 0) := rfl
theorem c_22_50 : mj_code 22 50 = some (.iload_n 3, 51, 0, 0, 0) := rfl
theorem c_22_51 : mj_code 22 51 = some (.iload 5, 53, 0, 0, 0) := rfl
theorem c_22_53 : mj_code 22 53 = some (.if_icmp .ne 13, 56, 66, 0, 0) := rfl
theorem c_22_56 : mj_code 22 56 = some (.aload_n 0, 57, 0, 0, 0) := rfl
theorem c_22_57 : mj_code 22 57 = some (.getfield 9, 60, 2, 4, 321) := rfl
theorem c_22_60 : mj_code 22 60 = some (.iload_n 2, 61, 0, 0, 0) := rfl
theorem c_22_61 : mj_code 22 61 = some (.iload_n 3, 62, 0, 0, 0) := rfl
theorem c_22_62 : mj_code 22 62 = some (.iastore, 63, 0, 0, 0) := rfl
theorem c_22_63 : mj_code 22 63 = some (.goto 38, 66, 101, 0, 0) := rfl
theorem c_22_66 : mj_code 22 66 = some (.iload 4, 68, 0, 0, 0) := rfl
theorem c_22_68 : mj_code 22 68 = some (.iload 5, 70, 0, 0, 0) := rfl
theorem c_22_70 : mj_code 22 70 = some (.if_icmp .ne 14, 73, 84, 0, 0) := rfl
theorem c_22_73 : mj_code 22 73 = some (.aload_n 0, 74, 0, 0, 0) := rfl
theorem c_22_74 : mj_code 22 74 = some (.getfield 9, 77, 2, 4, 321) := rfl
theorem c_22_77 : mj_code 22 77 = some (.iload_n 2, 78, 0, 0, 0) := rfl
theorem c_22_78 : mj_code 22 78 = some (.iload 4, 80, 0, 0, 0) := rfl
theorem c_22_80 : mj_code 22 80 = some (.iastore, 81, 0, 0, 0) := rfl
theorem c_22_81 : mj_code 22 81 = some (.goto 20, 84, 101, 0, 0) := rfl
theorem c_22_84 : mj_code 22 84 = some (.aload_n 0, 85, 0, 0, 0) := rfl
theorem c_22_85 : mj_code 22 85 = some (.getfield 9, 88, 2, 4, 321) := rfl
theorem c_22_88 : mj_code 22 88 = some (.iload_n 2, 89, 0, 0, 0) := rfl
theorem c_22_89 : mj_code 22 89 = some (.aload_n 0, 90, 0, 0, 0) := rfl
theorem c_22_90 : mj_code 22 90 = some (.dup, 91, 0, 0, 0) := rfl
theorem c_22_91 : mj_code 22 91 = some (.getfield 29, 94, 2, 2, 318) := rfl
theorem c_22_94 : mj_code 22 94 = some (.dup_x1, 95, 0, 0, 0) := rfl
theorem c_22_95 : mj_code 22 95 = some (.iconst 1, 96, 0, 0, 0) := rfl
theorem c_22_96 : mj_code 22 96 = some (.iadd, 97, 0, 0, 0) := rfl
theorem c_22_97 : mj_code 22 97 = some (.putfield 29, 100, 2, 2, 318) := rfl
theorem c_22_100 : mj_code 22 100 = some (.iastore, 101, 0, 0, 0) := rfl
theorem c_22_101 : mj_code 22 101 = some (.iinc 2 (-1), 104, 0, 0, 0) := rfl
theorem c_22_104 : mj_code 22 104 = some (.goto (-87), 107, 17, 0, 0) := rfl
theorem c_22_107 : mj_code 22 107 = some (.return_, 108, 0, 0, 0) := rfl
theorem c_23_0 : mj_code 23 0 = some (.aload_n 0, 1, 0, 0, 0) := rfl
theorem c_23_1 : mj_code 23 1 = some (.iconst 3, 2, 0, 0, 0) := rfl
theorem c_23_2 : mj_code 23 2 = some (.aload_n 1, 3, 0, 0, 0) := rfl
theorem c_23_3 : mj_code 23 3 = some (.getfield 36, 6, 1, 0, 109) := rfl
theorem c_23_6 : mj_code 23 6 = some (.aload_n 1, 7, 0, 0, 0) := rfl
theorem c_23_7 : mj_code 23 7 = some (.invokevirtual 19, 10, 27, 0, 801) := rfl
theorem c_23_10 : mj_code 23 10 = some (.iconst 0, 11, 0, 0, 0) := rfl
theorem c_23_11 : mj_code 23 11 = some (.istore_n 2, 12, 0, 0, 0) := rfl
theorem c_23_12 : mj_code 23 12 = some (.iload_n 2, 13, 0, 0, 0) := rfl
theorem c_23_13 : mj_code 23 13 = some (.aload_n 1, 14, 0, 0, 0) := rfl
theorem c_23_14 : mj_code 23 14 = some (.getfield 41, 17, 1, 1, 115) := rfl
theorem c_23_17 : mj_code 23 17 = some (.if_icmp .ge 53, 20, 70, 0, 0) := rfl
theorem c_23_20 : mj_code 23 20 = some (.aload_n 1, 21, 0, 0, 0) := rfl
theorem c_23_21 : mj_code 23 21 = some (.getfield 44, 24, 1, 2, 120) := rfl
theorem c_23_24 : mj_code 23 24 = some (.iload_n 2, 25, 0, 0, 0) := rfl
theorem c_23_25 : mj_code 23 25 = some (.iaload, 26, 0, 0, 0) := rfl
theorem c_23_26 : mj_code 23 26 = some (.aload_n 1, 27, 0, 0, 0) := rfl
theorem c_23_27 : mj_code 23 27 = some (.getfield 47, 30, 1, 3, 127) := rfl
theorem c_23_30 : mj_code 23 30 = some (.iload_n 2, 31, 0, 0, 0) := rfl
theorem c_23_31 : mj_code 23 31 = some (.iaload, 32, 0, 0, 0) := rfl
theorem c_23_32 : mj_code 23 32 = some (.isub, 33, 0, 0, 0) := rfl
theorem c_23_33 : mj_code 23 33 = some (.aload_n 1, 34, 0, 0, 0) := rfl
theorem c_23_34 : mj_code 23 34 = some (.getfield 50, 37, 1, 4, 134) := rfl
theorem c_23_37 : mj_code 23 37 = some (.iload_n 2, 38, 0, 0, 0) := rfl
theorem c_23_38 : mj_code 23 38 = some (.iaload, 39, 0, 0, 0) := rfl
theorem c_23_39 : mj_code 23 39 = some (.iadd, 40, 0, 0, 0) := rfl
theorem c_23_40 : mj_code 23 40 = some (.istore_n 3, 41, 0, 0, 0) := rfl
theorem c_23_41 : mj_code 23 41 = some (.aload_n 0, 42, 0, 0, 0) := rfl
theorem c_23_42 : mj_code 23 42 = some (.getfield 9, 45, 2, 4, 321) := rfl
theorem c_23_45 : mj_code 23 45 = some (.iload_n 2, 46, 0, 0, 0) := rfl
theorem c_23_46 : mj_code 23 46 = some (.iload_n 3, 47, 0, 0, 0) := rfl
theorem c_23_47 : mj_code 23 47 = some (.aload_n 0, 48, 0, 0, 0) := rfl
theorem c_23_48 : mj_code 23 48 = some (.getfield 15, 51, 2, 5, 322) := rfl
theorem c_23_51 : mj_code 23 51 = some (.iconst 2, 52, 0, 0, 0) := rfl
theorem c_23_52 : mj_code 23 52 = some (.if_icmp .ne 7, 55, 59, 0, 0) := rfl
theorem c_23_55 : mj_code 23 55 = some (.iconst 2, 56, 0, 0, 0) := rfl
theorem c_23_56 : mj_code 23 56 = some (.goto 4, 59, 60, 0, 0) := rfl
theorem c_23_59 : mj_code 23 59 = some (.iconst 3, 60, 0, 0, 0) := rfl
theorem c_23_60 : mj_code 23 60 = some (.invokestatic 53, 63, 204, 1, 1011) := rfl
theorem c_23_63 : mj_code 23 63 = some (.iastore, 64, 0, 0, 0) := rfl
theorem c_23_64 : mj_code 23 64 = some (.iinc 2 1, 67, 0, 0, 0) := rfl
theorem c_23_67 : mj_code 23 67 = some (.goto (-55), 70, 12, 0, 0) := rfl
theorem c_23_70 : mj_code 23 70 = some (.return_, 71, 0, 0, 0) := rfl
theorem c_24_0 : mj_code 24 0 = some (.aload_n 0, 1, 0, 0, 0) := rfl
theorem c_24_1 : mj_code 24 1 = some (.getfield 9, 4, 2, 4, 321) := rfl
theorem c_24_4 : mj_code 24 4 = some (.aload_n 1, 5, 0, 0, 0) := rfl
theorem c_24_5 : mj_code 24 5 = some (.iload_n 2, 6, 0, 0, 0) := rfl
theorem c_24_6 : mj_code 24 6 = some (.iaload, 7, 0, 0, 0) := rfl
theorem c_24_7 : mj_code 24 7 = some (.aload_n 0, 8, 0, 0, 0) := rfl
theorem c_24_8 : mj_code 24 8 = some (.getfield 15, 11, 2, 5, 322) := rfl
theorem c_24_11 : mj_code 24 11 = some (.imul, 12, 0, 0, 0) := rfl
theorem c_24_12 : mj_code 24 12 = some (.aload_n 1, 13, 0, 0, 0) := rfl
theorem c_24_13 : mj_code 24 13 = some (.iload_n 3, 14, 0, 0, 0) := rfl
theorem c_24_14 : mj_code 24 14 = some (.iaload, 15, 0, 0, 0) := rfl
theorem c_24_15 : mj_code 24 15 = some (.iadd, 16, 0, 0, 0) := rfl
theorem c_24_16 : mj_code 24 16 = some (.aload_n 0, 17, 0, 0, 0) := rfl
theorem c_24_17 : mj_code 24 17 = some (.getfield 15, 20, 2, 5, 322) := rfl
theorem c_24_20 : mj_code 24 20 = some (.imul, 21, 0, 0, 0) := rfl
theorem c_24_21 : mj_code 24 21 = some (.aload_n 1, 22, 0, 0, 0) := rfl
theorem c_24_22 : mj_code 24 22 = some (.iload 4, 24, 0, 0, 0) := rfl
theorem c_24_24 : mj_code 24 24 = some (.iaload, 25, 0, 0, 0) := rfl
theorem c_24_25 : mj_code 24 25 = some (.iadd, 26, 0, 0, 0) := rfl
theorem c_24_26 : mj_code 24 26 = some (.iaload, 27, 0, 0, 0) := rfl
theorem c_24_27 : mj_code 24 27 = some (.ireturn, 28, 0, 0, 0) := rfl
theorem c_25_0 : mj_code 25 0 = some (.aload_n 0, 1, 0, 0, 0) := rfl
theorem c_25_1 : mj_code 25 1 = some (.getfield 37, 4, 2, 3, 320) := rfl
theorem c_25_4 : mj_code 25 4 = some (.ifCond .ne 5, 7, 9, 0, 0) := rfl
theorem c_25_7 : mj_code 25 7 = some (.iconst 1, 8, 0, 0, 0) := rfl
theorem c_25_8 : mj_code 25 8 = some (.ireturn, 9, 0, 0, 0) := rfl
theorem c_25_9 : mj_code 25 9 = some (.iconst 0, 10, 0, 0, 0) := rfl
theorem c_25_10 : mj_code 25 10 = some (.istore_n 3, 11, 0, 0, 0) := rfl
theorem c_25_11 : mj_code 25 11 = some (.iload_n 3, 12, 0, 0, 0) := rfl
theorem c_25_12 : mj_code 25 12 = some (.iload_n 2, 13, 0, 0, 0) := rfl
theorem c_25_13 : mj_code 25 13 = some (.if_icmp .ge 78, 16, 91, 0, 0) := rfl
theorem c_25_16 : mj_code 25 16 = some (.iconst 0, 17, 0, 0, 0) := rfl
theorem c_25_17 : mj_code 25 17 = some (.istore 4, 19, 0, 0, 0) := rfl
theorem c_25_19 : mj_code 25 19 = some (.iload 4, 21, 0, 0, 0) := rfl
theorem c_25_21 : mj_code 25 21 = some (.iload_n 2, 22, 0, 0, 0) := rfl
theorem c_25_22 : mj_code 25 22 = some (.if_icmp .ge 63, 25, 85, 0, 0) := rfl
theorem c_25_25 : mj_code 25 25 = some (.iconst 0, 26, 0, 0, 0) := rfl
theorem c_25_26 : mj_code 25 26 = some (.istore 5, 28, 0, 0, 0) := rfl
theorem c_25_28 : mj_code 25 28 = some (.iload 5, 30, 0, 0, 0) := rfl
theorem c_25_30 : mj_code 25 30 = some (.iload_n 2, 31, 0, 0, 0) := rfl
theorem c_25_31 : mj_code 25 31 = some (.if_icmp .ge 48, 34, 79, 0, 0) := rfl
theorem c_25_34 : mj_code 25 34 = some (.aload_n 0, 35, 0, 0, 0) := rfl
theorem c_25_35 : mj_code 25 35 = some (.aload_n 1, 36, 0, 0, 0) := rfl
theorem c_25_36 : mj_code 25 36 = some (.aload_n 0, 37, 0, 0, 0) := rfl
theorem c_25_37 : mj_code 25 37 = some (.aload_n 1, 38, 0, 0, 0) := rfl
theorem c_25_38 : mj_code 25 38 = some (.iload_n 3, 39, 0, 0, 0) := rfl
theorem c_25_39 : mj_code 25 39 = some (.iload 4, 41, 0, 0, 0) := rfl
theorem c_25_41 : mj_code 25 41 = some (.invokevirtual 59, 44, 29, 0, 1029) := rfl
theorem c_25_44 : mj_code 25 44 = some (.iload 5, 46, 0, 0, 0) := rfl
theorem c_25_46 : mj_code 25 46 = some (.invokevirtual 59, 49, 29, 0, 1029) := rfl
theorem c_25_49 : mj_code 25 49 = some (.istore 6, 51, 0, 0, 0) := rfl
theorem c_25_51 : mj_code 25 51 = some (.iload 6, 53, 0, 0, 0) := rfl
theorem c_25_53 : mj_code 25 53 = some (.aload_n 0, 54, 0, 0, 0) := rfl
theorem c_25_54 : mj_code 25 54 = some (.aload_n 1, 55, 0, 0, 0) := rfl
theorem c_25_55 : mj_code 25 55 = some (.iload_n 3, 56, 0, 0, 0) := rfl
theorem c_25_56 : mj_code 25 56 = some (.aload_n 0, 57, 0, 0, 0) := rfl
theorem c_25_57 : mj_code 25 57 = some (.aload_n 1, 58, 0, 0, 0) := rfl
theorem c_25_58 : mj_code 25 58 = some (.iload 4, 60, 0, 0, 0) := rfl
theorem c_25_60 : mj_code 25 60 = some (.iload 5, 62, 0, 0, 0) := rfl
theorem c_25_62 : mj_code 25 62 = some (.invokevirtual 59, 65, 29, 0, 1029) := rfl
theorem c_25_65 : mj_code 25 65 = some (.invokevirtual 59, 68, 29, 0, 1029) := rfl
theorem c_25_68 : mj_code 25 68 = some (.if_icmp .eq 5, 71, 73, 0, 0) := rfl
theorem c_25_71 : mj_code 25 71 = some (.iconst 0, 72, 0, 0, 0) := rfl
theorem c_25_72 : mj_code 25 72 = some (.ireturn, 73, 0, 0, 0) := rfl
theorem c_25_73 : mj_code 25 73 = some (.iinc 5 1, 76, 0, 0, 0) := rfl
theorem c_25_76 : mj_code 25 76 = some (.goto (-48), 79, 28, 0, 0) := rfl
theorem c_25_79 : mj_code 25 79 = some (.iinc 4 1, 82, 0, 0, 0) := rfl
theorem c_25_82 : mj_code 25 82 = some (.goto (-63), 85, 19, 0, 0) := rfl
theorem c_25_85 : mj_code 25 85 = some (.iinc 3 1, 88, 0, 0, 0) := rfl
theorem c_25_88 : mj_code 25 88 = some (.goto (-77), 91, 11, 0, 0) := rfl
theorem c_25_91 : mj_code 25 91 = some (.iconst 1, 92, 0, 0, 0) := rfl
theorem c_25_92 : mj_code 25 92 = some (.ireturn, 93, 0, 0, 0) := rfl
theorem c_26_0 : mj_code 26 0 = some (.lconst 0, 1, 0, 0, 0) := rfl
theorem c_26_1 : mj_code 26 1 = some (.lstore_n 3, 2, 0, 0, 0) := rfl
theorem c_26_2 : mj_code 26 2 = some (.aload_n 2, 3, 0, 0, 0) := rfl
theorem c_26_3 : mj_code 26 3 = some (.aload_n 0, 4, 0, 0, 0) := rfl
theorem c_26_4 : mj_code 26 4 = some (.getfield 63, 7, 2, 0, 315) := rfl
theorem c_26_7 : mj_code 26 7 = some (.invokevirtual 23, 10, 12, 0, 805) := rfl
theorem c_26_10 : mj_code 26 10 = some (.iconst 1, 11, 0, 0, 0) := rfl
theorem c_26_11 : mj_code 26 11 = some (.isub, 12, 0, 0, 0) := rfl
theorem c_26_12 : mj_code 26 12 = some (.istore 5, 14, 0, 0, 0) := rfl
theorem c_26_14 : mj_code 26 14 = some (.iload 5, 16, 0, 0, 0) := rfl
theorem c_26_16 : mj_code 26 16 = some (.ifCond .lt 28, 19, 44, 0, 0) := rfl
theorem c_26_19 : mj_code 26 19 = some (.lload_n 3, 20, 0, 0, 0) := rfl
theorem c_26_20 : mj_code 26 20 = some (.aload_n 2, 21, 0, 0, 0) := rfl
theorem c_26_21 : mj_code 26 21 = some (.getfield 36, 24, 1, 0, 109) := rfl
theorem c_26_24 : mj_code 26 24 = some (.i2l, 25, 0, 0, 0) := rfl
theorem c_26_25 : mj_code 26 25 = some (.lmul, 26, 0, 0, 0) := rfl
theorem c_26_26 : mj_code 26 26 = some (.aload_n 1, 27, 0, 0, 0) := rfl
theorem c_26_27 : mj_code 26 27 = some (.aload_n 0, 28, 0, 0, 0) := rfl
theorem c_26_28 : mj_code 26 28 = some (.getfield 9, 31, 2, 4, 321) := rfl
theorem c_26_31 : mj_code 26 31 = some (.iload 5, 33, 0, 0, 0) := rfl
theorem c_26_33 : mj_code 26 33 = some (.iaload, 34, 0, 0, 0) := rfl
theorem c_26_34 : mj_code 26 34 = some (.iaload, 35, 0, 0, 0) := rfl
theorem c_26_35 : mj_code 26 35 = some (.i2l, 36, 0, 0, 0) := rfl
theorem c_26_36 : mj_code 26 36 = some (.ladd, 37, 0, 0, 0) := rfl
theorem c_26_37 : mj_code 26 37 = some (.lstore_n 3, 38, 0, 0, 0) := rfl
theorem c_26_38 : mj_code 26 38 = some (.iinc 5 (-1), 41, 0, 0, 0) := rfl
theorem c_26_41 : mj_code 26 41 = some (.goto (-27), 44, 14, 0, 0) := rfl
theorem c_26_44 : mj_code 26 44 = some (.lload_n 3, 45, 0, 0, 0) := rfl
theorem c_26_45 : mj_code 26 45 = some (.lreturn, 46, 0, 0, 0) := rfl
theorem c_27_0 : mj_code 27 0 = some (.aload_n 0, 1, 0, 0, 0) := rfl
theorem c_27_1 : mj_code 27 1 = some (.aload_n 3, 2, 0, 0, 0) := rfl
theorem c_27_2 : mj_code 27 2 = some (.getfield 36, 5, 1, 0, 109) := rfl
theorem c_27_5 : mj_code 27 5 = some (.putfield 15, 8, 2, 5, 322) := rfl
theorem c_27_8 : mj_code 27 8 = some (.aload_n 0, 9, 0, 0, 0) := rfl
theorem c_27_9 : mj_code 27 9 = some (.iload_n 1, 10, 0, 0, 0) := rfl
theorem c_27_10 : mj_code 27 10 = some (.putfield 63, 13, 2, 0, 315) := rfl
theorem c_27_13 : mj_code 27 13 = some (.aload_n 0, 14, 0, 0, 0) := rfl
theorem c_27_14 : mj_code 27 14 = some (.iload_n 2, 15, 0, 0, 0) := rfl
theorem c_27_15 : mj_code 27 15 = some (.putfield 66, 18, 2, 1, 317) := rfl
theorem c_27_18 : mj_code 27 18 = some (.aload_n 0, 19, 0, 0, 0) := rfl
theorem c_27_19 : mj_code 27 19 = some (.iload_n 2, 20, 0, 0, 0) := rfl
theorem c_27_20 : mj_code 27 20 = some (.putfield 29, 23, 2, 2, 318) := rfl
theorem c_27_23 : mj_code 27 23 = some (.aload_n 0, 24, 0, 0, 0) := rfl
theorem c_27_24 : mj_code 27 24 = some (.iconst 0, 25, 0, 0, 0) := rfl
theorem c_27_25 : mj_code 27 25 = some (.putfield 37, 28, 2, 3, 320) := rfl
theorem c_27_28 : mj_code 27 28 = some (.return_, 29, 0, 0, 0) := rfl
theorem c_28_0 : mj_code 28 0 = some (.aload_n 1, 1, 0, 0, 0) := rfl
theorem c_28_1 : mj_code 28 1 = some (.aload_n 0, 2, 0, 0, 0) := rfl
theorem c_28_2 : mj_code 28 2 = some (.getfield 63, 5, 2, 0, 315) := rfl
theorem c_28_5 : mj_code 28 5 = some (.invokevirtual 23, 8, 12, 0, 805) := rfl
theorem c_28_8 : mj_code 28 8 = some (.istore_n 2, 9, 0, 0, 0) := rfl
theorem c_28_9 : mj_code 28 9 = some (.iload_n 2, 10, 0, 0, 0) := rfl
theorem c_28_10 : mj_code 28 10 = some (.istore_n 3, 11, 0, 0, 0) := rfl
theorem c_28_11 : mj_code 28 11 = some (.iload_n 3, 12, 0, 0, 0) := rfl
theorem c_28_12 : mj_code 28 12 = some (.aload_n 1, 13, 0, 0, 0) := rfl
theorem c_28_13 : mj_code 28 13 = some (.getfield 41, 16, 1, 1, 115) := rfl
theorem c_28_16 : mj_code 28 16 = some (.if_icmp .ge 23, 19, 39, 0, 0) := rfl
theorem c_28_19 : mj_code 28 19 = some (.aload_n 0, 20, 0, 0, 0) := rfl
theorem c_28_20 : mj_code 28 20 = some (.getfield 9, 23, 2, 4, 321) := rfl
theorem c_28_23 : mj_code 28 23 = some (.iload_n 3, 24, 0, 0, 0) := rfl
theorem c_28_24 : mj_code 28 24 = some (.aload_n 0, 25, 0, 0, 0) := rfl
theorem c_28_25 : mj_code 28 25 = some (.getfield 9, 28, 2, 4, 321) := rfl
theorem c_28_28 : mj_code 28 28 = some (.iload_n 3, 29, 0, 0, 0) := rfl
theorem c_28_29 : mj_code 28 29 = some (.iload_n 2, 30, 0, 0, 0) := rfl
theorem c_28_30 : mj_code 28 30 = some (.isub, 31, 0, 0, 0) := rfl
theorem c_28_31 : mj_code 28 31 = some (.iaload, 32, 0, 0, 0) := rfl
theorem c_28_32 : mj_code 28 32 = some (.iastore, 33, 0, 0, 0) := rfl
theorem c_28_33 : mj_code 28 33 = some (.iinc 3 1, 36, 0, 0, 0) := rfl
theorem c_28_36 : mj_code 28 36 = some (.goto (-25), 39, 11, 0, 0) := rfl
theorem c_28_39 : mj_code 28 39 = some (.return_, 40, 0, 0, 0) := rfl
theorem c_29_0 : mj_code 29 0 = some (.aload_n 1, 1, 0, 0, 0) := rfl
theorem c_29_1 : mj_code 29 1 = some (.aload_n 0, 2, 0, 0, 0) := rfl
theorem c_29_2 : mj_code 29 2 = some (.getfield 9, 5, 2, 4, 321) := rfl
theorem c_29_5 : mj_code 29 5 = some (.iload_n 2, 6, 0, 0, 0) := rfl
theorem c_29_6 : mj_code 29 6 = some (.aload_n 0, 7, 0, 0, 0) := rfl
theorem c_29_7 : mj_code 29 7 = some (.getfield 15, 10, 2, 5, 322) := rfl
theorem c_29_10 : mj_code 29 10 = some (.imul, 11, 0, 0, 0) := rfl
theorem c_29_11 : mj_code 29 11 = some (.iload_n 3, 12, 0, 0, 0) := rfl
theorem c_29_12 : mj_code 29 12 = some (.iadd, 13, 0, 0, 0) := rfl
theorem c_29_13 : mj_code 29 13 = some (.iaload, 14, 0, 0, 0) := rfl
theorem c_29_14 : mj_code 29 14 = some (.iaload, 15, 0, 0, 0) := rfl
theorem c_29_15 : mj_code 29 15 = some (.ireturn, 16, 0, 0, 0) := rfl
theorem c_31_0 : mj_code 31 0 = some (.aload_n 0, 1, 0, 0, 0) := rfl
theorem c_31_1 : mj_code 31 1 = some (.getfield 15, 4, 3, 0, 345) := rfl
theorem c_31_4 : mj_code 31 4 = some (.lconst 0, 5, 0, 0, 0) := rfl
theorem c_31_5 : mj_code 31 5 = some (.invokestatic 21, 8, 207, 1, 849) := rfl
theorem c_31_8 : mj_code 31 8 = some (.aload_n 0, 9, 0, 0, 0) := rfl
theorem c_31_9 : mj_code 31 9 = some (.iconst 0, 10, 0, 0, 0) := rfl
theorem c_31_10 : mj_code 31 10 = some (.putfield 27, 13, 3, 1, 346) := rfl
theorem c_31_13 : mj_code 31 13 = some (.return_, 14, 0, 0, 0) := rfl
theorem c_32_0 : mj_code 32 0 = some (.iload_n 1, 1, 0, 0, 0) := rfl
theorem c_32_1 : mj_code 32 1 = some (.bipush 6, 3, 0, 0, 0) := rfl
theorem c_32_3 : mj_code 32 3 = some (.ishr, 4, 0, 0, 0) := rfl
theorem c_32_4 : mj_code 32 4 = some (.istore_n 2, 5, 0, 0, 0) := rfl
theorem c_32_5 : mj_code 32 5 = some (.iload_n 2, 6, 0, 0, 0) := rfl
theorem c_32_6 : mj_code 32 6 = some (.ifCond .lt 37, 9, 43, 0, 0) := rfl
theorem c_32_9 : mj_code 32 9 = some (.iload_n 2, 10, 0, 0, 0) := rfl
theorem c_32_10 : mj_code 32 10 = some (.aload_n 0, 11, 0, 0, 0) := rfl
theorem c_32_11 : mj_code 32 11 = some (.getfield 15, 14, 3, 0, 345) := rfl
theorem c_32_14 : mj_code 32 14 = some (.arraylength, 15, 0, 0, 0) := rfl
theorem c_32_15 : mj_code 32 15 = some (.if_icmp .ge 28, 18, 43, 0, 0) := rfl
theorem c_32_18 : mj_code 32 18 = some (.aload_n 0, 19, 0, 0, 0) := rfl
theorem c_32_19 : mj_code 32 19 = some (.getfield 15, 22, 3, 0, 345) := rfl
theorem c_32_22 : mj_code 32 22 = some (.iload_n 2, 23, 0, 0, 0) := rfl
theorem c_32_23 : mj_code 32 23 = some (.dup2, 24, 0, 0, 0) := rfl
theorem c_32_24 : mj_code 32 24 = some (.laload, 25, 0, 0, 0) := rfl
theorem c_32_25 : mj_code 32 25 = some (.lconst 1, 26, 0, 0, 0) := rfl
theorem c_32_26 : mj_code 32 26 = some (.iload_n 1, 27, 0, 0, 0) := rfl
theorem c_32_27 : mj_code 32 27 = some (.bipush 63, 29, 0, 0, 0) := rfl
theorem c_32_29 : mj_code 32 29 = some (.iand, 30, 0, 0, 0) := rfl
theorem c_32_30 : mj_code 32 30 = some (.lshl, 31, 0, 0, 0) := rfl
theorem c_32_31 : mj_code 32 31 = some (.lor, 32, 0, 0, 0) := rfl
theorem c_32_32 : mj_code 32 32 = some (.lastore, 33, 0, 0, 0) := rfl
theorem c_32_33 : mj_code 32 33 = some (.aload_n 0, 34, 0, 0, 0) := rfl
theorem c_32_34 : mj_code 32 34 = some (.dup, 35, 0, 0, 0) := rfl
theorem c_32_35 : mj_code 32 35 = some (.getfield 27, 38, 3, 1, 346) := rfl
theorem c_32_38 : mj_code 32 38 = some (.iconst 1, 39, 0, 0, 0) := rfl
theorem c_32_39 : mj_code 32 39 = some (.iadd, 40, 0, 0, 0) := rfl
theorem c_32_40 : mj_code 32 40 = some (.putfield 27, 43, 3, 1, 346) := rfl
theorem c_32_43 : mj_code 32 43 = some (.return_, 44, 0, 0, 0) := rfl
theorem c_33_0 : mj_code 33 0 = some (.iload_n 1, 1, 0, 0, 0) := rfl
theorem c_33_1 : mj_code 33 1 = some (.ifCond .lt 11, 4, 12, 0, 0) := rfl
theorem c_33_4 : mj_code 33 4 = some (.iload_n 1, 5, 0, 0, 0) := rfl
theorem c_33_5 : mj_code 33 5 = some (.aload_n 0, 6, 0, 0, 0) := rfl
theorem c_33_6 : mj_code 33 6 = some (.getfield 27, 9, 3, 1, 346) := rfl
theorem c_33_9 : mj_code 33 9 = some (.if_icmp .lt 5, 12, 14, 0, 0) := rfl
theorem c_33_12 : mj_code 33 12 = some (.iconst (-1), 13, 0, 0, 0) := rfl
theorem c_33_13 : mj_code 33 13 = some (.ireturn, 14, 0, 0, 0) := rfl
theorem c_33_14 : mj_code 33 14 = some (.iload_n 1, 15, 0, 0, 0) := rfl
theorem c_33_15 : mj_code 33 15 = some (.istore_n 2, 16, 0, 0, 0) := rfl
theorem c_33_16 : mj_code 33 16 = some (.iconst 0, 17, 0, 0, 0) := rfl
theorem c_33_17 : mj_code 33 17 = some (.istore_n 3, 18, 0, 0, 0) := rfl
theorem c_33_18 : mj_code 33 18 = some (.iload_n 3, 19, 0, 0, 0) := rfl
theorem c_33_19 : mj_code 33 19 = some (.aload_n 0, 20, 0, 0, 0) := rfl
theorem c_33_20 : mj_code 33 20 = some (.getfield 15, 23, 3, 0, 345) := rfl
theorem c_33_23 : mj_code 33 23 = some (.arraylength, 24, 0, 0, 0) := rfl
theorem c_33_24 : mj_code 33 24 = some (.if_icmp .ge 48, 27, 72, 0, 0) := rfl
theorem c_33_27 : mj_code 33 27 = some (.aload_n 0, 28, 0, 0, 0) := rfl
theorem c_33_28 : mj_code 33 28 = some (.getfield 15, 31, 3, 0, 345) := rfl
theorem c_33_31 : mj_code 33 31 = some (.iload_n 3, 32, 0, 0, 0) := rfl
theorem c_33_32 : mj_code 33 32 = some (.laload, 33, 0, 0, 0) := rfl
theorem c_33_33 : mj_code 33 33 = some (.invokestatic 31, 36, 203, 1, 871) := rfl
theorem c_33_36 : mj_code 33 36 = some (.istore 4, 38, 0, 0, 0) := rfl
theorem c_33_38 : mj_code 33 38 = some (.iload_n 2, 39, 0, 0, 0) := rfl
theorem c_33_39 : mj_code 33 39 = some (.iload 4, 41, 0, 0, 0) := rfl
theorem c_33_41 : mj_code 33 41 = some (.if_icmp .ge 20, 44, 61, 0, 0) := rfl
theorem c_33_44 : mj_code 33 44 = some (.iload_n 3, 45, 0, 0, 0) := rfl
theorem c_33_45 : mj_code 33 45 = some (.bipush 64, 47, 0, 0, 0) := rfl
theorem c_33_47 : mj_code 33 47 = some (.imul, 48, 0, 0, 0) := rfl
theorem c_33_48 : mj_code 33 48 = some (.aload_n 0, 49, 0, 0, 0) := rfl
theorem c_33_49 : mj_code 33 49 = some (.aload_n 0, 50, 0, 0, 0) := rfl
theorem c_33_50 : mj_code 33 50 = some (.getfield 15, 53, 3, 0, 345) := rfl
theorem c_33_53 : mj_code 33 53 = some (.iload_n 3, 54, 0, 0, 0) := rfl
theorem c_33_54 : mj_code 33 54 = some (.laload, 55, 0, 0, 0) := rfl
theorem c_33_55 : mj_code 33 55 = some (.iload_n 2, 56, 0, 0, 0) := rfl
theorem c_33_56 : mj_code 33 56 = some (.invokevirtual 37, 59, 34, 0, 877) := rfl
theorem c_33_59 : mj_code 33 59 = some (.iadd, 60, 0, 0, 0) := rfl
theorem c_33_60 : mj_code 33 60 = some (.ireturn, 61, 0, 0, 0) := rfl
theorem c_33_61 : mj_code 33 61 = some (.iload_n 2, 62, 0, 0, 0) := rfl
theorem c_33_62 : mj_code 33 62 = some (.iload 4, 64, 0, 0, 0) := rfl
theorem c_33_64 : mj_code 33 64 = some (.isub, 65, 0, 0, 0) := rfl
theorem c_33_65 : mj_code 33 65 = some (.istore_n 2, 66, 0, 0, 0) := rfl
theorem c_33_66 : mj_code 33 66 = some (.iinc 3 1, 69, 0, 0, 0) := rfl
theorem c_33_69 : mj_code 33 69 = some (.goto (-51), 72, 18, 0, 0) := rfl
theorem c_33_72 : mj_code 33 72 = some (.iconst (-1), 73, 0, 0, 0) := rfl
theorem c_33_73 : mj_code 33 73 = some (.ireturn, 74, 0, 0, 0) := rfl
theorem c_34_0 : mj_code 34 0 = some (.iload_n 3, 1, 0, 0, 0) := rfl
theorem c_34_1 : mj_code 34 1 = some (.istore 4, 3, 0, 0, 0) := rfl
theorem c_34_3 : mj_code 34 3 = some (.iconst 0, 4, 0, 0, 0) := rfl
theorem c_34_4 : mj_code 34 4 = some (.istore 5, 6, 0, 0, 0) := rfl
theorem c_34_6 : mj_code 34 6 = some (.iload 5, 8, 0, 0, 0) := rfl
theorem c_34_8 : mj_code 34 8 = some (.bipush 64, 10, 0, 0, 0) := rfl
theorem c_34_10 : mj_code 34 10 = some (.if_icmp .ge 31, 13, 41, 0, 0) := rfl
theorem c_34_13 : mj_code 34 13 = some (.lload_n 1, 14, 0, 0, 0) := rfl
theorem c_34_14 : mj_code 34 14 = some (.iload 5, 16, 0, 0, 0) := rfl
theorem c_34_16 : mj_code 34 16 = some (.lushr, 17, 0, 0, 0) := rfl
theorem c_34_17 : mj_code 34 17 = some (.lconst 1, 18, 0, 0, 0) := rfl
theorem c_34_18 : mj_code 34 18 = some (.land, 19, 0, 0, 0) := rfl
theorem c_34_19 : mj_code 34 19 = some (.lconst 0, 20, 0, 0, 0) := rfl
theorem c_34_20 : mj_code 34 20 = some (.lcmp, 21, 0, 0, 0) := rfl
theorem c_34_21 : mj_code 34 21 = some (.ifCond .eq 14, 24, 35, 0, 0) := rfl
theorem c_34_24 : mj_code 34 24 = some (.iload 4, 26, 0, 0, 0) := rfl
theorem c_34_26 : mj_code 34 26 = some (.ifCond .ne 6, 29, 32, 0, 0) := rfl
theorem c_34_29 : mj_code 34 29 = some (.iload 5, 31, 0, 0, 0) := rfl
theorem c_34_31 : mj_code 34 31 = some (.ireturn, 32, 0, 0, 0) := rfl
theorem c_34_32 : mj_code 34 32 = some (.iinc 4 (-1), 35, 0, 0, 0) := rfl
theorem c_34_35 : mj_code 34 35 = some (.iinc 5 1, 38, 0, 0, 0) := rfl
theorem c_34_38 : mj_code 34 38 = some (.goto (-32), 41, 6, 0, 0) := rfl
theorem c_34_41 : mj_code 34 41 = some (.iconst (-1), 42, 0, 0, 0) := rfl
theorem c_34_42 : mj_code 34 42 = some (.ireturn, 43, 0, 0, 0) := rfl
theorem c_36_0 : mj_code 36 0 = some (.aload_n 0, 1, 0, 0, 0) := rfl
theorem c_36_1 : mj_code 36 1 = some (.iload_n 1, 2, 0, 0, 0) := rfl
theorem c_36_2 : mj_code 36 2 = some (.putfield 15, 5, 4, 0, 358) := rfl
theorem c_36_5 : mj_code 36 5 = some (.aload_n 0, 6, 0, 0, 0) := rfl
theorem c_36_6 : mj_code 36 6 = some (.iload_n 2, 7, 0, 0, 0) := rfl
theorem c_36_7 : mj_code 36 7 = some (.putfield 19, 10, 4, 1, 360) := rfl
theorem c_36_10 : mj_code 36 10 = some (.aload_n 0, 11, 0, 0, 0) := rfl
theorem c_36_11 : mj_code 36 11 = some (.iconst 0, 12, 0, 0, 0) := rfl
theorem c_36_12 : mj_code 36 12 = some (.putfield 22, 15, 4, 2, 362) := rfl
theorem c_36_15 : mj_code 36 15 = some (.aload_n 0, 16, 0, 0, 0) := rfl
theorem c_36_16 : mj_code 36 16 = some (.iconst 0, 17, 0, 0, 0) := rfl
theorem c_36_17 : mj_code 36 17 = some (.putfield 25, 20, 4, 3, 365) := rfl
theorem c_36_20 : mj_code 36 20 = some (.aload_n 3, 21, 0, 0, 0) := rfl
theorem c_36_21 : mj_code 36 21 = some (.iload_n 1, 22, 0, 0, 0) := rfl
theorem c_36_22 : mj_code 36 22 = some (.invokevirtual 28, 25, 12, 0, 596) := rfl
theorem c_36_25 : mj_code 36 25 = some (.istore 4, 27, 0, 0, 0) := rfl
theorem c_36_27 : mj_code 36 27 = some (.iconst 0, 28, 0, 0, 0) := rfl
theorem c_36_28 : mj_code 36 28 = some (.istore 5, 30, 0, 0, 0) := rfl
theorem c_36_30 : mj_code 36 30 = some (.iload 5, 32, 0, 0, 0) := rfl
theorem c_36_32 : mj_code 36 32 = some (.iload 4, 34, 0, 0, 0) := rfl
theorem c_36_34 : mj_code 36 34 = some (.if_icmp .ge 29, 37, 63, 0, 0) := rfl
theorem c_36_37 : mj_code 36 37 = some (.iload_n 2, 38, 0, 0, 0) := rfl
theorem c_36_38 : mj_code 36 38 = some (.iload 5, 40, 0, 0, 0) := rfl
theorem c_36_40 : mj_code 36 40 = some (.ishr, 41, 0, 0, 0) := rfl
theorem c_36_41 : mj_code 36 41 = some (.iconst 1, 42, 0, 0, 0) := rfl
theorem c_36_42 : mj_code 36 42 = some (.iand, 43, 0, 0, 0) := rfl
theorem c_36_43 : mj_code 36 43 = some (.ifCond .eq 14, 46, 57, 0, 0) := rfl
theorem c_36_46 : mj_code 36 46 = some (.aload_n 0, 47, 0, 0, 0) := rfl
theorem c_36_47 : mj_code 36 47 = some (.aload_n 3, 48, 0, 0, 0) := rfl
theorem c_36_48 : mj_code 36 48 = some (.iload 5, 50, 0, 0, 0) := rfl
theorem c_36_50 : mj_code 36 50 = some (.iload_n 1, 51, 0, 0, 0) := rfl
theorem c_36_51 : mj_code 36 51 = some (.invokevirtual 34, 54, 17, 0, 597) := rfl
theorem c_36_54 : mj_code 36 54 = some (.invokevirtual 38, 57, 42, 0, 601) := rfl
theorem c_36_57 : mj_code 36 57 = some (.iinc 5 1, 60, 0, 0, 0) := rfl
theorem c_36_60 : mj_code 36 60 = some (.goto (-30), 63, 30, 0, 0) := rfl
theorem c_36_63 : mj_code 36 63 = some (.return_, 64, 0, 0, 0) := rfl
theorem c_37_0 : mj_code 37 0 = some (.aload_n 0, 1, 0, 0, 0) := rfl
theorem c_37_1 : mj_code 37 1 = some (.getfield 25, 4, 4, 3, 365) := rfl
theorem c_37_4 : mj_code 37 4 = some (.aload_n 1, 5, 0, 0, 0) := rfl
theorem c_37_5 : mj_code 37 5 = some (.aload_n 0, 6, 0, 0, 0) := rfl
theorem c_37_6 : mj_code 37 6 = some (.getfield 15, 9, 4, 0, 358) := rfl
theorem c_37_9 : mj_code 37 9 = some (.invokevirtual 28, 12, 12, 0, 596) := rfl
theorem c_37_12 : mj_code 37 12 = some (.if_icmp .ne 7, 15, 19, 0, 0) := rfl
theorem c_37_15 : mj_code 37 15 = some (.iconst 1, 16, 0, 0, 0) := rfl
theorem c_37_16 : mj_code 37 16 = some (.goto 4, 19, 20, 0, 0) := rfl
theorem c_37_19 : mj_code 37 19 = some (.iconst 0, 20, 0, 0, 0) := rfl
theorem c_37_20 : mj_code 37 20 = some (.ireturn, 21, 0, 0, 0) := rfl
theorem c_38_0 : mj_code 38 0 = some (.aload_n 0, 1, 0, 0, 0) := rfl
theorem c_38_1 : mj_code 38 1 = some (.aload_n 1, 2, 0, 0, 0) := rfl
theorem c_38_2 : mj_code 38 2 = some (.getfield 42, 5, 0, 0, 390) := rfl
theorem c_38_5 : mj_code 38 5 = some (.iconst 3, 6, 0, 0, 0) := rfl
theorem c_38_6 : mj_code 38 6 = some (.invokevirtual 45, 9, 41, 0, 630) := rfl
theorem c_38_9 : mj_code 38 9 = some (.istore 4, 11, 0, 0, 0) := rfl
theorem c_38_11 : mj_code 38 11 = some (.aload_n 0, 12, 0, 0, 0) := rfl
theorem c_38_12 : mj_code 38 12 = some (.aload_n 1, 13, 0, 0, 0) := rfl
theorem c_38_13 : mj_code 38 13 = some (.getfield 42, 16, 0, 0, 390) := rfl
theorem c_38_16 : mj_code 38 16 = some (.iconst 2, 17, 0, 0, 0) := rfl
theorem c_38_17 : mj_code 38 17 = some (.invokevirtual 45, 20, 41, 0, 630) := rfl
theorem c_38_20 : mj_code 38 20 = some (.istore 5, 22, 0, 0, 0) := rfl
theorem c_38_22 : mj_code 38 22 = some (.iconst 0, 23, 0, 0, 0) := rfl
theorem c_38_23 : mj_code 38 23 = some (.istore 6, 25, 0, 0, 0) := rfl
theorem c_38_25 : mj_code 38 25 = some (.iload 6, 27, 0, 0, 0) := rfl
theorem c_38_27 : mj_code 38 27 = some (.iload 4, 29, 0, 0, 0) := rfl
theorem c_38_29 : mj_code 38 29 = some (.if_icmp .ge 90, 32, 119, 0, 0) := rfl
theorem c_38_32 : mj_code 38 32 = some (.iconst 0, 33, 0, 0, 0) := rfl
theorem c_38_33 : mj_code 38 33 = some (.istore 7, 35, 0, 0, 0) := rfl
theorem c_38_35 : mj_code 38 35 = some (.iload 7, 37, 0, 0, 0) := rfl
theorem c_38_37 : mj_code 38 37 = some (.iload 5, 39, 0, 0, 0) := rfl
theorem c_38_39 : mj_code 38 39 = some (.if_icmp .ge 74, 42, 113, 0, 0) := rfl
theorem c_38_42 : mj_code 38 42 = some (.aload_n 3, 43, 0, 0, 0) := rfl
theorem c_38_43 : mj_code 38 43 = some (.aload_n 2, 44, 0, 0, 0) := rfl
theorem c_38_44 : mj_code 38 44 = some (.aload_n 1, 45, 0, 0, 0) := rfl
theorem c_38_45 : mj_code 38 45 = some (.getfield 48, 48, 0, 2, 396) := rfl
theorem c_38_48 : mj_code 38 48 = some (.aload_n 0, 49, 0, 0, 0) := rfl
theorem c_38_49 : mj_code 38 49 = some (.getfield 9, 52, 4, 4, 368) := rfl
theorem c_38_52 : mj_code 38 52 = some (.iload 6, 54, 0, 0, 0) := rfl
theorem c_38_54 : mj_code 38 54 = some (.iaload, 55, 0, 0, 0) := rfl
theorem c_38_55 : mj_code 38 55 = some (.aload_n 0, 56, 0, 0, 0) := rfl
theorem c_38_56 : mj_code 38 56 = some (.getfield 9, 59, 4, 4, 368) := rfl
theorem c_38_59 : mj_code 38 59 = some (.iload 7, 61, 0, 0, 0) := rfl
theorem c_38_61 : mj_code 38 61 = some (.iaload, 62, 0, 0, 0) := rfl
theorem c_38_62 : mj_code 38 62 = some (.invokevirtual 51, 65, 45, 0, 637) := rfl
theorem c_38_65 : mj_code 38 65 = some (.iconst 0, 66, 0, 0, 0) := rfl
theorem c_38_66 : mj_code 38 66 = some (.istore 8, 68, 0, 0, 0) := rfl
theorem c_38_68 : mj_code 38 68 = some (.iload 8, 70, 0, 0, 0) := rfl
theorem c_38_70 : mj_code 38 70 = some (.aload_n 0, 71, 0, 0, 0) := rfl
theorem c_38_71 : mj_code 38 71 = some (.getfield 25, 74, 4, 3, 365) := rfl
theorem c_38_74 : mj_code 38 74 = some (.if_icmp .ge 33, 77, 107, 0, 0) := rfl
theorem c_38_77 : mj_code 38 77 = some (.aload_n 0, 78, 0, 0, 0) := rfl
theorem c_38_78 : mj_code 38 78 = some (.getfield 22, 81, 4, 2, 362) := rfl
theorem c_38_81 : mj_code 38 81 = some (.aload_n 3, 82, 0, 0, 0) := rfl
theorem c_38_82 : mj_code 38 82 = some (.getfield 57, 85, 5, 0, 190) := rfl
theorem c_38_85 : mj_code 38 85 = some (.aload_n 0, 86, 0, 0, 0) := rfl
theorem c_38_86 : mj_code 38 86 = some (.getfield 9, 89, 4, 4, 368) := rfl
theorem c_38_89 : mj_code 38 89 = some (.iload 8, 91, 0, 0, 0) := rfl
theorem c_38_91 : mj_code 38 91 = some (.iaload, 92, 0, 0, 0) := rfl
theorem c_38_92 : mj_code 38 92 = some (.iaload, 93, 0, 0, 0) := rfl
theorem c_38_93 : mj_code 38 93 = some (.ishr, 94, 0, 0, 0) := rfl
theorem c_38_94 : mj_code 38 94 = some (.iconst 1, 95, 0, 0, 0) := rfl
theorem c_38_95 : mj_code 38 95 = some (.iand, 96, 0, 0, 0) := rfl
theorem c_38_96 : mj_code 38 96 = some (.ifCond .ne 5, 99, 101, 0, 0) := rfl
theorem c_38_99 : mj_code 38 99 = some (.iconst 0, 100, 0, 0, 0) := rfl
theorem c_38_100 : mj_code 38 100 = some (.ireturn, 101, 0, 0, 0) := rfl
theorem c_38_101 : mj_code 38 101 = some (.iinc 8 1, 104, 0, 0, 0) := rfl
theorem c_38_104 : mj_code 38 104 = some (.goto (-36), 107, 68, 0, 0) := rfl
theorem c_38_107 : mj_code 38 107 = some (.iinc 7 1, 110, 0, 0, 0) := rfl
theorem c_38_110 : mj_code 38 110 = some (.goto (-75), 113, 35, 0, 0) := rfl
theorem c_38_113 : mj_code 38 113 = some (.iinc 6 1, 116, 0, 0, 0) := rfl
theorem c_38_116 : mj_code 38 116 = some (.goto (-91), 119, 25, 0, 0) := rfl
theorem c_38_119 : mj_code 38 119 = some (.iconst 1, 120, 0, 0, 0) := rfl
theorem c_38_120 : mj_code 38 120 = some (.ireturn, 121, 0, 0, 0) := rfl
theorem c_39_0 : mj_code 39 0 = some (.aload_n 0, 1, 0, 0, 0) := rfl
theorem c_39_1 : mj_code 39 1 = some (.getfield 25, 4, 4, 3, 365) := rfl
theorem c_39_4 : mj_code 39 4 = some (.istore 4, 6, 0, 0, 0) := rfl
theorem c_39_6 : mj_code 39 6 = some (.aload_n 0, 7, 0, 0, 0) := rfl
theorem c_39_7 : mj_code 39 7 = some (.aload_n 1, 8, 0, 0, 0) := rfl
theorem c_39_8 : mj_code 39 8 = some (.getfield 42, 11, 0, 0, 390) := rfl
theorem c_39_11 : mj_code 39 11 = some (.iconst 3, 12, 0, 0, 0) := rfl
theorem c_39_12 : mj_code 39 12 = some (.invokevirtual 45, 15, 41, 0, 630) := rfl
theorem c_39_15 : mj_code 39 15 = some (.istore 5, 17, 0, 0, 0) := rfl
theorem c_39_17 : mj_code 39 17 = some (.aload_n 0, 18, 0, 0, 0) := rfl
theorem c_39_18 : mj_code 39 18 = some (.aload_n 1, 19, 0, 0, 0) := rfl
theorem c_39_19 : mj_code 39 19 = some (.getfield 42, 22, 0, 0, 390) := rfl
theorem c_39_22 : mj_code 39 22 = some (.iconst 2, 23, 0, 0, 0) := rfl
theorem c_39_23 : mj_code 39 23 = some (.invokevirtual 45, 26, 41, 0, 630) := rfl
theorem c_39_26 : mj_code 39 26 = some (.istore 6, 28, 0, 0, 0) := rfl
theorem c_39_28 : mj_code 39 28 = some (.iconst 0, 29, 0, 0, 0) := rfl
theorem c_39_29 : mj_code 39 29 = some (.istore 7, 31, 0, 0, 0) := rfl
theorem c_39_31 : mj_code 39 31 = some (.iload 7, 33, 0, 0, 0) := rfl
theorem c_39_33 : mj_code 39 33 = some (.iload 5, 35, 0, 0, 0) := rfl
theorem c_39_35 : mj_code 39 35 = some (.if_icmp .ge 80, 38, 115, 0, 0) := rfl
theorem c_39_38 : mj_code 39 38 = some (.iconst 0, 39, 0, 0, 0) := rfl
theorem c_39_39 : mj_code 39 39 = some (.istore 8, 41, 0, 0, 0) := rfl
theorem c_39_41 : mj_code 39 41 = some (.iload 8, 43, 0, 0, 0) := rfl
theorem c_39_43 : mj_code 39 43 = some (.iload 6, 45, 0, 0, 0) := rfl
theorem c_39_45 : mj_code 39 45 = some (.if_icmp .ge 64, 48, 109, 0, 0) := rfl
theorem c_39_48 : mj_code 39 48 = some (.aload_n 3, 49, 0, 0, 0) := rfl
theorem c_39_49 : mj_code 39 49 = some (.aload_n 2, 50, 0, 0, 0) := rfl
theorem c_39_50 : mj_code 39 50 = some (.aload_n 1, 51, 0, 0, 0) := rfl
theorem c_39_51 : mj_code 39 51 = some (.getfield 48, 54, 0, 2, 396) := rfl
theorem c_39_54 : mj_code 39 54 = some (.aload_n 0, 55, 0, 0, 0) := rfl
theorem c_39_55 : mj_code 39 55 = some (.getfield 9, 58, 4, 4, 368) := rfl
theorem c_39_58 : mj_code 39 58 = some (.iload 7, 60, 0, 0, 0) := rfl
theorem c_39_60 : mj_code 39 60 = some (.iaload, 61, 0, 0, 0) := rfl
theorem c_39_61 : mj_code 39 61 = some (.aload_n 0, 62, 0, 0, 0) := rfl
theorem c_39_62 : mj_code 39 62 = some (.getfield 9, 65, 4, 4, 368) := rfl
theorem c_39_65 : mj_code 39 65 = some (.iload 8, 67, 0, 0, 0) := rfl
theorem c_39_67 : mj_code 39 67 = some (.iaload, 68, 0, 0, 0) := rfl
theorem c_39_68 : mj_code 39 68 = some (.invokevirtual 51, 71, 45, 0, 637) := rfl
theorem c_39_71 : mj_code 39 71 = some (.iconst 0, 72, 0, 0, 0) := rfl
theorem c_39_72 : mj_code 39 72 = some (.istore 9, 74, 0, 0, 0) := rfl
theorem c_39_74 : mj_code 39 74 = some (.iload 9, 76, 0, 0, 0) := rfl
theorem c_39_76 : mj_code 39 76 = some (.iload 4, 78, 0, 0, 0) := rfl
theorem c_39_78 : mj_code 39 78 = some (.if_icmp .ge 25, 81, 103, 0, 0) := rfl
theorem c_39_81 : mj_code 39 81 = some (.aload_n 0, 82, 0, 0, 0) := rfl
theorem c_39_82 : mj_code 39 82 = some (.aload_n 3, 83, 0, 0, 0) := rfl
theorem c_39_83 : mj_code 39 83 = some (.getfield 57, 86, 5, 0, 190) := rfl
theorem c_39_86 : mj_code 39 86 = some (.aload_n 0, 87, 0, 0, 0) := rfl
theorem c_39_87 : mj_code 39 87 = some (.getfield 9, 90, 4, 4, 368) := rfl
theorem c_39_90 : mj_code 39 90 = some (.iload 9, 92, 0, 0, 0) := rfl
theorem c_39_92 : mj_code 39 92 = some (.iaload, 93, 0, 0, 0) := rfl
theorem c_39_93 : mj_code 39 93 = some (.iaload, 94, 0, 0, 0) := rfl
theorem c_39_94 : mj_code 39 94 = some (.invokevirtual 38, 97, 42, 0, 601) := rfl
theorem c_39_97 : mj_code 39 97 = some (.iinc 9 1, 100, 0, 0, 0) := rfl
theorem c_39_100 : mj_code 39 100 = some (.goto (-26), 103, 74, 0, 0) := rfl
theorem c_39_103 : mj_code 39 103 = some (.iinc 8 1, 106, 0, 0, 0) := rfl
theorem c_39_106 : mj_code 39 106 = some (.goto (-65), 109, 41, 0, 0) := rfl
theorem c_39_109 : mj_code 39 109 = some (.iinc 7 1, 112, 0, 0, 0) := rfl
theorem c_39_112 : mj_code 39 112 = some (.goto (-81), 115, 31, 0, 0) := rfl
theorem c_39_115 : mj_code 39 115 = some (.aload_n 0, 116, 0, 0, 0) := rfl
theorem c_39_116 : mj_code 39 116 = some (.getfield 25, 119, 4, 3, 365) := rfl
theorem c_39_119 : mj_code 39 119 = some (.iload 4, 121, 0, 0, 0) := rfl
theorem c_39_121 : mj_code 39 121 = some (.if_icmp .le 7, 124, 128, 0, 0) := rfl
theorem c_39_124 : mj_code 39 124 = some (.iconst 1, 125, 0, 0, 0) := rfl
theorem c_39_125 : mj_code 39 125 = some (.goto 4, 128, 129, 0, 0) := rfl
theorem c_39_128 : mj_code 39 128 = some (.iconst 0, 129, 0, 0, 0) := rfl
theorem c_39_129 : mj_code 39 129 = some (.ireturn, 130, 0, 0, 0) := rfl
theorem c_40_0 : mj_code 40 0 = some (.iconst 0, 1, 0, 0, 0) := rfl
theorem c_40_1 : mj_code 40 1 = some (.istore_n 2, 2, 0, 0, 0) := rfl
theorem c_40_2 : mj_code 40 2 = some (.aload_n 1, 3, 0, 0, 0) := rfl
theorem c_40_3 : mj_code 40 3 = some (.aload_n 0, 4, 0, 0, 0) := rfl
theorem c_40_4 : mj_code 40 4 = some (.getfield 15, 7, 4, 0, 358) := rfl
theorem c_40_7 : mj_code 40 7 = some (.invokevirtual 28, 10, 12, 0, 596) := rfl
theorem c_40_10 : mj_code 40 10 = some (.istore_n 3, 11, 0, 0, 0) := rfl
theorem c_40_11 : mj_code 40 11 = some (.iconst 0, 12, 0, 0, 0) := rfl
theorem c_40_12 : mj_code 40 12 = some (.istore 4, 14, 0, 0, 0) := rfl
theorem c_40_14 : mj_code 40 14 = some (.iload 4, 16, 0, 0, 0) := rfl
theorem c_40_16 : mj_code 40 16 = some (.iload_n 3, 17, 0, 0, 0) := rfl
theorem c_40_17 : mj_code 40 17 = some (.if_icmp .ge 36, 20, 53, 0, 0) := rfl
theorem c_40_20 : mj_code 40 20 = some (.aload_n 0, 21, 0, 0, 0) := rfl
theorem c_40_21 : mj_code 40 21 = some (.getfield 22, 24, 4, 2, 362) := rfl
theorem c_40_24 : mj_code 40 24 = some (.aload_n 1, 25, 0, 0, 0) := rfl
theorem c_40_25 : mj_code 40 25 = some (.iload 4, 27, 0, 0, 0) := rfl
theorem c_40_27 : mj_code 40 27 = some (.aload_n 0, 28, 0, 0, 0) := rfl
theorem c_40_28 : mj_code 40 28 = some (.getfield 15, 31, 4, 0, 358) := rfl
theorem c_40_31 : mj_code 40 31 = some (.invokevirtual 34, 34, 17, 0, 597) := rfl
theorem c_40_34 : mj_code 40 34 = some (.ishr, 35, 0, 0, 0) := rfl
theorem c_40_35 : mj_code 40 35 = some (.iconst 1, 36, 0, 0, 0) := rfl
theorem c_40_36 : mj_code 40 36 = some (.iand, 37, 0, 0, 0) := rfl
theorem c_40_37 : mj_code 40 37 = some (.ifCond .eq 10, 40, 47, 0, 0) := rfl
theorem c_40_40 : mj_code 40 40 = some (.iload_n 2, 41, 0, 0, 0) := rfl
theorem c_40_41 : mj_code 40 41 = some (.iconst 1, 42, 0, 0, 0) := rfl
theorem c_40_42 : mj_code 40 42 = some (.iload 4, 44, 0, 0, 0) := rfl
theorem c_40_44 : mj_code 40 44 = some (.ishl, 45, 0, 0, 0) := rfl
theorem c_40_45 : mj_code 40 45 = some (.ior, 46, 0, 0, 0) := rfl
theorem c_40_46 : mj_code 40 46 = some (.istore_n 2, 47, 0, 0, 0) := rfl
theorem c_40_47 : mj_code 40 47 = some (.iinc 4 1, 50, 0, 0, 0) := rfl
theorem c_40_50 : mj_code 40 50 = some (.goto (-36), 53, 14, 0, 0) := rfl
theorem c_40_53 : mj_code 40 53 = some (.iload_n 2, 54, 0, 0, 0) := rfl
theorem c_40_54 : mj_code 40 54 = some (.ireturn, 55, 0, 0, 0) := rfl
theorem c_41_0 : mj_code 41 0 = some (.iload_n 1, 1, 0, 0, 0) := rfl
theorem c_41_1 : mj_code 41 1 = some (.iload_n 2, 2, 0, 0, 0) := rfl
theorem c_41_2 : mj_code 41 2 = some (.if_icmp .lt 10, 5, 12, 0, 0) := rfl
theorem c_41_5 : mj_code 41 5 = some (.aload_n 0, 6, 0, 0, 0) := rfl
theorem c_41_6 : mj_code 41 6 = some (.getfield 25, 9, 4, 3, 365) := rfl
theorem c_41_9 : mj_code 41 9 = some (.goto 11, 12, 20, 0, 0) := rfl
theorem c_41_12 : mj_code 41 12 = some (.aload_n 0, 13, 0, 0, 0) := rfl
theorem c_41_13 : mj_code 41 13 = some (.getfield 25, 16, 4, 3, 365) := rfl
theorem c_41_16 : mj_code 41 16 = some (.iconst 1, 17, 0, 0, 0) := rfl
theorem c_41_17 : mj_code 41 17 = some (.invokestatic 60, 20, 206, 1, 634) := rfl
theorem c_41_20 : mj_code 41 20 = some (.ireturn, 21, 0, 0, 0) := rfl
theorem c_42_0 : mj_code 42 0 = some (.aload_n 0, 1, 0, 0, 0) := rfl
theorem c_42_1 : mj_code 42 1 = some (.getfield 25, 4, 4, 3, 365) := rfl
theorem c_42_4 : mj_code 42 4 = some (.bipush 27, 6, 0, 0, 0) := rfl
theorem c_42_6 : mj_code 42 6 = some (.if_icmp .ge 46, 9, 52, 0, 0) := rfl
theorem c_42_9 : mj_code 42 9 = some (.aload_n 0, 10, 0, 0, 0) := rfl
theorem c_42_10 : mj_code 42 10 = some (.getfield 22, 13, 4, 2, 362) := rfl
theorem c_42_13 : mj_code 42 13 = some (.iload_n 1, 14, 0, 0, 0) := rfl
theorem c_42_14 : mj_code 42 14 = some (.ishr, 15, 0, 0, 0) := rfl
theorem c_42_15 : mj_code 42 15 = some (.iconst 1, 16, 0, 0, 0) := rfl
theorem c_42_16 : mj_code 42 16 = some (.iand, 17, 0, 0, 0) := rfl
theorem c_42_17 : mj_code 42 17 = some (.ifCond .ne 35, 20, 52, 0, 0) := rfl
theorem c_42_20 : mj_code 42 20 = some (.aload_n 0, 21, 0, 0, 0) := rfl
theorem c_42_21 : mj_code 42 21 = some (.getfield 9, 24, 4, 4, 368) := rfl
theorem c_42_24 : mj_code 42 24 = some (.aload_n 0, 25, 0, 0, 0) := rfl
theorem c_42_25 : mj_code 42 25 = some (.getfield 25, 28, 4, 3, 365) := rfl
theorem c_42_28 : mj_code 42 28 = some (.iload_n 1, 29, 0, 0, 0) := rfl
theorem c_42_29 : mj_code 42 29 = some (.iastore, 30, 0, 0, 0) := rfl
theorem c_42_30 : mj_code 42 30 = some (.aload_n 0, 31, 0, 0, 0) := rfl
theorem c_42_31 : mj_code 42 31 = some (.dup, 32, 0, 0, 0) := rfl
theorem c_42_32 : mj_code 42 32 = some (.getfield 25, 35, 4, 3, 365) := rfl
theorem c_42_35 : mj_code 42 35 = some (.iconst 1, 36, 0, 0, 0) := rfl
theorem c_42_36 : mj_code 42 36 = some (.iadd, 37, 0, 0, 0) := rfl
theorem c_42_37 : mj_code 42 37 = some (.putfield 25, 40, 4, 3, 365) := rfl
theorem c_42_40 : mj_code 42 40 = some (.aload_n 0, 41, 0, 0, 0) := rfl
theorem c_42_41 : mj_code 42 41 = some (.dup, 42, 0, 0, 0) := rfl
theorem c_42_42 : mj_code 42 42 = some (.getfield 22, 45, 4, 2, 362) := rfl
theorem c_42_45 : mj_code 42 45 = some (.iconst 1, 46, 0, 0, 0) := rfl
theorem c_42_46 : mj_code 42 46 = some (.iload_n 1, 47, 0, 0, 0) := rfl
theorem c_42_47 : mj_code 42 47 = some (.ishl, 48, 0, 0, 0) := rfl
theorem c_42_48 : mj_code 42 48 = some (.ior, 49, 0, 0, 0) := rfl
theorem c_42_49 : mj_code 42 49 = some (.putfield 22, 52, 4, 2, 362) := rfl
theorem c_42_52 : mj_code 42 52 = some (.return_, 53, 0, 0, 0) := rfl
theorem c_44_0 : mj_code 44 0 = some (.aload_n 0, 1, 0, 0, 0) := rfl
theorem c_44_1 : mj_code 44 1 = some (.iload_n 1, 2, 0, 0, 0) := rfl
theorem c_44_2 : mj_code 44 2 = some (.putfield 15, 5, 5, 1, 192) := rfl
theorem c_44_5 : mj_code 44 5 = some (.aload_n 0, 6, 0, 0, 0) := rfl
theorem c_44_6 : mj_code 44 6 = some (.iload_n 2, 7, 0, 0, 0) := rfl
theorem c_44_7 : mj_code 44 7 = some (.putfield 19, 10, 5, 2, 193) := rfl
theorem c_44_10 : mj_code 44 10 = some (.aload_n 0, 11, 0, 0, 0) := rfl
theorem c_44_11 : mj_code 44 11 = some (.iload_n 3, 12, 0, 0, 0) := rfl
theorem c_44_12 : mj_code 44 12 = some (.putfield 22, 15, 5, 3, 194) := rfl
theorem c_44_15 : mj_code 44 15 = some (.aload_n 0, 16, 0, 0, 0) := rfl
theorem c_44_16 : mj_code 44 16 = some (.getfield 9, 19, 5, 0, 189) := rfl
theorem c_44_19 : mj_code 44 19 = some (.iconst 0, 20, 0, 0, 0) := rfl
theorem c_44_20 : mj_code 44 20 = some (.invokestatic 25, 23, 208, 1, 451) := rfl
theorem c_44_23 : mj_code 44 23 = some (.return_, 24, 0, 0, 0) := rfl
theorem c_45_0 : mj_code 45 0 = some (.aload_n 0, 1, 0, 0, 0) := rfl
theorem c_45_1 : mj_code 45 1 = some (.getfield 15, 4, 5, 1, 192) := rfl
theorem c_45_4 : mj_code 45 4 = some (.ifCond .ne 4, 7, 8, 0, 0) := rfl
theorem c_45_7 : mj_code 45 7 = some (.return_, 8, 0, 0, 0) := rfl
theorem c_45_8 : mj_code 45 8 = some (.aload_n 1, 9, 0, 0, 0) := rfl
theorem c_45_9 : mj_code 45 9 = some (.getfield 31, 12, 1, 0, 110) := rfl
theorem c_45_12 : mj_code 45 12 = some (.istore 5, 14, 0, 0, 0) := rfl
theorem c_45_14 : mj_code 45 14 = some (.aload_n 1, 15, 0, 0, 0) := rfl
theorem c_45_15 : mj_code 45 15 = some (.getfield 36, 18, 1, 2, 118) := rfl
theorem c_45_18 : mj_code 45 18 = some (.iload_n 3, 19, 0, 0, 0) := rfl
theorem c_45_19 : mj_code 45 19 = some (.iaload, 20, 0, 0, 0) := rfl
theorem c_45_20 : mj_code 45 20 = some (.iload 5, 22, 0, 0, 0) := rfl
theorem c_45_22 : mj_code 45 22 = some (.imul, 23, 0, 0, 0) := rfl
theorem c_45_23 : mj_code 45 23 = some (.aload_n 1, 24, 0, 0, 0) := rfl
theorem c_45_24 : mj_code 45 24 = some (.getfield 36, 27, 1, 2, 118) := rfl
theorem c_45_27 : mj_code 45 27 = some (.iload 4, 29, 0, 0, 0) := rfl
theorem c_45_29 : mj_code 45 29 = some (.iaload, 30, 0, 0, 0) := rfl
theorem c_45_30 : mj_code 45 30 = some (.iadd, 31, 0, 0, 0) := rfl
theorem c_45_31 : mj_code 45 31 = some (.iload 5, 33, 0, 0, 0) := rfl
theorem c_45_33 : mj_code 45 33 = some (.imul, 34, 0, 0, 0) := rfl
theorem c_45_34 : mj_code 45 34 = some (.istore 6, 36, 0, 0, 0) := rfl
theorem c_45_36 : mj_code 45 36 = some (.aload_n 1, 37, 0, 0, 0) := rfl
theorem c_45_37 : mj_code 45 37 = some (.getfield 39, 40, 1, 3, 125) := rfl
theorem c_45_40 : mj_code 45 40 = some (.iload_n 3, 41, 0, 0, 0) := rfl
theorem c_45_41 : mj_code 45 41 = some (.iaload, 42, 0, 0, 0) := rfl
theorem c_45_42 : mj_code 45 42 = some (.iload 5, 44, 0, 0, 0) := rfl
theorem c_45_44 : mj_code 45 44 = some (.imul, 45, 0, 0, 0) := rfl
theorem c_45_45 : mj_code 45 45 = some (.aload_n 1, 46, 0, 0, 0) := rfl
theorem c_45_46 : mj_code 45 46 = some (.getfield 39, 49, 1, 3, 125) := rfl
theorem c_45_49 : mj_code 45 49 = some (.iload 4, 51, 0, 0, 0) := rfl
theorem c_45_51 : mj_code 45 51 = some (.iaload, 52, 0, 0, 0) := rfl
theorem c_45_52 : mj_code 45 52 = some (.iadd, 53, 0, 0, 0) := rfl
theorem c_45_53 : mj_code 45 53 = some (.iload 5, 55, 0, 0, 0) := rfl
theorem c_45_55 : mj_code 45 55 = some (.imul, 56, 0, 0, 0) := rfl
theorem c_45_56 : mj_code 45 56 = some (.istore 7, 58, 0, 0, 0) := rfl
theorem c_45_58 : mj_code 45 58 = some (.aload_n 1, 59, 0, 0, 0) := rfl
theorem c_45_59 : mj_code 45 59 = some (.getfield 42, 62, 1, 4, 132) := rfl
theorem c_45_62 : mj_code 45 62 = some (.iload_n 3, 63, 0, 0, 0) := rfl
theorem c_45_63 : mj_code 45 63 = some (.iaload, 64, 0, 0, 0) := rfl
theorem c_45_64 : mj_code 45 64 = some (.iload 5, 66, 0, 0, 0) := rfl
theorem c_45_66 : mj_code 45 66 = some (.imul, 67, 0, 0, 0) := rfl
theorem c_45_67 : mj_code 45 67 = some (.aload_n 1, 68, 0, 0, 0) := rfl
theorem c_45_68 : mj_code 45 68 = some (.getfield 42, 71, 1, 4, 132) := rfl
theorem c_45_71 : mj_code 45 71 = some (.iload 4, 73, 0, 0, 0) := rfl
theorem c_45_73 : mj_code 45 73 = some (.iaload, 74, 0, 0, 0) := rfl
theorem c_45_74 : mj_code 45 74 = some (.iadd, 75, 0, 0, 0) := rfl
theorem c_45_75 : mj_code 45 75 = some (.iload 5, 77, 0, 0, 0) := rfl
theorem c_45_77 : mj_code 45 77 = some (.imul, 78, 0, 0, 0) := rfl
theorem c_45_78 : mj_code 45 78 = some (.istore 8, 80, 0, 0, 0) := rfl
theorem c_45_80 : mj_code 45 80 = some (.iconst 0, 81, 0, 0, 0) := rfl
theorem c_45_81 : mj_code 45 81 = some (.istore 9, 83, 0, 0, 0) := rfl
theorem c_45_83 : mj_code 45 83 = some (.iconst 0, 84, 0, 0, 0) := rfl
theorem c_45_84 : mj_code 45 84 = some (.istore 10, 86, 0, 0, 0) := rfl
theorem c_45_86 : mj_code 45 86 = some (.iload 10, 88, 0, 0, 0) := rfl
theorem c_45_88 : mj_code 45 88 = some (.iload 5, 90, 0, 0, 0) := rfl
theorem c_45_90 : mj_code 45 90 = some (.if_icmp .ge 97, 93, 187, 0, 0) := rfl
theorem c_45_93 : mj_code 45 93 = some (.aload_n 2, 94, 0, 0, 0) := rfl
theorem c_45_94 : mj_code 45 94 = some (.iload 6, 96, 0, 0, 0) := rfl
theorem c_45_96 : mj_code 45 96 = some (.iload 10, 98, 0, 0, 0) := rfl
theorem c_45_98 : mj_code 45 98 = some (.iadd, 99, 0, 0, 0) := rfl
theorem c_45_99 : mj_code 45 99 = some (.iaload, 100, 0, 0, 0) := rfl
theorem c_45_100 : mj_code 45 100 = some (.aload_n 0, 101, 0, 0, 0) := rfl
theorem c_45_101 : mj_code 45 101 = some (.getfield 15, 104, 5, 1, 192) := rfl
theorem c_45_104 : mj_code 45 104 = some (.imul, 105, 0, 0, 0) := rfl
theorem c_45_105 : mj_code 45 105 = some (.istore 11, 107, 0, 0, 0) := rfl
theorem c_45_107 : mj_code 45 107 = some (.iconst 0, 108, 0, 0, 0) := rfl
theorem c_45_108 : mj_code 45 108 = some (.istore 12, 110, 0, 0, 0) := rfl
theorem c_45_110 : mj_code 45 110 = some (.iload 12, 112, 0, 0, 0) := rfl
theorem c_45_112 : mj_code 45 112 = some (.iload 5, 114, 0, 0, 0) := rfl
theorem c_45_114 : mj_code 45 114 = some (.if_icmp .ge 67, 117, 181, 0, 0) := rfl
theorem c_45_117 : mj_code 45 117 = some (.iload 11, 119, 0, 0, 0) := rfl
theorem c_45_119 : mj_code 45 119 = some (.aload_n 2, 120, 0, 0, 0) := rfl
theorem c_45_120 : mj_code 45 120 = some (.iload 7, 122, 0, 0, 0) := rfl
theorem c_45_122 : mj_code 45 122 = some (.iload 12, 124, 0, 0, 0) := rfl
theorem c_45_124 : mj_code 45 124 = some (.iadd, 125, 0, 0, 0) := rfl
theorem c_45_125 : mj_code 45 125 = some (.iaload, 126, 0, 0, 0) := rfl
theorem c_45_126 : mj_code 45 126 = some (.aload_n 0, 127, 0, 0, 0) := rfl
theorem c_45_127 : mj_code 45 127 = some (.getfield 19, 130, 5, 2, 193) := rfl
theorem c_45_130 : mj_code 45 130 = some (.imul, 131, 0, 0, 0) := rfl
theorem c_45_131 : mj_code 45 131 = some (.iadd, 132, 0, 0, 0) := rfl
theorem c_45_132 : mj_code 45 132 = some (.istore 13, 134, 0, 0, 0) := rfl
theorem c_45_134 : mj_code 45 134 = some (.iconst 0, 135, 0, 0, 0) := rfl
theorem c_45_135 : mj_code 45 135 = some (.istore 14, 137, 0, 0, 0) := rfl
theorem c_45_137 : mj_code 45 137 = some (.iload 14, 139, 0, 0, 0) := rfl
theorem c_45_139 : mj_code 45 139 = some (.iload 5, 141, 0, 0, 0) := rfl
theorem c_45_141 : mj_code 45 141 = some (.if_icmp .ge 34, 144, 175, 0, 0) := rfl
theorem c_45_144 : mj_code 45 144 = some (.aload_n 0, 145, 0, 0, 0) := rfl
theorem c_45_145 : mj_code 45 145 = some (.getfield 9, 148, 5, 0, 189) := rfl
theorem c_45_148 : mj_code 45 148 = some (.iload 9, 150, 0, 0, 0) := rfl
theorem c_45_150 : mj_code 45 150 = some (.iload 13, 152, 0, 0, 0) := rfl
theorem c_45_152 : mj_code 45 152 = some (.aload_n 2, 153, 0, 0, 0) := rfl
theorem c_45_153 : mj_code 45 153 = some (.iload 8, 155, 0, 0, 0) := rfl
theorem c_45_155 : mj_code 45 155 = some (.iload 14, 157, 0, 0, 0) := rfl
theorem c_45_157 : mj_code 45 157 = some (.iadd, 158, 0, 0, 0) := rfl
theorem c_45_158 : mj_code 45 158 = some (.iaload, 159, 0, 0, 0) := rfl
theorem c_45_159 : mj_code 45 159 = some (.aload_n 0, 160, 0, 0, 0) := rfl
theorem c_45_160 : mj_code 45 160 = some (.getfield 22, 163, 5, 3, 194) := rfl
theorem c_45_163 : mj_code 45 163 = some (.imul, 164, 0, 0, 0) := rfl
theorem c_45_164 : mj_code 45 164 = some (.iadd, 165, 0, 0, 0) := rfl
theorem c_45_165 : mj_code 45 165 = some (.iastore, 166, 0, 0, 0) := rfl
theorem c_45_166 : mj_code 45 166 = some (.iinc 9 1, 169, 0, 0, 0) := rfl
theorem c_45_169 : mj_code 45 169 = some (.iinc 14 1, 172, 0, 0, 0) := rfl
theorem c_45_172 : mj_code 45 172 = some (.goto (-35), 175, 137, 0, 0) := rfl
theorem c_45_175 : mj_code 45 175 = some (.iinc 12 1, 178, 0, 0, 0) := rfl
theorem c_45_178 : mj_code 45 178 = some (.goto (-68), 181, 110, 0, 0) := rfl
theorem c_45_181 : mj_code 45 181 = some (.iinc 10 1, 184, 0, 0, 0) := rfl
theorem c_45_184 : mj_code 45 184 = some (.goto (-98), 187, 86, 0, 0) := rfl
theorem c_45_187 : mj_code 45 187 = some (.return_, 188, 0, 0, 0) := rfl
