theorem dL_isTold_299 : decode cL_isTold 299 = .ok (.iconst 5, 1) := by decide +kernel
theorem dL_isTold_300 : decode cL_isTold 300 = .ok (.iload 11, 2) := by decide +kernel
theorem dL_isTold_302 : decode cL_isTold 302 = .ok (.imul, 1) := by decide +kernel
theorem dL_isTold_303 : decode cL_isTold 303 = .ok (.iconst 4, 1) := by decide +kernel
theorem dL_isTold_304 : decode cL_isTold 304 = .ok (.iadd, 1) := by decide +kernel
theorem dL_isTold_305 : decode cL_isTold 305 = .ok (.iaload, 1) := by decide +kernel
theorem dL_isTold_306 : decode cL_isTold 306 = .ok (.aload_n 2, 1) := by decide +kernel
theorem dL_isTold_307 : decode cL_isTold 307 = .ok (.iconst 5, 1) := by decide +kernel
theorem dL_isTold_308 : decode cL_isTold 308 = .ok (.iload 11, 2) := by decide +kernel
theorem dL_isTold_310 : decode cL_isTold 310 = .ok (.imul, 1) := by decide +kernel
theorem dL_isTold_311 : decode cL_isTold 311 = .ok (.iconst 3, 1) := by decide +kernel
theorem dL_isTold_312 : decode cL_isTold 312 = .ok (.iadd, 1) := by decide +kernel
theorem dL_isTold_313 : decode cL_isTold 313 = .ok (.iaload, 1) := by decide +kernel
theorem dL_isTold_314 : decode cL_isTold 314 = .ok (.if_icmp .ne 25, 3) := by decide +kernel
theorem dL_isTold_317 : decode cL_isTold 317 = .ok (.iload 11, 2) := by decide +kernel
theorem dL_isTold_319 : decode cL_isTold 319 = .ok (.iconst 1, 1) := by decide +kernel
theorem dL_isTold_320 : decode cL_isTold 320 = .ok (.aload_n 2, 1) := by decide +kernel
theorem dL_isTold_321 : decode cL_isTold 321 = .ok (.aload_n 3, 1) := by decide +kernel
theorem dL_isTold_322 : decode cL_isTold 322 = .ok (.aload 4, 2) := by decide +kernel
theorem dL_isTold_324 : decode cL_isTold 324 = .ok (.invokestatic 106, 3) := by decide +kernel
theorem dL_isTold_327 : decode cL_isTold 327 = .ok (.aload_n 0, 1) := by decide +kernel
theorem dL_isTold_328 : decode cL_isTold 328 = .ok (.invokevirtual 102, 3) := by decide +kernel
theorem dL_isTold_331 : decode cL_isTold 331 = .ok (.lcmp, 1) := by decide +kernel
theorem dL_isTold_332 : decode cL_isTold 332 = .ok (.ifCond .ge 7, 3) := by decide +kernel
theorem dL_isTold_335 : decode cL_isTold 335 = .ok (.iconst 1, 1) := by decide +kernel
theorem dL_isTold_336 : decode cL_isTold 336 = .ok (.goto 4, 3) := by decide +kernel
theorem dL_isTold_339 : decode cL_isTold 339 = .ok (.iconst 0, 1) := by decide +kernel
theorem dL_isTold_340 : decode cL_isTold 340 = .ok (.istore 14, 2) := by decide +kernel
theorem dL_isTold_342 : decode cL_isTold 342 = .ok (.aload_n 2, 1) := by decide +kernel
theorem dL_isTold_343 : decode cL_isTold 343 = .ok (.iconst 5, 1) := by decide +kernel
theorem dL_isTold_344 : decode cL_isTold 344 = .ok (.iload 11, 2) := by decide +kernel
theorem dL_isTold_346 : decode cL_isTold 346 = .ok (.imul, 1) := by decide +kernel
theorem dL_isTold_347 : decode cL_isTold 347 = .ok (.iconst 4, 1) := by decide +kernel
theorem dL_isTold_348 : decode cL_isTold 348 = .ok (.iadd, 1) := by decide +kernel
theorem dL_isTold_349 : decode cL_isTold 349 = .ok (.iaload, 1) := by decide +kernel
theorem dL_isTold_350 : decode cL_isTold 350 = .ok (.aload_n 2, 1) := by decide +kernel
theorem dL_isTold_351 : decode cL_isTold 351 = .ok (.iconst 5, 1) := by decide +kernel
theorem dL_isTold_352 : decode cL_isTold 352 = .ok (.iload 11, 2) := by decide +kernel
theorem dL_isTold_354 : decode cL_isTold 354 = .ok (.imul, 1) := by decide +kernel
theorem dL_isTold_355 : decode cL_isTold 355 = .ok (.iconst 2, 1) := by decide +kernel
theorem dL_isTold_356 : decode cL_isTold 356 = .ok (.iadd, 1) := by decide +kernel
theorem dL_isTold_357 : decode cL_isTold 357 = .ok (.iaload, 1) := by decide +kernel
theorem dL_isTold_358 : decode cL_isTold 358 = .ok (.if_icmp .ne 25, 3) := by decide +kernel
theorem dL_isTold_361 : decode cL_isTold 361 = .ok (.iload 11, 2) := by decide +kernel
theorem dL_isTold_363 : decode cL_isTold 363 = .ok (.iconst (-1), 1) := by decide +kernel
theorem dL_isTold_364 : decode cL_isTold 364 = .ok (.aload_n 2, 1) := by decide +kernel
theorem dL_isTold_365 : decode cL_isTold 365 = .ok (.aload_n 3, 1) := by decide +kernel
theorem dL_isTold_366 : decode cL_isTold 366 = .ok (.aload 4, 2) := by decide +kernel
theorem dL_isTold_368 : decode cL_isTold 368 = .ok (.invokestatic 106, 3) := by decide +kernel
theorem dL_isTold_371 : decode cL_isTold 371 = .ok (.aload_n 0, 1) := by decide +kernel
theorem dL_isTold_372 : decode cL_isTold 372 = .ok (.invokevirtual 102, 3) := by decide +kernel
theorem dL_isTold_375 : decode cL_isTold 375 = .ok (.lcmp, 1) := by decide +kernel
theorem dL_isTold_376 : decode cL_isTold 376 = .ok (.ifCond .ge 7, 3) := by decide +kernel
theorem dL_isTold_379 : decode cL_isTold 379 = .ok (.iconst 1, 1) := by decide +kernel
theorem dL_isTold_380 : decode cL_isTold 380 = .ok (.goto 4, 3) := by decide +kernel
theorem dL_isTold_383 : decode cL_isTold 383 = .ok (.iconst 0, 1) := by decide +kernel
theorem dL_isTold_384 : decode cL_isTold 384 = .ok (.istore 15, 2) := by decide +kernel
theorem dL_isTold_386 : decode cL_isTold 386 = .ok (.iload 14, 2) := by decide +kernel
theorem dL_isTold_388 : decode cL_isTold 388 = .ok (.ifCond .ne 8, 3) := by decide +kernel
theorem dL_isTold_391 : decode cL_isTold 391 = .ok (.iload 15, 2) := by decide +kernel
theorem dL_isTold_393 : decode cL_isTold 393 = .ok (.ifCond .eq 7, 3) := by decide +kernel
theorem dL_isTold_396 : decode cL_isTold 396 = .ok (.iload 11, 2) := by decide +kernel
theorem dL_isTold_398 : decode cL_isTold 398 = .ok (.istore 10, 2) := by decide +kernel
theorem dL_isTold_400 : decode cL_isTold 400 = .ok (.iinc 11 (-1), 3) := by decide +kernel
theorem dL_isTold_403 : decode cL_isTold 403 = .ok (.goto (-274), 3) := by decide +kernel
theorem dL_isTold_406 : decode cL_isTold 406 = .ok (.aload_n 0, 1) := by decide +kernel
theorem dL_isTold_407 : decode cL_isTold 407 = .ok (.invokevirtual 114, 3) := by decide +kernel
theorem dL_isTold_410 : decode cL_isTold 410 = .ok (.lload 8, 2) := by decide +kernel
theorem dL_isTold_412 : decode cL_isTold 412 = .ok (.lcmp, 1) := by decide +kernel
theorem dL_isTold_413 : decode cL_isTold 413 = .ok (.ifCond .ne 46, 3) := by decide +kernel
theorem dL_isTold_416 : decode cL_isTold 416 = .ok (.aload_n 0, 1) := by decide +kernel
theorem dL_isTold_417 : decode cL_isTold 417 = .ok (.invokevirtual 117, 3) := by decide +kernel
theorem dL_isTold_420 : decode cL_isTold 420 = .ok (.iload 10, 2) := by decide +kernel
theorem dL_isTold_422 : decode cL_isTold 422 = .ok (.if_icmp .ne 37, 3) := by decide +kernel
theorem dL_isTold_425 : decode cL_isTold 425 = .ok (.aload_n 0, 1) := by decide +kernel
theorem dL_isTold_426 : decode cL_isTold 426 = .ok (.aload_n 3, 1) := by decide +kernel
theorem dL_isTold_427 : decode cL_isTold 427 = .ok (.iconst 0, 1) := by decide +kernel
theorem dL_isTold_428 : decode cL_isTold 428 = .ok (.iaload, 1) := by decide +kernel
theorem dL_isTold_429 : decode cL_isTold 429 = .ok (.invokestatic 109, 3) := by decide +kernel
theorem dL_isTold_432 : decode cL_isTold 432 = .ok (.sipush (-7100), 3) := by decide +kernel
theorem dL_isTold_435 : decode cL_isTold 435 = .ok (.if_icmp .ne 24, 3) := by decide +kernel
theorem dL_isTold_438 : decode cL_isTold 438 = .ok (.aload_n 0, 1) := by decide +kernel
theorem dL_isTold_439 : decode cL_isTold 439 = .ok (.aload_n 3, 1) := by decide +kernel
theorem dL_isTold_440 : decode cL_isTold 440 = .ok (.iconst 0, 1) := by decide +kernel
theorem dL_isTold_441 : decode cL_isTold 441 = .ok (.iaload, 1) := by decide +kernel
theorem dL_isTold_442 : decode cL_isTold 442 = .ok (.iload_n 1, 1) := by decide +kernel
theorem dL_isTold_443 : decode cL_isTold 443 = .ok (.iconst 3, 1) := by decide +kernel
theorem dL_isTold_444 : decode cL_isTold 444 = .ok (.invokestatic 120, 3) := by decide +kernel
theorem dL_isTold_447 : decode cL_isTold 447 = .ok (.invokestatic 111, 3) := by decide +kernel
theorem dL_isTold_450 : decode cL_isTold 450 = .ok (.ldc 38, 2) := by decide +kernel
theorem dL_isTold_452 : decode cL_isTold 452 = .ok (.if_icmp .ne 7, 3) := by decide +kernel
theorem dL_isTold_455 : decode cL_isTold 455 = .ok (.iconst 1, 1) := by decide +kernel
theorem dL_isTold_456 : decode cL_isTold 456 = .ok (.goto 4, 3) := by decide +kernel
theorem dL_isTold_459 : decode cL_isTold 459 = .ok (.iconst 0, 1) := by decide +kernel
theorem dL_isTold_460 : decode cL_isTold 460 = .ok (.ireturn, 1) := by decide +kernel
set_option maxRecDepth 20000 in
theorem ggL_law_X5_init : GoodIn wsL_law wsX5_init := goodIn_r _ [15, 16, 17, 18, 19, 20, 21, 22, 23, 24, 25, 26, 27, 28, 29, 30, 31, 32, 33, 34, 35, 3, 36, 37, 38, 39, 40, 41, 42, 43, 44, 45, 46, 47, 48, 49, 50, 51, 52, 53, 54, 55, 56, 57, 58, 59, 60, 61, 62, 63, 64, 65, 66, 67, 68, 69, 70, 71, 375, 376, 377, 378, 379, 380, 368, 369, 370, 371, 372, 373, 374, 381, 382, 383, 384, 385, 386, 387, 388, 389, 390, 391, 392, 393, 394, 395, 396] (by decide +kernel) (by decide +kernel)
set_option maxRecDepth 20000 in
theorem gL_law_X5_init : GoodIn wsL_law (wsX5_init) := ggL_law_X5_init
set_option maxRecDepth 20000 in
theorem ggL_law_L_cell : GoodIn wsL_law wsL_cell := goodIn_r _ [75, 76] (by decide +kernel) (by decide +kernel)
set_option maxRecDepth 20000 in
theorem gL_law_L_cell : GoodIn wsL_law (va_wsS RL 124 yL_cell wsL_cell) := goodIn_app (goodIn_of _ (by decide +kernel)) ggL_law_L_cell
set_option maxRecDepth 20000 in
theorem ggL_law_L_low : GoodIn wsL_law wsL_low := goodIn_r _ [79] (by decide +kernel) (by decide +kernel)
set_option maxRecDepth 20000 in
theorem gL_law_L_low : GoodIn wsL_law (va_wsS RL 120 yL_low wsL_low) := goodIn_app (goodIn_of _ (by decide +kernel)) ggL_law_L_low
set_option maxRecDepth 20000 in
theorem ggL_law_L_joint : GoodIn wsL_law wsL_joint := goodIn_ca (goodIn_ca (goodIn_r _ [82, 83, 84, 85, 86, 87, 2, 88, 89, 90, 91, 92, 22, 93, 21, 94, 95, 96, 97, 98, 99, 41, 42, 43, 44, 45, 100, 101, 102, 103, 104, 105, 106, 107, 108, 109, 110, 368, 369, 370, 371, 372, 373, 374, 375, 376, 377, 378, 379, 380] (by decide +kernel) (by decide +kernel)) (goodIn_sub (fun _ h => List.mem_append_left _ (List.mem_append_left _ (List.mem_append_right _ h))) (by decide +kernel))) (goodIn_sub (fun _ h => List.mem_append_left _ (List.mem_append_right _ h)) (by decide +kernel))
set_option maxRecDepth 20000 in
theorem gL_law_L_joint : GoodIn wsL_law (va_wsS RL 129 yL_joint wsL_joint) := goodIn_app (goodIn_of _ (by decide +kernel)) ggL_law_L_joint
set_option maxRecDepth 20000 in
theorem ggL_law_L_set : GoodIn wsL_law wsL_set := goodIn_ca (goodIn_ca (goodIn_r _ [113, 114, 83, 115, 116, 117, 2, 118, 89, 90, 22, 119, 120, 121, 122, 123, 124, 368, 369, 370, 371, 372, 373, 374, 375, 376, 377, 378, 379, 380] (by decide +kernel) (by decide +kernel)) (goodIn_sub (fun _ h => List.mem_append_left _ (List.mem_append_left _ (List.mem_append_right _ h))) (by decide +kernel))) (goodIn_sub (fun _ h => List.mem_append_right _ h) (by decide +kernel))
set_option maxRecDepth 20000 in
theorem gL_law_L_set : GoodIn wsL_law (va_wsS RL 132 yL_set wsL_set) := goodIn_app (goodIn_of _ (by decide +kernel)) ggL_law_L_set
set_option maxRecDepth 20000 in
theorem ggL_law_L_tips : GoodIn wsL_law wsL_tips := goodIn_r _ [127, 128, 129, 74, 130, 131, 132, 133] (by decide +kernel) (by decide +kernel)
set_option maxRecDepth 20000 in
theorem gL_law_L_tips : GoodIn wsL_law (va_wsS RL 76 yL_tips wsL_tips) := goodIn_app (goodIn_of _ (by decide +kernel)) ggL_law_L_tips
set_option maxRecDepth 20000 in
theorem ggL_law_L_goal : GoodIn wsL_law wsL_goal := goodIn_ca (goodIn_r _ [136, 83, 137, 138, 139, 140, 2, 141, 89, 90, 142, 143, 26, 144, 145, 146, 147, 30, 22, 148, 29, 149, 150, 151, 152, 153, 154, 155, 156, 157, 158, 159, 160, 161, 162, 21, 163, 164, 41, 165, 166, 167, 42, 168, 169, 170, 171, 172, 173, 174, 175, 176, 177, 178, 25, 179, 180, 181, 182, 368, 369, 370, 371, 372, 373, 374, 381, 382, 383, 384, 385, 386, 375, 376, 377, 378, 379, 380] (by decide +kernel) (by decide +kernel)) (goodIn_sub (fun _ h => List.mem_append_left _ (List.mem_append_left _ (List.mem_append_right _ h))) (by decide +kernel))
set_option maxRecDepth 20000 in
theorem gL_law_L_goal : GoodIn wsL_law (va_wsS RL 137 yL_goal wsL_goal) := goodIn_app (goodIn_of _ (by decide +kernel)) ggL_law_L_goal
set_option maxRecDepth 20000 in
theorem ggL_law_L_far : GoodIn wsL_law wsL_far := goodIn_r _ [185, 125, 126, 74, 127, 128, 129, 130, 131, 132, 133] (by decide +kernel) (by decide +kernel)
set_option maxRecDepth 20000 in
theorem gL_law_L_far : GoodIn wsL_law (va_wsS RL 106 yL_far wsL_far) := goodIn_app (goodIn_of _ (by decide +kernel)) ggL_law_L_far
set_option maxRecDepth 20000 in
theorem ggL_law_L_slack : GoodIn wsL_law wsL_slack := goodIn_ca (goodIn_r _ [188, 83, 189, 190, 191, 2, 192, 89, 90, 193, 26, 368, 369, 370, 371, 372, 373, 374, 381, 382, 383] (by decide +kernel) (by decide +kernel)) (goodIn_sub (fun _ h => List.mem_append_left _ (List.mem_append_left _ (List.mem_append_right _ h))) (by decide +kernel))
set_option maxRecDepth 20000 in
theorem gL_law_L_slack : GoodIn wsL_law (va_wsS RL 141 yL_slack wsL_slack) := goodIn_app (goodIn_of _ (by decide +kernel)) ggL_law_L_slack
set_option maxRecDepth 20000 in
theorem ggL_law_L_steps : GoodIn wsL_law wsL_steps := goodIn_ca (goodIn_r _ [196, 83, 197, 198, 199, 2, 200, 89, 90, 201, 202, 203, 204, 22, 144, 145, 146, 147, 30, 26, 148, 29, 149, 150, 151, 152, 153, 154, 155, 156, 157, 158, 159, 160, 161, 162, 21, 163, 164, 41, 165, 166, 167, 42, 168, 169, 170, 171, 172, 173, 174, 175, 176, 177, 178, 25, 179, 180, 181, 182, 101, 102, 103, 43, 44, 104, 105, 106, 107, 108, 109, 110, 205, 206, 207, 208, 31, 368, 369, 370, 371, 372, 373, 374, 375, 376, 377, 378, 379, 380, 384, 385, 386, 381, 382, 383] (by decide +kernel) (by decide +kernel)) (goodIn_sub (fun _ h => List.mem_append_left _ (List.mem_append_left _ (List.mem_append_right _ h))) (by decide +kernel))
set_option maxRecDepth 20000 in
theorem gL_law_L_steps : GoodIn wsL_law (va_wsS RL 143 yL_steps wsL_steps) := goodIn_app (goodIn_of _ (by decide +kernel)) ggL_law_L_steps
set_option maxRecDepth 20000 in
theorem ggL_law_L_poses : GoodIn wsL_law wsL_poses := goodIn_r _ [211, 212, 7] (by decide +kernel) (by decide +kernel)
set_option maxRecDepth 20000 in
theorem gL_law_L_poses : GoodIn wsL_law (va_wsS RL 85 yL_poses wsL_poses) := goodIn_app (goodIn_of _ (by decide +kernel)) ggL_law_L_poses
set_option maxRecDepth 20000 in
theorem ggL_law_L_branches : GoodIn wsL_law wsL_branches := goodIn_ca (goodIn_r _ [215, 84, 216, 217, 218, 2, 219, 91, 92, 22, 220, 35, 26, 221, 21, 222, 223, 96, 44, 43, 224, 34, 225, 226, 59, 227, 58, 228, 229, 230, 231, 232, 233, 234, 61, 165, 166, 167, 41, 42, 235, 236, 237, 62, 63, 60, 238, 25, 239, 240, 181, 241, 242, 106, 243, 182, 244, 245, 246, 247, 65, 64, 248, 105, 107, 178, 179, 180, 249, 250, 251, 45, 252, 162, 163, 164, 253, 254, 255, 256, 70, 71, 257, 258, 259, 260, 261, 262, 263, 264, 265, 266, 267, 268, 269, 172, 173, 174, 175, 176, 177, 368, 369, 370, 371, 372, 373, 374, 387, 388, 389, 390, 391, 392, 393, 394, 395, 396, 375, 376, 377, 378, 379, 380, 381, 382, 383] (by decide +kernel) (by decide +kernel)) (goodIn_sub (fun _ h => List.mem_append_left _ (List.mem_append_right _ h)) (by decide +kernel))
set_option maxRecDepth 20000 in
theorem gL_law_L_branches : GoodIn wsL_law (va_wsS RL 146 yL_branches wsL_branches) := goodIn_app (goodIn_of _ (by decide +kernel)) ggL_law_L_branches
set_option maxRecDepth 20000 in
theorem ggL_law_L_branch : GoodIn wsL_law wsL_branch := goodIn_ca (goodIn_ca (goodIn_ca (goodIn_r _ [272, 114, 83, 84, 273, 274, 275, 2, 276, 35, 119, 120, 121, 122, 123, 124, 22, 277, 278, 279, 280, 89, 90, 91, 92, 220, 26, 221, 21, 222, 223, 96, 44, 43, 224, 34, 225, 226, 59, 227, 58, 228, 229, 230, 231, 232, 233, 234, 61, 165, 166, 167, 41, 42, 235, 236, 237, 62, 63, 60, 238, 25, 239, 240, 181, 241, 242, 106, 243, 182, 244, 245, 246, 247, 65, 64, 248, 105, 107, 178, 179, 180, 249, 250, 251, 45, 252, 162, 163, 164, 253, 254, 255, 256, 70, 71, 257, 258, 259, 260, 261, 262, 263, 264, 265, 266, 267, 268, 269, 172, 173, 174, 175, 176, 177, 281, 282, 283, 368, 369, 370, 371, 372, 373, 374, 387, 388, 389, 390, 391, 392, 393, 375, 376, 377, 378, 379, 380, 394, 395, 396, 381, 382, 383] (by decide +kernel) (by decide +kernel)) (goodIn_sub (fun _ h => List.mem_append_right _ h) (by decide +kernel))) (goodIn_sub (fun _ h => List.mem_append_left _ (List.mem_append_left _ (List.mem_append_right _ h))) (by decide +kernel))) (goodIn_sub (fun _ h => List.mem_append_left _ (List.mem_append_right _ h)) (by decide +kernel))
set_option maxRecDepth 20000 in
theorem gL_law_L_branch : GoodIn wsL_law (va_wsS RL 149 yL_branch wsL_branch) := goodIn_app (goodIn_of _ (by decide +kernel)) ggL_law_L_branch
set_option maxRecDepth 20000 in
theorem ggL_law_L_take : GoodIn wsL_law wsL_take := goodIn_ca (goodIn_ca (goodIn_ca (goodIn_r _ [286, 114, 83, 84, 12, 137, 11, 287, 288, 289, 2, 290, 22, 35, 277, 278, 279, 280, 123, 124, 89, 90, 91, 92, 220, 26, 221, 21, 222, 223, 96, 44, 43, 224, 34, 225, 226, 59, 227, 58, 228, 229, 230, 231, 232, 233, 234, 61, 165, 166, 167, 41, 42, 235, 236, 237, 62, 63, 60, 238, 25, 239, 240, 181, 241, 242, 106, 243, 182, 244, 245, 246, 247, 65, 64, 248, 105, 107, 178, 179, 180, 249, 250, 251, 45, 252, 162, 163, 164, 253, 254, 255, 256, 70, 71, 257, 258, 259, 260, 261, 262, 263, 264, 265, 266, 267, 268, 269, 172, 173, 174, 175, 176, 177, 281, 282, 283, 144, 145, 146, 147, 30, 148, 29, 149, 150, 151, 152, 153, 154, 155, 156, 157, 158, 159, 160, 161, 168, 169, 170, 171, 368, 369, 370, 371, 372, 373, 374, 375, 376, 377, 378, 379, 380, 387, 388, 389, 390, 391, 392, 393, 394, 395, 396, 381, 382, 383, 384, 385, 386] (by decide +kernel) (by decide +kernel)) (goodIn_sub (fun _ h => List.mem_append_right _ h) (by decide +kernel))) (goodIn_sub (fun _ h => List.mem_append_left _ (List.mem_append_left _ (List.mem_append_right _ h))) (by decide +kernel))) (goodIn_sub (fun _ h => List.mem_append_left _ (List.mem_append_right _ h)) (by decide +kernel))
set_option maxRecDepth 20000 in
theorem gL_law_L_take : GoodIn wsL_law (va_wsS RL 152 yL_take wsL_take) := goodIn_app (goodIn_of _ (by decide +kernel)) ggL_law_L_take
set_option maxRecDepth 20000 in
theorem ggL_law_L_reaches : GoodIn wsL_law wsL_reaches := goodIn_r _ [293, 3, 209, 210, 74, 211, 212, 7, 294, 295, 296, 297, 298, 299, 300, 125, 126, 127, 128, 129, 130, 131, 132, 133] (by decide +kernel) (by decide +kernel)
set_option maxRecDepth 20000 in
theorem gL_law_L_reaches : GoodIn wsL_law (va_wsS RL 154 yL_reaches wsL_reaches) := goodIn_app (goodIn_of _ (by decide +kernel)) ggL_law_L_reaches
set_option maxRecDepth 20000 in
theorem ggL_law_L_ranked : GoodIn wsL_law wsL_ranked := goodIn_r _ [303, 3, 300, 209, 210, 74, 211, 212, 7, 294, 295, 296, 297, 298, 299, 125, 126, 127, 128, 129, 130, 131, 132, 133] (by decide +kernel) (by decide +kernel)
set_option maxRecDepth 20000 in
theorem gL_law_L_ranked : GoodIn wsL_law (va_wsS RL 158 yL_ranked wsL_ranked) := goodIn_app (goodIn_of _ (by decide +kernel)) ggL_law_L_ranked
set_option maxRecDepth 20000 in
theorem ggL_law_L_lays : GoodIn wsL_law wsL_lays := goodIn_r _ [296] (by decide +kernel) (by decide +kernel)
set_option maxRecDepth 20000 in
theorem gL_law_L_lays : GoodIn wsL_law (va_wsS RL 89 yL_lays wsL_lays) := goodIn_app (goodIn_of _ (by decide +kernel)) ggL_law_L_lays
set_option maxRecDepth 20000 in
theorem ggL_law_L_isTold : GoodIn wsL_law wsL_isTold := goodIn_ca (goodIn_ca (goodIn_r _ [306, 307, 125, 126, 74, 127, 128, 129, 130, 131, 132, 133, 308, 309, 310, 83, 311, 312, 313, 314, 2, 315, 30, 22, 316, 317, 318, 89, 90, 148, 29, 149, 150, 151, 152, 153, 154, 155, 156, 157, 158, 159, 160, 161, 162, 21, 163, 164, 41, 165, 166, 167, 42, 168, 169, 170, 171, 172, 173, 174, 175, 176, 177, 319, 320, 321, 322, 323, 324, 325, 326, 327, 328, 31, 329, 330, 331, 249, 250, 251, 45, 252, 332, 333, 334, 335, 144, 145, 146, 147, 26, 178, 25, 179, 180, 181, 182, 183, 184, 185, 336, 337, 338, 114, 339, 340, 341, 342, 119, 120, 121, 122, 123, 124, 343, 344, 345, 346, 347, 348, 349, 350, 351, 352, 353, 36, 37, 354, 355, 106, 356, 357, 358, 359, 360, 361, 362, 363, 364, 365, 366, 367, 205, 206, 207, 208, 77, 78, 79, 368, 369, 370, 371, 372, 373, 374, 375, 376, 377, 378, 379, 380, 384, 385, 386, 381, 382, 383] (by decide +kernel) (by decide +kernel)) (goodIn_sub (fun _ h => List.mem_append_left _ (List.mem_append_left _ (List.mem_append_right _ h))) (by decide +kernel))) (goodIn_sub (fun _ h => List.mem_append_right _ h) (by decide +kernel))
set_option maxRecDepth 20000 in
theorem gL_law_L_isTold : GoodIn wsL_law (va_wsS RL 162 yL_isTold wsL_isTold) := goodIn_app (goodIn_of _ (by decide +kernel)) ggL_law_L_isTold
theorem dL_law_0 : decode cL_law 0 = .ok (.new 9, 3) := by decide +kernel
theorem dL_law_3 : decode cL_law 3 = .ok (.dup, 1) := by decide +kernel
theorem dL_law_4 : decode cL_law 4 = .ok (.invokespecial 123, 3) := by decide +kernel
theorem dL_law_7 : decode cL_law 7 = .ok (.astore_n 1, 1) := by decide +kernel
theorem dL_law_8 : decode cL_law 8 = .ok (.bipush 25, 2) := by decide +kernel
theorem dL_law_10 : decode cL_law 10 = .ok (.newarray .int, 2) := by decide +kernel
theorem dL_law_12 : decode cL_law 12 = .ok (.astore_n 2, 1) := by decide +kernel
theorem dL_law_13 : decode cL_law 13 = .ok (.iconst 4, 1) := by decide +kernel
theorem dL_law_14 : decode cL_law 14 = .ok (.newarray .int, 2) := by decide +kernel
theorem dL_law_16 : decode cL_law 16 = .ok (.astore_n 3, 1) := by decide +kernel
theorem dL_law_17 : decode cL_law 17 = .ok (.bipush 17, 2) := by decide +kernel
theorem dL_law_19 : decode cL_law 19 = .ok (.newarray .int, 2) := by decide +kernel
theorem dL_law_21 : decode cL_law 21 = .ok (.astore 4, 2) := by decide +kernel
theorem dL_law_23 : decode cL_law 23 = .ok (.aload 4, 2) := by decide +kernel
theorem dL_law_25 : decode cL_law 25 = .ok (.iconst 1, 1) := by decide +kernel
theorem dL_law_26 : decode cL_law 26 = .ok (.bipush 98, 2) := by decide +kernel
theorem dL_law_28 : decode cL_law 28 = .ok (.iastore, 1) := by decide +kernel
theorem dL_law_29 : decode cL_law 29 = .ok (.aload 4, 2) := by decide +kernel
theorem dL_law_31 : decode cL_law 31 = .ok (.iconst 2, 1) := by decide +kernel
theorem dL_law_32 : decode cL_law 32 = .ok (.sipush 195, 3) := by decide +kernel
theorem dL_law_35 : decode cL_law 35 = .ok (.iastore, 1) := by decide +kernel
theorem dL_law_36 : decode cL_law 36 = .ok (.aload 4, 2) := by decide +kernel
theorem dL_law_38 : decode cL_law 38 = .ok (.iconst 3, 1) := by decide +kernel
theorem dL_law_39 : decode cL_law 39 = .ok (.sipush 290, 3) := by decide +kernel
theorem dL_law_42 : decode cL_law 42 = .ok (.iastore, 1) := by decide +kernel
theorem dL_law_43 : decode cL_law 43 = .ok (.aload 4, 2) := by decide +kernel
theorem dL_law_45 : decode cL_law 45 = .ok (.iconst 4, 1) := by decide +kernel
theorem dL_law_46 : decode cL_law 46 = .ok (.sipush 383, 3) := by decide +kernel
theorem dL_law_49 : decode cL_law 49 = .ok (.iastore, 1) := by decide +kernel
theorem dL_law_50 : decode cL_law 50 = .ok (.aload 4, 2) := by decide +kernel
theorem dL_law_52 : decode cL_law 52 = .ok (.iconst 5, 1) := by decide +kernel
theorem dL_law_53 : decode cL_law 53 = .ok (.sipush 471, 3) := by decide +kernel
theorem dL_law_56 : decode cL_law 56 = .ok (.iastore, 1) := by decide +kernel
theorem dL_law_57 : decode cL_law 57 = .ok (.aload 4, 2) := by decide +kernel
theorem dL_law_59 : decode cL_law 59 = .ok (.bipush 6, 2) := by decide +kernel
theorem dL_law_61 : decode cL_law 61 = .ok (.sipush 556, 3) := by decide +kernel
theorem dL_law_64 : decode cL_law 64 = .ok (.iastore, 1) := by decide +kernel
theorem dL_law_65 : decode cL_law 65 = .ok (.aload 4, 2) := by decide +kernel
theorem dL_law_67 : decode cL_law 67 = .ok (.bipush 7, 2) := by decide +kernel
theorem dL_law_69 : decode cL_law 69 = .ok (.sipush 634, 3) := by decide +kernel
theorem dL_law_72 : decode cL_law 72 = .ok (.iastore, 1) := by decide +kernel
theorem dL_law_73 : decode cL_law 73 = .ok (.aload 4, 2) := by decide +kernel
theorem dL_law_75 : decode cL_law 75 = .ok (.bipush 8, 2) := by decide +kernel
theorem dL_law_77 : decode cL_law 77 = .ok (.sipush 707, 3) := by decide +kernel
theorem dL_law_80 : decode cL_law 80 = .ok (.iastore, 1) := by decide +kernel
theorem dL_law_81 : decode cL_law 81 = .ok (.aload 4, 2) := by decide +kernel
theorem dL_law_83 : decode cL_law 83 = .ok (.bipush 9, 2) := by decide +kernel
theorem dL_law_85 : decode cL_law 85 = .ok (.sipush 773, 3) := by decide +kernel
theorem dL_law_88 : decode cL_law 88 = .ok (.iastore, 1) := by decide +kernel
theorem dL_law_89 : decode cL_law 89 = .ok (.aload 4, 2) := by decide +kernel
theorem dL_law_91 : decode cL_law 91 = .ok (.bipush 10, 2) := by decide +kernel
theorem dL_law_93 : decode cL_law 93 = .ok (.sipush 831, 3) := by decide +kernel
theorem dL_law_96 : decode cL_law 96 = .ok (.iastore, 1) := by decide +kernel
theorem dL_law_97 : decode cL_law 97 = .ok (.aload 4, 2) := by decide +kernel
theorem dL_law_99 : decode cL_law 99 = .ok (.bipush 11, 2) := by decide +kernel
theorem dL_law_101 : decode cL_law 101 = .ok (.sipush 882, 3) := by decide +kernel
theorem dL_law_104 : decode cL_law 104 = .ok (.iastore, 1) := by decide +kernel
theorem dL_law_105 : decode cL_law 105 = .ok (.aload 4, 2) := by decide +kernel
theorem dL_law_107 : decode cL_law 107 = .ok (.bipush 12, 2) := by decide +kernel
theorem dL_law_109 : decode cL_law 109 = .ok (.sipush 924, 3) := by decide +kernel
theorem dL_law_112 : decode cL_law 112 = .ok (.iastore, 1) := by decide +kernel
theorem dL_law_113 : decode cL_law 113 = .ok (.aload 4, 2) := by decide +kernel
theorem dL_law_115 : decode cL_law 115 = .ok (.bipush 13, 2) := by decide +kernel
theorem dL_law_117 : decode cL_law 117 = .ok (.sipush 957, 3) := by decide +kernel
theorem dL_law_120 : decode cL_law 120 = .ok (.iastore, 1) := by decide +kernel
theorem dL_law_121 : decode cL_law 121 = .ok (.aload 4, 2) := by decide +kernel
theorem dL_law_123 : decode cL_law 123 = .ok (.bipush 14, 2) := by decide +kernel
theorem dL_law_125 : decode cL_law 125 = .ok (.sipush 981, 3) := by decide +kernel
theorem dL_law_128 : decode cL_law 128 = .ok (.iastore, 1) := by decide +kernel
theorem dL_law_129 : decode cL_law 129 = .ok (.aload 4, 2) := by decide +kernel
theorem dL_law_131 : decode cL_law 131 = .ok (.bipush 15, 2) := by decide +kernel
theorem dL_law_133 : decode cL_law 133 = .ok (.sipush 995, 3) := by decide +kernel
theorem dL_law_136 : decode cL_law 136 = .ok (.iastore, 1) := by decide +kernel
theorem dL_law_137 : decode cL_law 137 = .ok (.aload 4, 2) := by decide +kernel
theorem dL_law_139 : decode cL_law 139 = .ok (.bipush 16, 2) := by decide +kernel
theorem dL_law_141 : decode cL_law 141 = .ok (.sipush 1000, 3) := by decide +kernel
theorem dL_law_144 : decode cL_law 144 = .ok (.iastore, 1) := by decide +kernel
theorem dL_law_145 : decode cL_law 145 = .ok (.aload_n 3, 1) := by decide +kernel
theorem dL_law_146 : decode cL_law 146 = .ok (.iconst 3, 1) := by decide +kernel
theorem dL_law_147 : decode cL_law 147 = .ok (.sipush 10000, 3) := by decide +kernel
theorem dL_law_150 : decode cL_law 150 = .ok (.iastore, 1) := by decide +kernel
theorem dL_law_151 : decode cL_law 151 = .ok (.iconst 0, 1) := by decide +kernel
theorem dL_law_152 : decode cL_law 152 = .ok (.istore 5, 2) := by decide +kernel
theorem dL_law_154 : decode cL_law 154 = .ok (.iload 5, 2) := by decide +kernel
theorem dL_law_156 : decode cL_law 156 = .ok (.bipush 60, 2) := by decide +kernel
theorem dL_law_158 : decode cL_law 158 = .ok (.if_icmp .ge 1608, 3) := by decide +kernel
theorem dL_law_161 : decode cL_law 161 = .ok (.aload_n 0, 1) := by decide +kernel
theorem dL_law_162 : decode cL_law 162 = .ok (.iconst 2, 1) := by decide +kernel
theorem dL_law_163 : decode cL_law 163 = .ok (.iload 5, 2) := by decide +kernel
theorem dL_law_165 : decode cL_law 165 = .ok (.imul, 1) := by decide +kernel
theorem dL_law_166 : decode cL_law 166 = .ok (.invokestatic 124, 3) := by decide +kernel
theorem dL_law_169 : decode cL_law 169 = .ok (.istore 6, 2) := by decide +kernel
theorem dL_law_171 : decode cL_law 171 = .ok (.aload_n 0, 1) := by decide +kernel
theorem dL_law_172 : decode cL_law 172 = .ok (.iconst 2, 1) := by decide +kernel
theorem dL_law_173 : decode cL_law 173 = .ok (.iload 5, 2) := by decide +kernel
theorem dL_law_175 : decode cL_law 175 = .ok (.imul, 1) := by decide +kernel
theorem dL_law_176 : decode cL_law 176 = .ok (.iconst 1, 1) := by decide +kernel
theorem dL_law_177 : decode cL_law 177 = .ok (.iadd, 1) := by decide +kernel
theorem dL_law_178 : decode cL_law 178 = .ok (.invokestatic 124, 3) := by decide +kernel
theorem dL_law_181 : decode cL_law 181 = .ok (.istore 7, 2) := by decide +kernel
theorem dL_law_183 : decode cL_law 183 = .ok (.aload_n 3, 1) := by decide +kernel
theorem dL_law_184 : decode cL_law 184 = .ok (.iconst 0, 1) := by decide +kernel
theorem dL_law_185 : decode cL_law 185 = .ok (.iaload, 1) := by decide +kernel
theorem dL_law_186 : decode cL_law 186 = .ok (.ifCond .ne 7, 3) := by decide +kernel
theorem dL_law_189 : decode cL_law 189 = .ok (.iconst 0, 1) := by decide +kernel
theorem dL_law_190 : decode cL_law 190 = .ok (.goto 14, 3) := by decide +kernel
theorem dL_law_193 : decode cL_law 193 = .ok (.iload 6, 2) := by decide +kernel
theorem dL_law_195 : decode cL_law 195 = .ok (.bipush 6, 2) := by decide +kernel
theorem dL_law_197 : decode cL_law 197 = .ok (.ishr, 1) := by decide +kernel
theorem dL_law_198 : decode cL_law 198 = .ok (.aload_n 3, 1) := by decide +kernel
theorem dL_law_199 : decode cL_law 199 = .ok (.iconst 0, 1) := by decide +kernel
theorem dL_law_200 : decode cL_law 200 = .ok (.iaload, 1) := by decide +kernel
theorem dL_law_201 : decode cL_law 201 = .ok (.invokestatic 120, 3) := by decide +kernel
theorem dL_law_204 : decode cL_law 204 = .ok (.istore 8, 2) := by decide +kernel
theorem dL_law_206 : decode cL_law 206 = .ok (.iconst 1, 1) := by decide +kernel
theorem dL_law_207 : decode cL_law 207 = .ok (.istore 9, 2) := by decide +kernel
theorem dL_law_209 : decode cL_law 209 = .ok (.iload 5, 2) := by decide +kernel
theorem dL_law_211 : decode cL_law 211 = .ok (.iconst 2, 1) := by decide +kernel
theorem dL_law_212 : decode cL_law 212 = .ok (.if_icmp .ge 7, 3) := by decide +kernel
theorem dL_law_215 : decode cL_law 215 = .ok (.iconst 0, 1) := by decide +kernel
theorem dL_law_216 : decode cL_law 216 = .ok (.goto 10, 3) := by decide +kernel
theorem dL_law_219 : decode cL_law 219 = .ok (.iload 6, 2) := by decide +kernel
theorem dL_law_221 : decode cL_law 221 = .ok (.bipush 13, 2) := by decide +kernel
theorem dL_law_223 : decode cL_law 223 = .ok (.invokestatic 120, 3) := by decide +kernel
theorem dL_law_226 : decode cL_law 226 = .ok (.tableswitch 1058 0 8 #[50, 291, 291, 465, 465, 687, 737, 737, 737], 50) := by decide +kernel
theorem dL_law_276 : decode cL_law 276 = .ok (.iload 7, 2) := by decide +kernel
theorem dL_law_278 : decode cL_law 278 = .ok (.iconst 2, 1) := by decide +kernel
theorem dL_law_279 : decode cL_law 279 = .ok (.invokestatic 120, 3) := by decide +kernel
theorem dL_law_282 : decode cL_law 282 = .ok (.istore 10, 2) := by decide +kernel
theorem dL_law_284 : decode cL_law 284 = .ok (.iload 10, 2) := by decide +kernel
theorem dL_law_286 : decode cL_law 286 = .ok (.ifCond .ne 18, 3) := by decide +kernel
theorem dL_law_289 : decode cL_law 289 = .ok (.iload 7, 2) := by decide +kernel
theorem dL_law_291 : decode cL_law 291 = .ok (.iconst 2, 1) := by decide +kernel
theorem dL_law_292 : decode cL_law 292 = .ok (.ishr, 1) := by decide +kernel
theorem dL_law_293 : decode cL_law 293 = .ok (.bipush 65, 2) := by decide +kernel
theorem dL_law_295 : decode cL_law 295 = .ok (.invokestatic 120, 3) := by decide +kernel
theorem dL_law_298 : decode cL_law 298 = .ok (.bipush 32, 2) := by decide +kernel
theorem dL_law_300 : decode cL_law 300 = .ok (.isub, 1) := by decide +kernel
theorem dL_law_301 : decode cL_law 301 = .ok (.goto 12, 3) := by decide +kernel
theorem dL_law_304 : decode cL_law 304 = .ok (.iload 7, 2) := by decide +kernel
theorem dL_law_306 : decode cL_law 306 = .ok (.iconst 2, 1) := by decide +kernel
theorem dL_law_307 : decode cL_law 307 = .ok (.ishr, 1) := by decide +kernel
theorem dL_law_308 : decode cL_law 308 = .ok (.bipush 101, 2) := by decide +kernel
theorem dL_law_310 : decode cL_law 310 = .ok (.invokestatic 120, 3) := by decide +kernel
theorem dL_law_313 : decode cL_law 313 = .ok (.istore 11, 2) := by decide +kernel
theorem dL_law_315 : decode cL_law 315 = .ok (.iload 10, 2) := by decide +kernel
theorem dL_law_317 : decode cL_law 317 = .ok (.ifCond .ne 8, 3) := by decide +kernel
theorem dL_law_320 : decode cL_law 320 = .ok (.bipush 32, 2) := by decide +kernel
theorem dL_law_322 : decode cL_law 322 = .ok (.goto 5, 3) := by decide +kernel
theorem dL_law_325 : decode cL_law 325 = .ok (.bipush 100, 2) := by decide +kernel
theorem dL_law_327 : decode cL_law 327 = .ok (.istore 12, 2) := by decide +kernel
theorem dL_law_329 : decode cL_law 329 = .ok (.iload 11, 2) := by decide +kernel
theorem dL_law_331 : decode cL_law 331 = .ok (.iload 7, 2) := by decide +kernel
theorem dL_law_333 : decode cL_law 333 = .ok (.bipush 9, 2) := by decide +kernel
theorem dL_law_335 : decode cL_law 335 = .ok (.ishr, 1) := by decide +kernel
theorem dL_law_336 : decode cL_law 336 = .ok (.iload 7, 2) := by decide +kernel
theorem dL_law_338 : decode cL_law 338 = .ok (.ldc 128, 2) := by decide +kernel
theorem dL_law_340 : decode cL_law 340 = .ok (.iand, 1) := by decide +kernel
theorem dL_law_341 : decode cL_law 341 = .ok (.ifCond .ne 8, 3) := by decide +kernel
theorem dL_law_344 : decode cL_law 344 = .ok (.bipush 7, 2) := by decide +kernel
theorem dL_law_346 : decode cL_law 346 = .ok (.goto 6, 3) := by decide +kernel
theorem dL_law_349 : decode cL_law 349 = .ok (.sipush 140, 3) := by decide +kernel
theorem dL_law_352 : decode cL_law 352 = .ok (.invokestatic 120, 3) := by decide +kernel
theorem dL_law_355 : decode cL_law 355 = .ok (.iadd, 1) := by decide +kernel
theorem dL_law_356 : decode cL_law 356 = .ok (.istore 13, 2) := by decide +kernel
theorem dL_law_358 : decode cL_law 358 = .ok (.iload 13, 2) := by decide +kernel
theorem dL_law_360 : decode cL_law 360 = .ok (.iload 12, 2) := by decide +kernel
theorem dL_law_362 : decode cL_law 362 = .ok (.if_icmp .le 8, 3) := by decide +kernel
theorem dL_law_365 : decode cL_law 365 = .ok (.iload 12, 2) := by decide +kernel
theorem dL_law_367 : decode cL_law 367 = .ok (.goto 5, 3) := by decide +kernel
theorem dL_law_370 : decode cL_law 370 = .ok (.iload 13, 2) := by decide +kernel
theorem dL_law_372 : decode cL_law 372 = .ok (.istore 13, 2) := by decide +kernel
theorem dL_law_374 : decode cL_law 374 = .ok (.iload 7, 2) := by decide +kernel
theorem dL_law_376 : decode cL_law 376 = .ok (.bipush 15, 2) := by decide +kernel
theorem dL_law_378 : decode cL_law 378 = .ok (.ishr, 1) := by decide +kernel
theorem dL_law_379 : decode cL_law 379 = .ok (.sipush 201, 3) := by decide +kernel
theorem dL_law_382 : decode cL_law 382 = .ok (.invokestatic 120, 3) := by decide +kernel
theorem dL_law_385 : decode cL_law 385 = .ok (.istore 14, 2) := by decide +kernel
theorem dL_law_387 : decode cL_law 387 = .ok (.aload_n 3, 1) := by decide +kernel
theorem dL_law_388 : decode cL_law 388 = .ok (.iconst 0, 1) := by decide +kernel
theorem dL_law_389 : decode cL_law 389 = .ok (.iaload, 1) := by decide +kernel
theorem dL_law_390 : decode cL_law 390 = .ok (.iconst 5, 1) := by decide +kernel
theorem dL_law_391 : decode cL_law 391 = .ok (.if_icmp .ge 7, 3) := by decide +kernel
theorem dL_law_394 : decode cL_law 394 = .ok (.iconst 1, 1) := by decide +kernel
theorem dL_law_395 : decode cL_law 395 = .ok (.goto 4, 3) := by decide +kernel
theorem dL_law_398 : decode cL_law 398 = .ok (.iconst 0, 1) := by decide +kernel
theorem dL_law_399 : decode cL_law 399 = .ok (.istore 15, 2) := by decide +kernel
theorem dL_law_401 : decode cL_law 401 = .ok (.aload_n 1, 1) := by decide +kernel
theorem dL_law_402 : decode cL_law 402 = .ok (.iload 10, 2) := by decide +kernel
theorem dL_law_404 : decode cL_law 404 = .ok (.iload 14, 2) := by decide +kernel
theorem dL_law_406 : decode cL_law 406 = .ok (.iload 11, 2) := by decide +kernel
theorem dL_law_408 : decode cL_law 408 = .ok (.iload 13, 2) := by decide +kernel
theorem dL_law_410 : decode cL_law 410 = .ok (.invokestatic 129, 3) := by decide +kernel
theorem dL_law_413 : decode cL_law 413 = .ok (.iload 15, 2) := by decide +kernel
theorem dL_law_415 : decode cL_law 415 = .ok (.ifCond .eq 9, 3) := by decide +kernel
theorem dL_law_418 : decode cL_law 418 = .ok (.aload_n 3, 1) := by decide +kernel
theorem dL_law_419 : decode cL_law 419 = .ok (.iconst 0, 1) := by decide +kernel
theorem dL_law_420 : decode cL_law 420 = .ok (.iaload, 1) := by decide +kernel
theorem dL_law_421 : decode cL_law 421 = .ok (.goto 6, 3) := by decide +kernel
theorem dL_law_424 : decode cL_law 424 = .ok (.sipush (-7300), 3) := by decide +kernel
theorem dL_law_427 : decode cL_law 427 = .ok (.if_icmp .ne 7, 3) := by decide +kernel
theorem dL_law_430 : decode cL_law 430 = .ok (.iconst 1, 1) := by decide +kernel
theorem dL_law_431 : decode cL_law 431 = .ok (.goto 4, 3) := by decide +kernel
theorem dL_law_434 : decode cL_law 434 = .ok (.iconst 0, 1) := by decide +kernel
theorem dL_law_435 : decode cL_law 435 = .ok (.istore 9, 2) := by decide +kernel
theorem dL_law_437 : decode cL_law 437 = .ok (.iload 15, 2) := by decide +kernel
theorem dL_law_439 : decode cL_law 439 = .ok (.ifCond .ne 6, 3) := by decide +kernel
theorem dL_law_442 : decode cL_law 442 = .ok (.goto 1298, 3) := by decide +kernel
theorem dL_law_445 : decode cL_law 445 = .ok (.iconst 5, 1) := by decide +kernel
theorem dL_law_446 : decode cL_law 446 = .ok (.aload_n 3, 1) := by decide +kernel
theorem dL_law_447 : decode cL_law 447 = .ok (.iconst 0, 1) := by decide +kernel
theorem dL_law_448 : decode cL_law 448 = .ok (.dup2, 1) := by decide +kernel
theorem dL_law_449 : decode cL_law 449 = .ok (.iaload, 1) := by decide +kernel
theorem dL_law_450 : decode cL_law 450 = .ok (.dup_x2, 1) := by decide +kernel
theorem dL_law_451 : decode cL_law 451 = .ok (.iconst 1, 1) := by decide +kernel
theorem dL_law_452 : decode cL_law 452 = .ok (.iadd, 1) := by decide +kernel
theorem dL_law_453 : decode cL_law 453 = .ok (.iastore, 1) := by decide +kernel
theorem dL_law_454 : decode cL_law 454 = .ok (.imul, 1) := by decide +kernel
theorem dL_law_455 : decode cL_law 455 = .ok (.istore 16, 2) := by decide +kernel
theorem dL_law_457 : decode cL_law 457 = .ok (.aload_n 2, 1) := by decide +kernel
theorem dL_law_458 : decode cL_law 458 = .ok (.iload 16, 2) := by decide +kernel
theorem dL_law_460 : decode cL_law 460 = .ok (.iload 10, 2) := by decide +kernel
theorem dL_law_462 : decode cL_law 462 = .ok (.iastore, 1) := by decide +kernel
theorem dL_law_463 : decode cL_law 463 = .ok (.aload_n 2, 1) := by decide +kernel
theorem dL_law_464 : decode cL_law 464 = .ok (.iload 16, 2) := by decide +kernel
theorem dL_law_466 : decode cL_law 466 = .ok (.iconst 1, 1) := by decide +kernel
theorem dL_law_467 : decode cL_law 467 = .ok (.iadd, 1) := by decide +kernel
theorem dL_law_468 : decode cL_law 468 = .ok (.iload 14, 2) := by decide +kernel
theorem dL_law_470 : decode cL_law 470 = .ok (.iastore, 1) := by decide +kernel
theorem dL_law_471 : decode cL_law 471 = .ok (.aload_n 2, 1) := by decide +kernel
theorem dL_law_472 : decode cL_law 472 = .ok (.iload 16, 2) := by decide +kernel
theorem dL_law_474 : decode cL_law 474 = .ok (.iconst 2, 1) := by decide +kernel
theorem dL_law_475 : decode cL_law 475 = .ok (.iadd, 1) := by decide +kernel
theorem dL_law_476 : decode cL_law 476 = .ok (.iload 11, 2) := by decide +kernel
theorem dL_law_478 : decode cL_law 478 = .ok (.iastore, 1) := by decide +kernel
theorem dL_law_479 : decode cL_law 479 = .ok (.aload_n 2, 1) := by decide +kernel
theorem dL_law_480 : decode cL_law 480 = .ok (.iload 16, 2) := by decide +kernel
theorem dL_law_482 : decode cL_law 482 = .ok (.iconst 3, 1) := by decide +kernel
theorem dL_law_483 : decode cL_law 483 = .ok (.iadd, 1) := by decide +kernel
theorem dL_law_484 : decode cL_law 484 = .ok (.iload 13, 2) := by decide +kernel
theorem dL_law_486 : decode cL_law 486 = .ok (.iastore, 1) := by decide +kernel
theorem dL_law_487 : decode cL_law 487 = .ok (.aload_n 2, 1) := by decide +kernel
theorem dL_law_488 : decode cL_law 488 = .ok (.iload 16, 2) := by decide +kernel
theorem dL_law_490 : decode cL_law 490 = .ok (.iconst 4, 1) := by decide +kernel
theorem dL_law_491 : decode cL_law 491 = .ok (.iadd, 1) := by decide +kernel
theorem dL_law_492 : decode cL_law 492 = .ok (.iload 11, 2) := by decide +kernel
theorem dL_law_494 : decode cL_law 494 = .ok (.ifCond .le 8, 3) := by decide +kernel
theorem dL_law_497 : decode cL_law 497 = .ok (.iload 11, 2) := by decide +kernel
theorem dL_law_499 : decode cL_law 499 = .ok (.goto 14, 3) := by decide +kernel
theorem dL_law_502 : decode cL_law 502 = .ok (.iload 13, 2) := by decide +kernel
theorem dL_law_504 : decode cL_law 504 = .ok (.ifCond .ge 8, 3) := by decide +kernel
theorem dL_law_507 : decode cL_law 507 = .ok (.iload 13, 2) := by decide +kernel
theorem dL_law_509 : decode cL_law 509 = .ok (.goto 4, 3) := by decide +kernel
theorem dL_law_512 : decode cL_law 512 = .ok (.iconst 0, 1) := by decide +kernel
theorem dL_law_513 : decode cL_law 513 = .ok (.iastore, 1) := by decide +kernel
theorem dL_law_514 : decode cL_law 514 = .ok (.goto 1226, 3) := by decide +kernel
theorem dL_law_517 : decode cL_law 517 = .ok (.aload_n 3, 1) := by decide +kernel
theorem dL_law_518 : decode cL_law 518 = .ok (.iconst 0, 1) := by decide +kernel
theorem dL_law_519 : decode cL_law 519 = .ok (.iaload, 1) := by decide +kernel
theorem dL_law_520 : decode cL_law 520 = .ok (.ifCond .ne 6, 3) := by decide +kernel
theorem dL_law_523 : decode cL_law 523 = .ok (.goto 1217, 3) := by decide +kernel
theorem dL_law_526 : decode cL_law 526 = .ok (.iload 7, 2) := by decide +kernel
theorem dL_law_528 : decode cL_law 528 = .ok (.sipush 170, 3) := by decide +kernel
theorem dL_law_531 : decode cL_law 531 = .ok (.invokestatic 120, 3) := by decide +kernel
theorem dL_law_534 : decode cL_law 534 = .ok (.bipush 50, 2) := by decide +kernel
theorem dL_law_536 : decode cL_law 536 = .ok (.isub, 1) := by decide +kernel
theorem dL_law_537 : decode cL_law 537 = .ok (.istore 17, 2) := by decide +kernel
theorem dL_law_539 : decode cL_law 539 = .ok (.iload 17, 2) := by decide +kernel
theorem dL_law_541 : decode cL_law 541 = .ok (.aload_n 2, 1) := by decide +kernel
theorem dL_law_542 : decode cL_law 542 = .ok (.iconst 5, 1) := by decide +kernel
theorem dL_law_543 : decode cL_law 543 = .ok (.iload 8, 2) := by decide +kernel
theorem dL_law_545 : decode cL_law 545 = .ok (.imul, 1) := by decide +kernel
theorem dL_law_546 : decode cL_law 546 = .ok (.iconst 2, 1) := by decide +kernel
theorem dL_law_547 : decode cL_law 547 = .ok (.iadd, 1) := by decide +kernel
theorem dL_law_548 : decode cL_law 548 = .ok (.iaload, 1) := by decide +kernel
theorem dL_law_549 : decode cL_law 549 = .ok (.if_icmp .lt 20, 3) := by decide +kernel
theorem dL_law_552 : decode cL_law 552 = .ok (.iload 17, 2) := by decide +kernel
theorem dL_law_554 : decode cL_law 554 = .ok (.aload_n 2, 1) := by decide +kernel
theorem dL_law_555 : decode cL_law 555 = .ok (.iconst 5, 1) := by decide +kernel
theorem dL_law_556 : decode cL_law 556 = .ok (.iload 8, 2) := by decide +kernel
theorem dL_law_558 : decode cL_law 558 = .ok (.imul, 1) := by decide +kernel
theorem dL_law_559 : decode cL_law 559 = .ok (.iconst 3, 1) := by decide +kernel
theorem dL_law_560 : decode cL_law 560 = .ok (.iadd, 1) := by decide +kernel
theorem dL_law_561 : decode cL_law 561 = .ok (.iaload, 1) := by decide +kernel
theorem dL_law_562 : decode cL_law 562 = .ok (.if_icmp .gt 7, 3) := by decide +kernel
theorem dL_law_565 : decode cL_law 565 = .ok (.iconst 1, 1) := by decide +kernel
theorem dL_law_566 : decode cL_law 566 = .ok (.goto 4, 3) := by decide +kernel
theorem dL_law_569 : decode cL_law 569 = .ok (.iconst 0, 1) := by decide +kernel
theorem dL_law_570 : decode cL_law 570 = .ok (.istore 18, 2) := by decide +kernel
theorem dL_law_572 : decode cL_law 572 = .ok (.iload 7, 2) := by decide +kernel
theorem dL_law_574 : decode cL_law 574 = .ok (.iconst 1, 1) := by decide +kernel
theorem dL_law_575 : decode cL_law 575 = .ok (.iand, 1) := by decide +kernel
theorem dL_law_576 : decode cL_law 576 = .ok (.ifCond .ne 49, 3) := by decide +kernel
theorem dL_law_579 : decode cL_law 579 = .ok (.iload 18, 2) := by decide +kernel
theorem dL_law_581 : decode cL_law 581 = .ok (.ifCond .ne 44, 3) := by decide +kernel
theorem dL_law_584 : decode cL_law 584 = .ok (.aload_n 2, 1) := by decide +kernel
theorem dL_law_585 : decode cL_law 585 = .ok (.iconst 5, 1) := by decide +kernel
theorem dL_law_586 : decode cL_law 586 = .ok (.iload 8, 2) := by decide +kernel
theorem dL_law_588 : decode cL_law 588 = .ok (.imul, 1) := by decide +kernel
theorem dL_law_589 : decode cL_law 589 = .ok (.iconst 2, 1) := by decide +kernel
theorem dL_law_590 : decode cL_law 590 = .ok (.iadd, 1) := by decide +kernel
theorem dL_law_591 : decode cL_law 591 = .ok (.iaload, 1) := by decide +kernel
theorem dL_law_592 : decode cL_law 592 = .ok (.iload 7, 2) := by decide +kernel
theorem dL_law_594 : decode cL_law 594 = .ok (.bipush 8, 2) := by decide +kernel
theorem dL_law_596 : decode cL_law 596 = .ok (.ishr, 1) := by decide +kernel
theorem dL_law_597 : decode cL_law 597 = .ok (.aload_n 2, 1) := by decide +kernel
theorem dL_law_598 : decode cL_law 598 = .ok (.iconst 5, 1) := by decide +kernel
theorem dL_law_599 : decode cL_law 599 = .ok (.iload 8, 2) := by decide +kernel
theorem dL_law_601 : decode cL_law 601 = .ok (.imul, 1) := by decide +kernel
theorem dL_law_602 : decode cL_law 602 = .ok (.iconst 3, 1) := by decide +kernel
theorem dL_law_603 : decode cL_law 603 = .ok (.iadd, 1) := by decide +kernel
theorem dL_law_604 : decode cL_law 604 = .ok (.iaload, 1) := by decide +kernel
theorem dL_law_605 : decode cL_law 605 = .ok (.aload_n 2, 1) := by decide +kernel
theorem dL_law_606 : decode cL_law 606 = .ok (.iconst 5, 1) := by decide +kernel
theorem dL_law_607 : decode cL_law 607 = .ok (.iload 8, 2) := by decide +kernel
theorem dL_law_609 : decode cL_law 609 = .ok (.imul, 1) := by decide +kernel
theorem dL_law_610 : decode cL_law 610 = .ok (.iconst 2, 1) := by decide +kernel
theorem dL_law_611 : decode cL_law 611 = .ok (.iadd, 1) := by decide +kernel
theorem dL_law_612 : decode cL_law 612 = .ok (.iaload, 1) := by decide +kernel
theorem dL_law_613 : decode cL_law 613 = .ok (.isub, 1) := by decide +kernel
theorem dL_law_614 : decode cL_law 614 = .ok (.iconst 1, 1) := by decide +kernel
theorem dL_law_615 : decode cL_law 615 = .ok (.iadd, 1) := by decide +kernel
theorem dL_law_616 : decode cL_law 616 = .ok (.invokestatic 120, 3) := by decide +kernel
theorem dL_law_619 : decode cL_law 619 = .ok (.iadd, 1) := by decide +kernel
theorem dL_law_620 : decode cL_law 620 = .ok (.istore 17, 2) := by decide +kernel
theorem dL_law_622 : decode cL_law 622 = .ok (.iconst 1, 1) := by decide +kernel
theorem dL_law_623 : decode cL_law 623 = .ok (.istore 18, 2) := by decide +kernel
theorem dL_law_625 : decode cL_law 625 = .ok (.aload_n 1, 1) := by decide +kernel
theorem dL_law_626 : decode cL_law 626 = .ok (.iload 8, 2) := by decide +kernel
theorem dL_law_628 : decode cL_law 628 = .ok (.iload 17, 2) := by decide +kernel
theorem dL_law_630 : decode cL_law 630 = .ok (.invokestatic 132, 3) := by decide +kernel
theorem dL_law_633 : decode cL_law 633 = .ok (.iload 18, 2) := by decide +kernel
theorem dL_law_635 : decode cL_law 635 = .ok (.ifCond .eq 14, 3) := by decide +kernel
theorem dL_law_638 : decode cL_law 638 = .ok (.aload_n 2, 1) := by decide +kernel
theorem dL_law_639 : decode cL_law 639 = .ok (.iconst 5, 1) := by decide +kernel
theorem dL_law_640 : decode cL_law 640 = .ok (.iload 8, 2) := by decide +kernel
theorem dL_law_642 : decode cL_law 642 = .ok (.imul, 1) := by decide +kernel
theorem dL_law_643 : decode cL_law 643 = .ok (.iconst 4, 1) := by decide +kernel
theorem dL_law_644 : decode cL_law 644 = .ok (.iadd, 1) := by decide +kernel
theorem dL_law_645 : decode cL_law 645 = .ok (.iaload, 1) := by decide +kernel
theorem dL_law_646 : decode cL_law 646 = .ok (.goto 6, 3) := by decide +kernel
theorem dL_law_649 : decode cL_law 649 = .ok (.sipush (-7200), 3) := by decide +kernel
theorem dL_law_652 : decode cL_law 652 = .ok (.if_icmp .ne 7, 3) := by decide +kernel
theorem dL_law_655 : decode cL_law 655 = .ok (.iconst 1, 1) := by decide +kernel
theorem dL_law_656 : decode cL_law 656 = .ok (.goto 4, 3) := by decide +kernel
theorem dL_law_659 : decode cL_law 659 = .ok (.iconst 0, 1) := by decide +kernel
theorem dL_law_660 : decode cL_law 660 = .ok (.istore 9, 2) := by decide +kernel
theorem dL_law_662 : decode cL_law 662 = .ok (.aload_n 2, 1) := by decide +kernel
theorem dL_law_663 : decode cL_law 663 = .ok (.iconst 5, 1) := by decide +kernel
theorem dL_law_664 : decode cL_law 664 = .ok (.iload 8, 2) := by decide +kernel
theorem dL_law_666 : decode cL_law 666 = .ok (.imul, 1) := by decide +kernel
theorem dL_law_667 : decode cL_law 667 = .ok (.iconst 4, 1) := by decide +kernel
theorem dL_law_668 : decode cL_law 668 = .ok (.iadd, 1) := by decide +kernel
theorem dL_law_669 : decode cL_law 669 = .ok (.iload 18, 2) := by decide +kernel
theorem dL_law_671 : decode cL_law 671 = .ok (.ifCond .eq 8, 3) := by decide +kernel
theorem dL_law_674 : decode cL_law 674 = .ok (.iload 17, 2) := by decide +kernel
theorem dL_law_676 : decode cL_law 676 = .ok (.goto 11, 3) := by decide +kernel
theorem dL_law_679 : decode cL_law 679 = .ok (.aload_n 2, 1) := by decide +kernel
theorem dL_law_680 : decode cL_law 680 = .ok (.iconst 5, 1) := by decide +kernel
theorem dL_law_681 : decode cL_law 681 = .ok (.iload 8, 2) := by decide +kernel
theorem dL_law_683 : decode cL_law 683 = .ok (.imul, 1) := by decide +kernel
theorem dL_law_684 : decode cL_law 684 = .ok (.iconst 4, 1) := by decide +kernel
theorem dL_law_685 : decode cL_law 685 = .ok (.iadd, 1) := by decide +kernel
theorem dL_law_686 : decode cL_law 686 = .ok (.iaload, 1) := by decide +kernel
theorem dL_law_687 : decode cL_law 687 = .ok (.iastore, 1) := by decide +kernel
theorem dL_law_688 : decode cL_law 688 = .ok (.goto 1052, 3) := by decide +kernel
theorem dL_law_691 : decode cL_law 691 = .ok (.aload_n 3, 1) := by decide +kernel
theorem dL_law_692 : decode cL_law 692 = .ok (.iconst 0, 1) := by decide +kernel
theorem dL_law_693 : decode cL_law 693 = .ok (.iaload, 1) := by decide +kernel
theorem dL_law_694 : decode cL_law 694 = .ok (.ifCond .le 14, 3) := by decide +kernel
theorem dL_law_697 : decode cL_law 697 = .ok (.iload 7, 2) := by decide +kernel
theorem dL_law_699 : decode cL_law 699 = .ok (.iconst 2, 1) := by decide +kernel
theorem dL_law_700 : decode cL_law 700 = .ok (.iand, 1) := by decide +kernel
theorem dL_law_701 : decode cL_law 701 = .ok (.ifCond .ne 7, 3) := by decide +kernel
theorem dL_law_704 : decode cL_law 704 = .ok (.iconst 1, 1) := by decide +kernel
theorem dL_law_705 : decode cL_law 705 = .ok (.goto 4, 3) := by decide +kernel
theorem dL_law_708 : decode cL_law 708 = .ok (.iconst 0, 1) := by decide +kernel
theorem dL_law_709 : decode cL_law 709 = .ok (.istore 19, 2) := by decide +kernel
theorem dL_law_711 : decode cL_law 711 = .ok (.iload 7, 2) := by decide +kernel
theorem dL_law_713 : decode cL_law 713 = .ok (.iconst 4, 1) := by decide +kernel
theorem dL_law_714 : decode cL_law 714 = .ok (.ishr, 1) := by decide +kernel
theorem dL_law_715 : decode cL_law 715 = .ok (.bipush 9, 2) := by decide +kernel
theorem dL_law_717 : decode cL_law 717 = .ok (.invokestatic 120, 3) := by decide +kernel
theorem dL_law_720 : decode cL_law 720 = .ok (.iconst 4, 1) := by decide +kernel
theorem dL_law_721 : decode cL_law 721 = .ok (.isub, 1) := by decide +kernel
theorem dL_law_722 : decode cL_law 722 = .ok (.istore 20, 2) := by decide +kernel
theorem dL_law_724 : decode cL_law 724 = .ok (.aload_n 3, 1) := by decide +kernel
theorem dL_law_725 : decode cL_law 725 = .ok (.iconst 1, 1) := by decide +kernel
theorem dL_law_726 : decode cL_law 726 = .ok (.iload 19, 2) := by decide +kernel
theorem dL_law_728 : decode cL_law 728 = .ok (.ifCond .eq 30, 3) := by decide +kernel
theorem dL_law_731 : decode cL_law 731 = .ok (.iconst 1, 1) := by decide +kernel
theorem dL_law_732 : decode cL_law 732 = .ok (.iload 8, 2) := by decide +kernel
theorem dL_law_734 : decode cL_law 734 = .ok (.iload 20, 2) := by decide +kernel
theorem dL_law_736 : decode cL_law 736 = .ok (.aload_n 2, 1) := by decide +kernel
theorem dL_law_737 : decode cL_law 737 = .ok (.aload_n 3, 1) := by decide +kernel
theorem dL_law_738 : decode cL_law 738 = .ok (.aload 4, 2) := by decide +kernel
theorem dL_law_740 : decode cL_law 740 = .ok (.invokestatic 76, 3) := by decide +kernel
theorem dL_law_743 : decode cL_law 743 = .ok (.iload 7, 2) := by decide +kernel
theorem dL_law_745 : decode cL_law 745 = .ok (.bipush 9, 2) := by decide +kernel
theorem dL_law_747 : decode cL_law 747 = .ok (.ishr, 1) := by decide +kernel
theorem dL_law_748 : decode cL_law 748 = .ok (.sipush 3000, 3) := by decide +kernel
theorem dL_law_751 : decode cL_law 751 = .ok (.invokestatic 120, 3) := by decide +kernel
theorem dL_law_754 : decode cL_law 754 = .ok (.iadd, 1) := by decide +kernel
theorem dL_law_755 : decode cL_law 755 = .ok (.goto 13, 3) := by decide +kernel
theorem dL_law_758 : decode cL_law 758 = .ok (.iload 7, 2) := by decide +kernel
theorem dL_law_760 : decode cL_law 760 = .ok (.ldc 134, 2) := by decide +kernel
theorem dL_law_762 : decode cL_law 762 = .ok (.invokestatic 120, 3) := by decide +kernel
theorem dL_law_765 : decode cL_law 765 = .ok (.ldc 135, 2) := by decide +kernel
theorem dL_law_767 : decode cL_law 767 = .ok (.isub, 1) := by decide +kernel
theorem dL_law_768 : decode cL_law 768 = .ok (.iastore, 1) := by decide +kernel
theorem dL_law_769 : decode cL_law 769 = .ok (.aload_n 3, 1) := by decide +kernel
theorem dL_law_770 : decode cL_law 770 = .ok (.iconst 2, 1) := by decide +kernel
theorem dL_law_771 : decode cL_law 771 = .ok (.iload 19, 2) := by decide +kernel
theorem dL_law_773 : decode cL_law 773 = .ok (.ifCond .eq 30, 3) := by decide +kernel
theorem dL_law_776 : decode cL_law 776 = .ok (.iconst 0, 1) := by decide +kernel
theorem dL_law_777 : decode cL_law 777 = .ok (.iload 8, 2) := by decide +kernel
theorem dL_law_779 : decode cL_law 779 = .ok (.iload 20, 2) := by decide +kernel
theorem dL_law_781 : decode cL_law 781 = .ok (.aload_n 2, 1) := by decide +kernel
theorem dL_law_782 : decode cL_law 782 = .ok (.aload_n 3, 1) := by decide +kernel
theorem dL_law_783 : decode cL_law 783 = .ok (.aload 4, 2) := by decide +kernel
theorem dL_law_785 : decode cL_law 785 = .ok (.invokestatic 76, 3) := by decide +kernel
theorem dL_law_788 : decode cL_law 788 = .ok (.iload 7, 2) := by decide +kernel
theorem dL_law_790 : decode cL_law 790 = .ok (.bipush 12, 2) := by decide +kernel
theorem dL_law_792 : decode cL_law 792 = .ok (.ishr, 1) := by decide +kernel
theorem dL_law_793 : decode cL_law 793 = .ok (.sipush 3000, 3) := by decide +kernel
theorem dL_law_796 : decode cL_law 796 = .ok (.invokestatic 120, 3) := by decide +kernel
theorem dL_law_799 : decode cL_law 799 = .ok (.isub, 1) := by decide +kernel
theorem dL_law_800 : decode cL_law 800 = .ok (.goto 15, 3) := by decide +kernel
theorem dL_law_803 : decode cL_law 803 = .ok (.iload 7, 2) := by decide +kernel
theorem dL_law_805 : decode cL_law 805 = .ok (.iconst 3, 1) := by decide +kernel
theorem dL_law_806 : decode cL_law 806 = .ok (.ishr, 1) := by decide +kernel
theorem dL_law_807 : decode cL_law 807 = .ok (.ldc 134, 2) := by decide +kernel
theorem dL_law_809 : decode cL_law 809 = .ok (.invokestatic 120, 3) := by decide +kernel
theorem dL_law_812 : decode cL_law 812 = .ok (.ldc 135, 2) := by decide +kernel
theorem dL_law_814 : decode cL_law 814 = .ok (.isub, 1) := by decide +kernel
theorem dL_law_815 : decode cL_law 815 = .ok (.iastore, 1) := by decide +kernel
theorem dL_law_816 : decode cL_law 816 = .ok (.aload_n 3, 1) := by decide +kernel
theorem dL_law_817 : decode cL_law 817 = .ok (.iconst 1, 1) := by decide +kernel
theorem dL_law_818 : decode cL_law 818 = .ok (.aload_n 3, 1) := by decide +kernel
theorem dL_law_819 : decode cL_law 819 = .ok (.iconst 1, 1) := by decide +kernel
theorem dL_law_820 : decode cL_law 820 = .ok (.iaload, 1) := by decide +kernel
theorem dL_law_821 : decode cL_law 821 = .ok (.ldc 82, 2) := by decide +kernel
theorem dL_law_823 : decode cL_law 823 = .ok (.if_icmp .le 8, 3) := by decide +kernel
theorem dL_law_826 : decode cL_law 826 = .ok (.ldc 82, 2) := by decide +kernel
theorem dL_law_828 : decode cL_law 828 = .ok (.goto 19, 3) := by decide +kernel
theorem dL_law_831 : decode cL_law 831 = .ok (.aload_n 3, 1) := by decide +kernel
theorem dL_law_832 : decode cL_law 832 = .ok (.iconst 1, 1) := by decide +kernel
theorem dL_law_833 : decode cL_law 833 = .ok (.iaload, 1) := by decide +kernel
theorem dL_law_834 : decode cL_law 834 = .ok (.ldc 136, 2) := by decide +kernel
theorem dL_law_836 : decode cL_law 836 = .ok (.if_icmp .ge 8, 3) := by decide +kernel
theorem dL_law_839 : decode cL_law 839 = .ok (.ldc 136, 2) := by decide +kernel
theorem dL_law_841 : decode cL_law 841 = .ok (.goto 6, 3) := by decide +kernel
theorem dL_law_844 : decode cL_law 844 = .ok (.aload_n 3, 1) := by decide +kernel
theorem dL_law_845 : decode cL_law 845 = .ok (.iconst 1, 1) := by decide +kernel
theorem dL_law_846 : decode cL_law 846 = .ok (.iaload, 1) := by decide +kernel
theorem dL_law_847 : decode cL_law 847 = .ok (.iastore, 1) := by decide +kernel
theorem dL_law_848 : decode cL_law 848 = .ok (.aload_n 3, 1) := by decide +kernel
theorem dL_law_849 : decode cL_law 849 = .ok (.iconst 2, 1) := by decide +kernel
theorem dL_law_850 : decode cL_law 850 = .ok (.aload_n 3, 1) := by decide +kernel
theorem dL_law_851 : decode cL_law 851 = .ok (.iconst 2, 1) := by decide +kernel
theorem dL_law_852 : decode cL_law 852 = .ok (.iaload, 1) := by decide +kernel
theorem dL_law_853 : decode cL_law 853 = .ok (.ldc 82, 2) := by decide +kernel
theorem dL_law_855 : decode cL_law 855 = .ok (.if_icmp .le 8, 3) := by decide +kernel
theorem dL_law_858 : decode cL_law 858 = .ok (.ldc 82, 2) := by decide +kernel
theorem dL_law_860 : decode cL_law 860 = .ok (.goto 19, 3) := by decide +kernel
theorem dL_law_863 : decode cL_law 863 = .ok (.aload_n 3, 1) := by decide +kernel
theorem dL_law_864 : decode cL_law 864 = .ok (.iconst 2, 1) := by decide +kernel
theorem dL_law_865 : decode cL_law 865 = .ok (.iaload, 1) := by decide +kernel
theorem dL_law_866 : decode cL_law 866 = .ok (.ldc 136, 2) := by decide +kernel
theorem dL_law_868 : decode cL_law 868 = .ok (.if_icmp .ge 8, 3) := by decide +kernel
theorem dL_law_871 : decode cL_law 871 = .ok (.ldc 136, 2) := by decide +kernel
theorem dL_law_873 : decode cL_law 873 = .ok (.goto 6, 3) := by decide +kernel
theorem dL_law_876 : decode cL_law 876 = .ok (.aload_n 3, 1) := by decide +kernel
theorem dL_law_877 : decode cL_law 877 = .ok (.iconst 2, 1) := by decide +kernel
theorem dL_law_878 : decode cL_law 878 = .ok (.iaload, 1) := by decide +kernel
theorem dL_law_879 : decode cL_law 879 = .ok (.iastore, 1) := by decide +kernel
theorem dL_law_880 : decode cL_law 880 = .ok (.aload_n 1, 1) := by decide +kernel
theorem dL_law_881 : decode cL_law 881 = .ok (.aload_n 3, 1) := by decide +kernel
theorem dL_law_882 : decode cL_law 882 = .ok (.iconst 1, 1) := by decide +kernel
theorem dL_law_883 : decode cL_law 883 = .ok (.iaload, 1) := by decide +kernel
theorem dL_law_884 : decode cL_law 884 = .ok (.aload_n 3, 1) := by decide +kernel
theorem dL_law_885 : decode cL_law 885 = .ok (.iconst 2, 1) := by decide +kernel
theorem dL_law_886 : decode cL_law 886 = .ok (.iaload, 1) := by decide +kernel
theorem dL_law_887 : decode cL_law 887 = .ok (.invokestatic 137, 3) := by decide +kernel
theorem dL_law_890 : decode cL_law 890 = .ok (.iconst (-1), 1) := by decide +kernel
theorem dL_law_891 : decode cL_law 891 = .ok (.iconst 0, 1) := by decide +kernel
theorem dL_law_892 : decode cL_law 892 = .ok (.aload_n 2, 1) := by decide +kernel
theorem dL_law_893 : decode cL_law 893 = .ok (.aload_n 3, 1) := by decide +kernel
theorem dL_law_894 : decode cL_law 894 = .ok (.aload 4, 2) := by decide +kernel
theorem dL_law_896 : decode cL_law 896 = .ok (.invokestatic 106, 3) := by decide +kernel
theorem dL_law_899 : decode cL_law 899 = .ok (.lcmp, 1) := by decide +kernel
theorem dL_law_900 : decode cL_law 900 = .ok (.ifCond .ne 7, 3) := by decide +kernel
theorem dL_law_903 : decode cL_law 903 = .ok (.iconst 1, 1) := by decide +kernel
theorem dL_law_904 : decode cL_law 904 = .ok (.goto 4, 3) := by decide +kernel
theorem dL_law_907 : decode cL_law 907 = .ok (.iconst 0, 1) := by decide +kernel
theorem dL_law_908 : decode cL_law 908 = .ok (.istore 9, 2) := by decide +kernel
theorem dL_law_910 : decode cL_law 910 = .ok (.goto 830, 3) := by decide +kernel
theorem dL_law_913 : decode cL_law 913 = .ok (.iload 7, 2) := by decide +kernel
theorem dL_law_915 : decode cL_law 915 = .ok (.iload 7, 2) := by decide +kernel
theorem dL_law_917 : decode cL_law 917 = .ok (.ldc 128, 2) := by decide +kernel
theorem dL_law_919 : decode cL_law 919 = .ok (.iand, 1) := by decide +kernel
theorem dL_law_920 : decode cL_law 920 = .ok (.ifCond .ne 8, 3) := by decide +kernel
theorem dL_law_923 : decode cL_law 923 = .ok (.ldc 140, 2) := by decide +kernel
theorem dL_law_925 : decode cL_law 925 = .ok (.goto 6, 3) := by decide +kernel
theorem dL_law_928 : decode cL_law 928 = .ok (.sipush 9000, 3) := by decide +kernel
theorem dL_law_931 : decode cL_law 931 = .ok (.invokestatic 120, 3) := by decide +kernel
theorem dL_law_934 : decode cL_law 934 = .ok (.istore 21, 2) := by decide +kernel
theorem dL_law_936 : decode cL_law 936 = .ok (.aload_n 1, 1) := by decide +kernel
theorem dL_law_937 : decode cL_law 937 = .ok (.iload 21, 2) := by decide +kernel
theorem dL_law_939 : decode cL_law 939 = .ok (.invokestatic 141, 3) := by decide +kernel
theorem dL_law_942 : decode cL_law 942 = .ok (.aload_n 3, 1) := by decide +kernel
theorem dL_law_943 : decode cL_law 943 = .ok (.iconst 3, 1) := by decide +kernel
theorem dL_law_944 : decode cL_law 944 = .ok (.iaload, 1) := by decide +kernel
theorem dL_law_945 : decode cL_law 945 = .ok (.if_icmp .ne 7, 3) := by decide +kernel
theorem dL_law_948 : decode cL_law 948 = .ok (.iconst 1, 1) := by decide +kernel
theorem dL_law_949 : decode cL_law 949 = .ok (.goto 4, 3) := by decide +kernel
theorem dL_law_952 : decode cL_law 952 = .ok (.iconst 0, 1) := by decide +kernel
theorem dL_law_953 : decode cL_law 953 = .ok (.istore 9, 2) := by decide +kernel
theorem dL_law_955 : decode cL_law 955 = .ok (.aload_n 3, 1) := by decide +kernel
theorem dL_law_956 : decode cL_law 956 = .ok (.iconst 3, 1) := by decide +kernel
theorem dL_law_957 : decode cL_law 957 = .ok (.iload 21, 2) := by decide +kernel
theorem dL_law_959 : decode cL_law 959 = .ok (.iastore, 1) := by decide +kernel
theorem dL_law_960 : decode cL_law 960 = .ok (.goto 780, 3) := by decide +kernel
theorem dL_law_963 : decode cL_law 963 = .ok (.iconst 1, 1) := by decide +kernel
theorem dL_law_964 : decode cL_law 964 = .ok (.iload 7, 2) := by decide +kernel
theorem dL_law_966 : decode cL_law 966 = .ok (.iload 7, 2) := by decide +kernel
theorem dL_law_968 : decode cL_law 968 = .ok (.ldc 128, 2) := by decide +kernel
theorem dL_law_970 : decode cL_law 970 = .ok (.iand, 1) := by decide +kernel
theorem dL_law_971 : decode cL_law 971 = .ok (.ifCond .ne 9, 3) := by decide +kernel
theorem dL_law_974 : decode cL_law 974 = .ok (.sipush 200, 3) := by decide +kernel
theorem dL_law_977 : decode cL_law 977 = .ok (.goto 4, 3) := by decide +kernel
theorem dL_law_980 : decode cL_law 980 = .ok (.iconst 4, 1) := by decide +kernel
theorem dL_law_981 : decode cL_law 981 = .ok (.invokestatic 120, 3) := by decide +kernel
