-- contexts of the class, checked by the kernel
-- X1_open
def cx_506 : ai_C := (20, [.r 80, .r 1, .r 102, .r 103, .i (-2147483648) 2147483647], [], none, ([(80, 3), (80, 4), (80, 5), (80, 6), (80, 12), (80, 13), (1089, 0), (1089, 1), (1089, 2), (1089, 3), (1090, 0), (1090, 1), (1090, 2), (1090, 3)], [81, 1084]))
set_option maxRecDepth 1000000 in
theorem vx_506 : ai_valid ai_Tb cx_506 := ai_chk_ok (n := 225) (D := [cx_450, cx_34, cx_32]) ai_TbK (ai_D1 vx_450 (ai_D1 vx_34 (ai_D1 vx_32 ai_D0))) (by decide +kernel)
-- X1_open
def cx_507 : ai_C := (20, [.r 80, .r 1, .r 102, .r 102, .i (-2147483648) 2147483647], [], none, ([(80, 3), (80, 4), (80, 5), (80, 6), (80, 12), (80, 13), (1089, 0), (1089, 1), (1089, 2), (1089, 3), (1090, 0), (1090, 1), (1090, 2), (1090, 3)], [81, 1084]))
set_option maxRecDepth 1000000 in
theorem vx_507 : ai_valid ai_Tb cx_507 := ai_chk_ok (n := 225) (D := [cx_450, cx_34]) ai_TbK (ai_D1 vx_450 (ai_D1 vx_34 ai_D0)) (by decide +kernel)
-- X10_would
def cx_508 : ai_C := (150, [.r 0, .i (-2147483648) 2147483647, .i (-2147483648) 2147483647, .i (-2147483648) 2147483647, .i (-2147483648) 2147483647], [], some [.i (-2147483648) 61], ([(80, 3), (80, 4), (80, 5), (80, 6), (80, 12), (80, 13), (80, 14), (1087, 0), (1087, 1), (1087, 2), (1087, 3), (1088, 0), (1088, 1), (1088, 2), (1088, 3), (1089, 0), (1089, 1), (1089, 2), (1089, 3), (1090, 0), (1090, 1), (1090, 2), (1090, 3)], [81, 82, 1003, 1084, 1086]))
set_option maxRecDepth 1000000 in
theorem vx_508 : ai_valid ai_Tb cx_508 := ai_chk_ok (n := 74) (D := [cx_197, cx_202, cx_206, cx_210, cx_214, cx_218, cx_220, cx_222, cx_224, cx_226, cx_228, cx_230, cx_232, cx_234, cx_236, cx_238, cx_240, cx_242, cx_244, cx_246, cx_248, cx_250, cx_252, cx_254, cx_256, cx_258, cx_260, cx_262, cx_264, cx_266, cx_268, cx_270, cx_272, cx_274, cx_276, cx_278, cx_451, cx_473, cx_474, cx_475, cx_476, cx_477, cx_478, cx_479, cx_480, cx_481, cx_482, cx_483, cx_484, cx_485, cx_486, cx_487, cx_488, cx_489, cx_490, cx_491, cx_492, cx_493, cx_494, cx_495, cx_496, cx_497, cx_498, cx_499, cx_500, cx_501, cx_502, cx_503, cx_504, cx_505, cx_506, cx_507, cx_472]) ai_TbK (ai_D1 vx_197 (ai_D1 vx_202 (ai_D1 vx_206 (ai_D1 vx_210 (ai_D1 vx_214 (ai_D1 vx_218 (ai_D1 vx_220 (ai_D1 vx_222 (ai_D1 vx_224 (ai_D1 vx_226 (ai_D1 vx_228 (ai_D1 vx_230 (ai_D1 vx_232 (ai_D1 vx_234 (ai_D1 vx_236 (ai_D1 vx_238 (ai_D1 vx_240 (ai_D1 vx_242 (ai_D1 vx_244 (ai_D1 vx_246 (ai_D1 vx_248 (ai_D1 vx_250 (ai_D1 vx_252 (ai_D1 vx_254 (ai_D1 vx_256 (ai_D1 vx_258 (ai_D1 vx_260 (ai_D1 vx_262 (ai_D1 vx_264 (ai_D1 vx_266 (ai_D1 vx_268 (ai_D1 vx_270 (ai_D1 vx_272 (ai_D1 vx_274 (ai_D1 vx_276 (ai_D1 vx_278 (ai_D1 vx_451 (ai_D1 vx_473 (ai_D1 vx_474 (ai_D1 vx_475 (ai_D1 vx_476 (ai_D1 vx_477 (ai_D1 vx_478 (ai_D1 vx_479 (ai_D1 vx_480 (ai_D1 vx_481 (ai_D1 vx_482 (ai_D1 vx_483 (ai_D1 vx_484 (ai_D1 vx_485 (ai_D1 vx_486 (ai_D1 vx_487 (ai_D1 vx_488 (ai_D1 vx_489 (ai_D1 vx_490 (ai_D1 vx_491 (ai_D1 vx_492 (ai_D1 vx_493 (ai_D1 vx_494 (ai_D1 vx_495 (ai_D1 vx_496 (ai_D1 vx_497 (ai_D1 vx_498 (ai_D1 vx_499 (ai_D1 vx_500 (ai_D1 vx_501 (ai_D1 vx_502 (ai_D1 vx_503 (ai_D1 vx_504 (ai_D1 vx_505 (ai_D1 vx_506 (ai_D1 vx_507 (ai_D1 vx_472 ai_D0))))))))))))))))))))))))))))))))))))))))))))))))))))))))))))))))))))))))) (by decide +kernel)
-- X1_countOf
def cx_509 : ai_C := (32, [.r 6, .i (-2147483648) 2147483647], [(52, [.r 6, .i (-2147483648) 2147483647, .i (-2147483648) 2147483647, .i 1 61], [], (.v 3 61, .n 8000000000, .n 8000000000))], some [.i (-2147483648) 2147483647], ([], []))
set_option maxRecDepth 1000000 in
theorem vx_509 : ai_valid ai_Tb cx_509 := ai_chk_ok (n := 233) (D := []) ai_TbK ai_D0 (by decide +kernel)
-- X10_count
def cx_510 : ai_C := (151, [.r 0, .i (-2147483648) 2147483647], [], some [.i (-2147483648) 2147483647], ([], []))
set_option maxRecDepth 1000000 in
theorem vx_510 : ai_valid ai_Tb cx_510 := ai_chk_ok (n := 59) (D := [cx_509]) ai_TbK (ai_D1 vx_509 ai_D0) (by decide +kernel)
-- X10_status
def cx_511 : ai_C := (152, [.r 0], [], some [.i (-2147483648) 2147483647], ([], []))
set_option maxRecDepth 1000000 in
theorem vx_511 : ai_valid ai_Tb cx_511 := ai_chk_ok (n := 5) (D := []) ai_TbK ai_D0 (by decide +kernel)
