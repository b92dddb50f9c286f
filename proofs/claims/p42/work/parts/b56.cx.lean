-- contexts of the class, checked by the kernel
-- X9_isProper
def cx_447 : ai_C := (108, [.r 17], [(2, [.r 17, .i 0 40, .u, .u], [], (.v 1 40, .n 8000000000, .n 8000000000))], some [.i 0 1], ([], []))
set_option maxRecDepth 1000000 in
theorem vx_447 : ai_valid ai_Tb cx_447 := ai_chk_ok (n := 146) (D := []) ai_TbK ai_D0 (by decide +kernel)
-- X10_likeDigits
def cx_448 : ai_C := (162, [.r 0], [(20, [.r 0, .i 0 40, .i 0 41, .u], [], (.v 2 41, .n 8000000000, .n 8000000000)), (27, [.r 0, .i 1 40, .i 0 40, .i 0 3], [], (.v 2 41, .v 3 3, .n 8000000000))], some [.i 0 40], ([], []))
set_option maxRecDepth 1000000 in
theorem vx_448 : ai_valid ai_Tb cx_448 := ai_chk_ok (n := 39) (D := [cx_406]) ai_TbK (ai_D1 vx_406 ai_D0) (by decide +kernel)
-- X10_asks
def cx_449 : ai_C := (149, [.r 0, .i (-2147483648) 2147483647], [], some [.i (-1) 40], ([], []))
set_option maxRecDepth 1000000 in
theorem vx_449 : ai_valid ai_Tb cx_449 := ai_chk_ok (n := 27) (D := [cx_447, cx_448]) ai_TbK (ai_D1 vx_447 (ai_D1 vx_448 ai_D0)) (by decide +kernel)
-- X1_saveState
def cx_450 : ai_C := (28, [.r 80], [], none, ([], [81]))
set_option maxRecDepth 1000000 in
theorem vx_450 : ai_valid ai_Tb cx_450 := ai_chk_ok (n := 124) (D := []) ai_TbK ai_D0 (by decide +kernel)
-- X1_open
def cx_451 : ai_C := (20, [.r 80, .r 1, .r 107, .r 107, .i (-2147483648) 2147483647], [], none, ([(80, 3), (80, 4), (80, 5), (80, 6), (80, 12), (80, 13), (1089, 0), (1089, 1), (1089, 2), (1089, 3), (1090, 0), (1090, 1), (1090, 2), (1090, 3)], [81, 1084]))
set_option maxRecDepth 1000000 in
theorem vx_451 : ai_valid ai_Tb cx_451 := ai_chk_ok (n := 225) (D := [cx_450, cx_24]) ai_TbK (ai_D1 vx_450 (ai_D1 vx_24 ai_D0)) (by decide +kernel)
-- X2_signOfDifference
def cx_452 : ai_C := (48, [.r 1, .r 87, .r 88], [], some [.i (-1) 1], ([], []))
set_option maxRecDepth 1000000 in
theorem vx_452 : ai_valid ai_Tb cx_452 := ai_chk_ok (n := 37) (D := [cx_22]) ai_TbK (ai_D1 vx_22 ai_D0) (by decide +kernel)
-- X1_layRests
def cx_453 : ai_C := (26, [.r 80, .r 1], [], none, ([(80, 14), (1087, 0), (1087, 1), (1087, 2), (1087, 3), (1088, 0), (1088, 1), (1088, 2), (1088, 3), (1089, 0), (1089, 1), (1089, 2), (1089, 3)], []))
set_option maxRecDepth 1000000 in
theorem vx_453 : ai_valid ai_Tb cx_453 := ai_chk_ok (n := 302) (D := [cx_452]) ai_TbK (ai_D1 vx_452 ai_D0) (by decide +kernel)
-- X4_under
def cx_454 : ai_C := (73, [.r 2, .r 88, .i (-2147483648) 2147483647], [], some [.l (-9223372036854775808) 9223372036854775807], ([], []))
set_option maxRecDepth 1000000 in
theorem vx_454 : ai_valid ai_Tb cx_454 := ai_chk_ok (n := 25) (D := [cx_42]) ai_TbK (ai_D1 vx_42 ai_D0) (by decide +kernel)
-- X8_put
def cx_455 : ai_C := (93, [.r 89, .l (-9223372036854775808) 9223372036854775807, .l (-9223372036854775808) 9223372036854775807, .l (-9223372036854775808) 9223372036854775807, .l (-9223372036854775808) 9223372036854775807], [], none, ([(1089, 0), (1089, 1), (1089, 2), (1089, 3)], []))
set_option maxRecDepth 1000000 in
theorem vx_455 : ai_valid ai_Tb cx_455 := ai_chk_ok (n := 60) (D := [cx_12]) ai_TbK (ai_D1 vx_12 ai_D0) (by decide +kernel)
-- X2_divide
def cx_456 : ai_C := (52, [.r 1, .r 88, .r 87, .r 89], [], none, ([(1089, 0), (1089, 1), (1089, 2), (1089, 3)], [1003]))
set_option maxRecDepth 1000000 in
theorem vx_456 : ai_valid ai_Tb cx_456 := ai_chk_ok (n := 62) (D := [cx_41, cx_45, cx_46, cx_454, cx_455]) ai_TbK (ai_D1 vx_41 (ai_D1 vx_45 (ai_D1 vx_46 (ai_D1 vx_454 (ai_D1 vx_455 ai_D0))))) (by decide +kernel)
-- X8_put
def cx_457 : ai_C := (93, [.r 90, .l (-9223372036854775808) 9223372036854775807, .l (-9223372036854775808) 9223372036854775807, .l (-9223372036854775808) 9223372036854775807, .l (-9223372036854775808) 9223372036854775807], [], none, ([(1090, 0), (1090, 1), (1090, 2), (1090, 3)], []))
set_option maxRecDepth 1000000 in
theorem vx_457 : ai_valid ai_Tb cx_457 := ai_chk_ok (n := 60) (D := [cx_12]) ai_TbK (ai_D1 vx_12 ai_D0) (by decide +kernel)
-- X4_under
def cx_458 : ai_C := (73, [.r 2, .r 90, .i (-2147483648) 2147483647], [], some [.l (-9223372036854775808) 9223372036854775807], ([], []))
set_option maxRecDepth 1000000 in
theorem vx_458 : ai_valid ai_Tb cx_458 := ai_chk_ok (n := 25) (D := [cx_42]) ai_TbK (ai_D1 vx_42 ai_D0) (by decide +kernel)
-- X2_divide
def cx_459 : ai_C := (52, [.r 1, .r 90, .r 87, .r 90], [], none, ([(1090, 0), (1090, 1), (1090, 2), (1090, 3)], [1003]))
set_option maxRecDepth 1000000 in
theorem vx_459 : ai_valid ai_Tb cx_459 := ai_chk_ok (n := 62) (D := [cx_41, cx_45, cx_46, cx_458, cx_457]) ai_TbK (ai_D1 vx_41 (ai_D1 vx_45 (ai_D1 vx_46 (ai_D1 vx_458 (ai_D1 vx_457 ai_D0))))) (by decide +kernel)
-- X8_canBe
def cx_460 : ai_C := (99, [.r 89], [], some [.i 0 1], ([], []))
set_option maxRecDepth 1000000 in
theorem vx_460 : ai_valid ai_Tb cx_460 := ai_chk_ok (n := 59) (D := []) ai_TbK ai_D0 (by decide +kernel)
-- X8_canBe
def cx_461 : ai_C := (99, [.r 90], [], some [.i 0 1], ([], []))
set_option maxRecDepth 1000000 in
theorem vx_461 : ai_valid ai_Tb cx_461 := ai_chk_ok (n := 59) (D := []) ai_TbK ai_D0 (by decide +kernel)
-- X2_signLess
def cx_462 : ai_C := (47, [.r 1, .r 89, .l (-9223372036854775808) 9223372036854775807, .l (-9223372036854775808) 9223372036854775807], [], some [.i (-1) 1], ([], []))
set_option maxRecDepth 1000000 in
theorem vx_462 : ai_valid ai_Tb cx_462 := ai_chk_ok (n := 21) (D := [cx_22]) ai_TbK (ai_D1 vx_22 ai_D0) (by decide +kernel)
-- X2_floor
def cx_463 : ai_C := (49, [.r 1, .r 89], [(11, [.r 1, .r 89, .i (-2147483648) 2147483647, .i (-2147483648) 2147483647, .i 0 13, .u], [], (.v 4 13, .n 8000000000, .n 8000000000))], some [.i (-2147483648) 2147483647], ([], []))
set_option maxRecDepth 1000000 in
theorem vx_463 : ai_valid ai_Tb cx_463 := ai_chk_ok (n := 23) (D := [cx_462]) ai_TbK (ai_D1 vx_462 ai_D0) (by decide +kernel)
-- X2_signLess
def cx_464 : ai_C := (47, [.r 1, .r 90, .l (-9223372036854775808) 9223372036854775807, .l (-9223372036854775808) 9223372036854775807], [], some [.i (-1) 1], ([], []))
set_option maxRecDepth 1000000 in
theorem vx_464 : ai_valid ai_Tb cx_464 := ai_chk_ok (n := 21) (D := [cx_22]) ai_TbK (ai_D1 vx_22 ai_D0) (by decide +kernel)
-- X2_floor
def cx_465 : ai_C := (49, [.r 1, .r 90], [(11, [.r 1, .r 90, .i (-2147483648) 2147483647, .i (-2147483648) 2147483647, .i 0 13, .u], [], (.v 4 13, .n 8000000000, .n 8000000000))], some [.i (-2147483648) 2147483647], ([], []))
set_option maxRecDepth 1000000 in
theorem vx_465 : ai_valid ai_Tb cx_465 := ai_chk_ok (n := 23) (D := [cx_464]) ai_TbK (ai_D1 vx_464 ai_D0) (by decide +kernel)
-- X4_follow
def cx_466 : ai_C := (66, [.r 85, .i (-2147483648) 2147483647, .i (-2147483648) 2147483647, .i (-2147483648) 2147483647], [], none, ([], [1086]))
set_option maxRecDepth 1000000 in
theorem vx_466 : ai_valid ai_Tb cx_466 := ai_chk_ok (n := 178) (D := [cx_296, cx_295]) ai_TbK (ai_D1 vx_296 (ai_D1 vx_295 ai_D0)) (by decide +kernel)
-- X4_isBeyond
def cx_467 : ai_C := (69, [.r 85], [(2, [.r 85, .i 0 9], [], (.v 1 9, .n 8000000000, .n 8000000000))], some [.i 0 1], ([], []))
set_option maxRecDepth 1000000 in
theorem vx_467 : ai_valid ai_Tb cx_467 := ai_chk_ok (n := 14) (D := []) ai_TbK ai_D0 (by decide +kernel)
-- X1_prepare
def cx_468 : ai_C := (25, [.r 80, .r 1], [(17, [.r 80, .r 1], [], (.n 10, .n 0, .n 8000000000)), (34, [.r 80, .r 1], [(80, 4, 0, 59)], (.n 9, .n 0, .n 8000000000)), (47, [.r 80, .r 1], [(80, 4, 0, 59)], (.n 8, .n 0, .n 8000000000)), (63, [.r 80, .r 1], [(80, 4, 0, 59)], (.n 7, .n 0, .n 8000000000)), (74, [.r 80, .r 1], [(80, 4, 0, 59)], (.n 6, .n 0, .n 8000000000)), (90, [.r 80, .r 1], [(80, 4, 0, 59)], (.n 5, .n 0, .n 8000000000)), (113, [.r 80, .r 1], [(80, 4, 0, 59)], (.n 4, .n 0, .n 8000000000)), (137, [.r 80, .r 1], [(80, 4, 0, 59)], (.n 3, .n 0, .n 8000000000)), (158, [.r 80, .r 1], [(80, 4, 0, 59), (80, 12, (-2147483648), 99), (80, 13, (-2147483648), 99)], (.n 2, .n 0, .n 8000000000)), (169, [.r 80, .r 1], [(80, 4, 0, 59), (80, 12, (-2147483648), 99), (80, 13, (-2147483648), 99)], (.n 1, .n 0, .n 8000000000))], some [.i (-5) 0], ([(80, 12), (80, 13), (80, 14), (1087, 0), (1087, 1), (1087, 2), (1087, 3), (1088, 0), (1088, 1), (1088, 2), (1088, 3), (1089, 0), (1089, 1), (1089, 2), (1089, 3), (1090, 0), (1090, 1), (1090, 2), (1090, 3)], [1003, 1086]))
set_option maxRecDepth 1000000 in
theorem vx_468 : ai_valid ai_Tb cx_468 := ai_chk_ok (n := 230) (D := [cx_453, cx_463, cx_465, cx_456, cx_459, cx_466, cx_467, cx_457, cx_460, cx_461]) ai_TbK (ai_D1 vx_453 (ai_D1 vx_463 (ai_D1 vx_465 (ai_D1 vx_456 (ai_D1 vx_459 (ai_D1 vx_466 (ai_D1 vx_467 (ai_D1 vx_457 (ai_D1 vx_460 (ai_D1 vx_461 ai_D0)))))))))) (by decide +kernel)
-- X1_isLikeLast
def cx_469 : ai_C := (30, [.r 80, .i (-2147483648) 2147483647], [(2, [.r 80, .i (-2147483648) 2147483647, .i 0 10], [], (.v 2 10, .n 8000000000, .n 8000000000))], some [.i 0 1], ([], []))
set_option maxRecDepth 1000000 in
theorem vx_469 : ai_valid ai_Tb cx_469 := ai_chk_ok (n := 69) (D := []) ai_TbK ai_D0 (by decide +kernel)
-- X1_findPeriod
def cx_470 : ai_C := (29, [.r 80], [], none, ([(80, 5), (80, 6)], []))
set_option maxRecDepth 1000000 in
theorem vx_470 : ai_valid ai_Tb cx_470 := ai_chk_ok (n := 670) (D := [cx_469]) ai_TbK (ai_D1 vx_469 ai_D0) (by decide +kernel)
-- X1_take
def cx_471 : ai_C := (27, [.r 80], [], none, ([(80, 4), (80, 5), (80, 6)], [81, 82, 1084]))
set_option maxRecDepth 1000000 in
theorem vx_471 : ai_valid ai_Tb cx_471 := ai_chk_ok (n := 45) (D := [cx_450, cx_470]) ai_TbK (ai_D1 vx_450 (ai_D1 vx_470 ai_D0)) (by decide +kernel)
-- X1_runOut
def cx_472 : ai_C := (31, [.r 80, .r 1], [(2, [.r 80, .r 1, .i 0 61], [], (.v 2 61, .n 8000000000, .n 8000000000))], some [.i 0 3], ([(80, 4), (80, 5), (80, 6), (80, 12), (80, 13), (80, 14), (1087, 0), (1087, 1), (1087, 2), (1087, 3), (1088, 0), (1088, 1), (1088, 2), (1088, 3), (1089, 0), (1089, 1), (1089, 2), (1089, 3), (1090, 0), (1090, 1), (1090, 2), (1090, 3)], [81, 82, 1003, 1084, 1086]))
set_option maxRecDepth 1000000 in
theorem vx_472 : ai_valid ai_Tb cx_472 := ai_chk_ok (n := 251) (D := [cx_468, cx_471]) ai_TbK (ai_D1 vx_468 (ai_D1 vx_471 ai_D0)) (by decide +kernel)
-- X1_open
def cx_473 : ai_C := (20, [.r 80, .r 1, .r 107, .r 106, .i (-2147483648) 2147483647], [], none, ([(80, 3), (80, 4), (80, 5), (80, 6), (80, 12), (80, 13), (1089, 0), (1089, 1), (1089, 2), (1089, 3), (1090, 0), (1090, 1), (1090, 2), (1090, 3)], [81, 1084]))
set_option maxRecDepth 1000000 in
theorem vx_473 : ai_valid ai_Tb cx_473 := ai_chk_ok (n := 225) (D := [cx_450, cx_24, cx_26]) ai_TbK (ai_D1 vx_450 (ai_D1 vx_24 (ai_D1 vx_26 ai_D0))) (by decide +kernel)
-- X1_open
def cx_474 : ai_C := (20, [.r 80, .r 1, .r 107, .r 105, .i (-2147483648) 2147483647], [], none, ([(80, 3), (80, 4), (80, 5), (80, 6), (80, 12), (80, 13), (1089, 0), (1089, 1), (1089, 2), (1089, 3), (1090, 0), (1090, 1), (1090, 2), (1090, 3)], [81, 1084]))
set_option maxRecDepth 1000000 in
theorem vx_474 : ai_valid ai_Tb cx_474 := ai_chk_ok (n := 225) (D := [cx_450, cx_24, cx_28]) ai_TbK (ai_D1 vx_450 (ai_D1 vx_24 (ai_D1 vx_28 ai_D0))) (by decide +kernel)
-- X1_open
def cx_475 : ai_C := (20, [.r 80, .r 1, .r 107, .r 104, .i (-2147483648) 2147483647], [], none, ([(80, 3), (80, 4), (80, 5), (80, 6), (80, 12), (80, 13), (1089, 0), (1089, 1), (1089, 2), (1089, 3), (1090, 0), (1090, 1), (1090, 2), (1090, 3)], [81, 1084]))
set_option maxRecDepth 1000000 in
theorem vx_475 : ai_valid ai_Tb cx_475 := ai_chk_ok (n := 225) (D := [cx_450, cx_24, cx_30]) ai_TbK (ai_D1 vx_450 (ai_D1 vx_24 (ai_D1 vx_30 ai_D0))) (by decide +kernel)
-- X1_open
def cx_476 : ai_C := (20, [.r 80, .r 1, .r 107, .r 103, .i (-2147483648) 2147483647], [], none, ([(80, 3), (80, 4), (80, 5), (80, 6), (80, 12), (80, 13), (1089, 0), (1089, 1), (1089, 2), (1089, 3), (1090, 0), (1090, 1), (1090, 2), (1090, 3)], [81, 1084]))
set_option maxRecDepth 1000000 in
theorem vx_476 : ai_valid ai_Tb cx_476 := ai_chk_ok (n := 225) (D := [cx_450, cx_24, cx_32]) ai_TbK (ai_D1 vx_450 (ai_D1 vx_24 (ai_D1 vx_32 ai_D0))) (by decide +kernel)
-- X1_open
def cx_477 : ai_C := (20, [.r 80, .r 1, .r 107, .r 102, .i (-2147483648) 2147483647], [], none, ([(80, 3), (80, 4), (80, 5), (80, 6), (80, 12), (80, 13), (1089, 0), (1089, 1), (1089, 2), (1089, 3), (1090, 0), (1090, 1), (1090, 2), (1090, 3)], [81, 1084]))
set_option maxRecDepth 1000000 in
theorem vx_477 : ai_valid ai_Tb cx_477 := ai_chk_ok (n := 225) (D := [cx_450, cx_24, cx_34]) ai_TbK (ai_D1 vx_450 (ai_D1 vx_24 (ai_D1 vx_34 ai_D0))) (by decide +kernel)
-- X1_open
def cx_478 : ai_C := (20, [.r 80, .r 1, .r 106, .r 107, .i (-2147483648) 2147483647], [], none, ([(80, 3), (80, 4), (80, 5), (80, 6), (80, 12), (80, 13), (1089, 0), (1089, 1), (1089, 2), (1089, 3), (1090, 0), (1090, 1), (1090, 2), (1090, 3)], [81, 1084]))
set_option maxRecDepth 1000000 in
theorem vx_478 : ai_valid ai_Tb cx_478 := ai_chk_ok (n := 225) (D := [cx_450, cx_26, cx_24]) ai_TbK (ai_D1 vx_450 (ai_D1 vx_26 (ai_D1 vx_24 ai_D0))) (by decide +kernel)
-- X1_open
def cx_479 : ai_C := (20, [.r 80, .r 1, .r 106, .r 106, .i (-2147483648) 2147483647], [], none, ([(80, 3), (80, 4), (80, 5), (80, 6), (80, 12), (80, 13), (1089, 0), (1089, 1), (1089, 2), (1089, 3), (1090, 0), (1090, 1), (1090, 2), (1090, 3)], [81, 1084]))
set_option maxRecDepth 1000000 in
theorem vx_479 : ai_valid ai_Tb cx_479 := ai_chk_ok (n := 225) (D := [cx_450, cx_26]) ai_TbK (ai_D1 vx_450 (ai_D1 vx_26 ai_D0)) (by decide +kernel)
-- X1_open
def cx_480 : ai_C := (20, [.r 80, .r 1, .r 106, .r 105, .i (-2147483648) 2147483647], [], none, ([(80, 3), (80, 4), (80, 5), (80, 6), (80, 12), (80, 13), (1089, 0), (1089, 1), (1089, 2), (1089, 3), (1090, 0), (1090, 1), (1090, 2), (1090, 3)], [81, 1084]))
set_option maxRecDepth 1000000 in
theorem vx_480 : ai_valid ai_Tb cx_480 := ai_chk_ok (n := 225) (D := [cx_450, cx_26, cx_28]) ai_TbK (ai_D1 vx_450 (ai_D1 vx_26 (ai_D1 vx_28 ai_D0))) (by decide +kernel)
-- X1_open
def cx_481 : ai_C := (20, [.r 80, .r 1, .r 106, .r 104, .i (-2147483648) 2147483647], [], none, ([(80, 3), (80, 4), (80, 5), (80, 6), (80, 12), (80, 13), (1089, 0), (1089, 1), (1089, 2), (1089, 3), (1090, 0), (1090, 1), (1090, 2), (1090, 3)], [81, 1084]))
set_option maxRecDepth 1000000 in
theorem vx_481 : ai_valid ai_Tb cx_481 := ai_chk_ok (n := 225) (D := [cx_450, cx_26, cx_30]) ai_TbK (ai_D1 vx_450 (ai_D1 vx_26 (ai_D1 vx_30 ai_D0))) (by decide +kernel)
-- X1_open
def cx_482 : ai_C := (20, [.r 80, .r 1, .r 106, .r 103, .i (-2147483648) 2147483647], [], none, ([(80, 3), (80, 4), (80, 5), (80, 6), (80, 12), (80, 13), (1089, 0), (1089, 1), (1089, 2), (1089, 3), (1090, 0), (1090, 1), (1090, 2), (1090, 3)], [81, 1084]))
set_option maxRecDepth 1000000 in
theorem vx_482 : ai_valid ai_Tb cx_482 := ai_chk_ok (n := 225) (D := [cx_450, cx_26, cx_32]) ai_TbK (ai_D1 vx_450 (ai_D1 vx_26 (ai_D1 vx_32 ai_D0))) (by decide +kernel)
-- X1_open
def cx_483 : ai_C := (20, [.r 80, .r 1, .r 106, .r 102, .i (-2147483648) 2147483647], [], none, ([(80, 3), (80, 4), (80, 5), (80, 6), (80, 12), (80, 13), (1089, 0), (1089, 1), (1089, 2), (1089, 3), (1090, 0), (1090, 1), (1090, 2), (1090, 3)], [81, 1084]))
set_option maxRecDepth 1000000 in
theorem vx_483 : ai_valid ai_Tb cx_483 := ai_chk_ok (n := 225) (D := [cx_450, cx_26, cx_34]) ai_TbK (ai_D1 vx_450 (ai_D1 vx_26 (ai_D1 vx_34 ai_D0))) (by decide +kernel)
-- X1_open
def cx_484 : ai_C := (20, [.r 80, .r 1, .r 105, .r 107, .i (-2147483648) 2147483647], [], none, ([(80, 3), (80, 4), (80, 5), (80, 6), (80, 12), (80, 13), (1089, 0), (1089, 1), (1089, 2), (1089, 3), (1090, 0), (1090, 1), (1090, 2), (1090, 3)], [81, 1084]))
set_option maxRecDepth 1000000 in
theorem vx_484 : ai_valid ai_Tb cx_484 := ai_chk_ok (n := 225) (D := [cx_450, cx_28, cx_24]) ai_TbK (ai_D1 vx_450 (ai_D1 vx_28 (ai_D1 vx_24 ai_D0))) (by decide +kernel)
-- X1_open
def cx_485 : ai_C := (20, [.r 80, .r 1, .r 105, .r 106, .i (-2147483648) 2147483647], [], none, ([(80, 3), (80, 4), (80, 5), (80, 6), (80, 12), (80, 13), (1089, 0), (1089, 1), (1089, 2), (1089, 3), (1090, 0), (1090, 1), (1090, 2), (1090, 3)], [81, 1084]))
set_option maxRecDepth 1000000 in
theorem vx_485 : ai_valid ai_Tb cx_485 := ai_chk_ok (n := 225) (D := [cx_450, cx_28, cx_26]) ai_TbK (ai_D1 vx_450 (ai_D1 vx_28 (ai_D1 vx_26 ai_D0))) (by decide +kernel)
-- X1_open
def cx_486 : ai_C := (20, [.r 80, .r 1, .r 105, .r 105, .i (-2147483648) 2147483647], [], none, ([(80, 3), (80, 4), (80, 5), (80, 6), (80, 12), (80, 13), (1089, 0), (1089, 1), (1089, 2), (1089, 3), (1090, 0), (1090, 1), (1090, 2), (1090, 3)], [81, 1084]))
set_option maxRecDepth 1000000 in
theorem vx_486 : ai_valid ai_Tb cx_486 := ai_chk_ok (n := 225) (D := [cx_450, cx_28]) ai_TbK (ai_D1 vx_450 (ai_D1 vx_28 ai_D0)) (by decide +kernel)
-- X1_open
def cx_487 : ai_C := (20, [.r 80, .r 1, .r 105, .r 104, .i (-2147483648) 2147483647], [], none, ([(80, 3), (80, 4), (80, 5), (80, 6), (80, 12), (80, 13), (1089, 0), (1089, 1), (1089, 2), (1089, 3), (1090, 0), (1090, 1), (1090, 2), (1090, 3)], [81, 1084]))
set_option maxRecDepth 1000000 in
theorem vx_487 : ai_valid ai_Tb cx_487 := ai_chk_ok (n := 225) (D := [cx_450, cx_28, cx_30]) ai_TbK (ai_D1 vx_450 (ai_D1 vx_28 (ai_D1 vx_30 ai_D0))) (by decide +kernel)
-- X1_open
def cx_488 : ai_C := (20, [.r 80, .r 1, .r 105, .r 103, .i (-2147483648) 2147483647], [], none, ([(80, 3), (80, 4), (80, 5), (80, 6), (80, 12), (80, 13), (1089, 0), (1089, 1), (1089, 2), (1089, 3), (1090, 0), (1090, 1), (1090, 2), (1090, 3)], [81, 1084]))
set_option maxRecDepth 1000000 in
theorem vx_488 : ai_valid ai_Tb cx_488 := ai_chk_ok (n := 225) (D := [cx_450, cx_28, cx_32]) ai_TbK (ai_D1 vx_450 (ai_D1 vx_28 (ai_D1 vx_32 ai_D0))) (by decide +kernel)
-- X1_open
def cx_489 : ai_C := (20, [.r 80, .r 1, .r 105, .r 102, .i (-2147483648) 2147483647], [], none, ([(80, 3), (80, 4), (80, 5), (80, 6), (80, 12), (80, 13), (1089, 0), (1089, 1), (1089, 2), (1089, 3), (1090, 0), (1090, 1), (1090, 2), (1090, 3)], [81, 1084]))
set_option maxRecDepth 1000000 in
theorem vx_489 : ai_valid ai_Tb cx_489 := ai_chk_ok (n := 225) (D := [cx_450, cx_28, cx_34]) ai_TbK (ai_D1 vx_450 (ai_D1 vx_28 (ai_D1 vx_34 ai_D0))) (by decide +kernel)
-- X1_open
def cx_490 : ai_C := (20, [.r 80, .r 1, .r 104, .r 107, .i (-2147483648) 2147483647], [], none, ([(80, 3), (80, 4), (80, 5), (80, 6), (80, 12), (80, 13), (1089, 0), (1089, 1), (1089, 2), (1089, 3), (1090, 0), (1090, 1), (1090, 2), (1090, 3)], [81, 1084]))
set_option maxRecDepth 1000000 in
theorem vx_490 : ai_valid ai_Tb cx_490 := ai_chk_ok (n := 225) (D := [cx_450, cx_30, cx_24]) ai_TbK (ai_D1 vx_450 (ai_D1 vx_30 (ai_D1 vx_24 ai_D0))) (by decide +kernel)
-- X1_open
def cx_491 : ai_C := (20, [.r 80, .r 1, .r 104, .r 106, .i (-2147483648) 2147483647], [], none, ([(80, 3), (80, 4), (80, 5), (80, 6), (80, 12), (80, 13), (1089, 0), (1089, 1), (1089, 2), (1089, 3), (1090, 0), (1090, 1), (1090, 2), (1090, 3)], [81, 1084]))
set_option maxRecDepth 1000000 in
theorem vx_491 : ai_valid ai_Tb cx_491 := ai_chk_ok (n := 225) (D := [cx_450, cx_30, cx_26]) ai_TbK (ai_D1 vx_450 (ai_D1 vx_30 (ai_D1 vx_26 ai_D0))) (by decide +kernel)
-- X1_open
def cx_492 : ai_C := (20, [.r 80, .r 1, .r 104, .r 105, .i (-2147483648) 2147483647], [], none, ([(80, 3), (80, 4), (80, 5), (80, 6), (80, 12), (80, 13), (1089, 0), (1089, 1), (1089, 2), (1089, 3), (1090, 0), (1090, 1), (1090, 2), (1090, 3)], [81, 1084]))
set_option maxRecDepth 1000000 in
theorem vx_492 : ai_valid ai_Tb cx_492 := ai_chk_ok (n := 225) (D := [cx_450, cx_30, cx_28]) ai_TbK (ai_D1 vx_450 (ai_D1 vx_30 (ai_D1 vx_28 ai_D0))) (by decide +kernel)
-- X1_open
def cx_493 : ai_C := (20, [.r 80, .r 1, .r 104, .r 104, .i (-2147483648) 2147483647], [], none, ([(80, 3), (80, 4), (80, 5), (80, 6), (80, 12), (80, 13), (1089, 0), (1089, 1), (1089, 2), (1089, 3), (1090, 0), (1090, 1), (1090, 2), (1090, 3)], [81, 1084]))
set_option maxRecDepth 1000000 in
theorem vx_493 : ai_valid ai_Tb cx_493 := ai_chk_ok (n := 225) (D := [cx_450, cx_30]) ai_TbK (ai_D1 vx_450 (ai_D1 vx_30 ai_D0)) (by decide +kernel)
-- X1_open
def cx_494 : ai_C := (20, [.r 80, .r 1, .r 104, .r 103, .i (-2147483648) 2147483647], [], none, ([(80, 3), (80, 4), (80, 5), (80, 6), (80, 12), (80, 13), (1089, 0), (1089, 1), (1089, 2), (1089, 3), (1090, 0), (1090, 1), (1090, 2), (1090, 3)], [81, 1084]))
set_option maxRecDepth 1000000 in
theorem vx_494 : ai_valid ai_Tb cx_494 := ai_chk_ok (n := 225) (D := [cx_450, cx_30, cx_32]) ai_TbK (ai_D1 vx_450 (ai_D1 vx_30 (ai_D1 vx_32 ai_D0))) (by decide +kernel)
-- X1_open
def cx_495 : ai_C := (20, [.r 80, .r 1, .r 104, .r 102, .i (-2147483648) 2147483647], [], none, ([(80, 3), (80, 4), (80, 5), (80, 6), (80, 12), (80, 13), (1089, 0), (1089, 1), (1089, 2), (1089, 3), (1090, 0), (1090, 1), (1090, 2), (1090, 3)], [81, 1084]))
set_option maxRecDepth 1000000 in
theorem vx_495 : ai_valid ai_Tb cx_495 := ai_chk_ok (n := 225) (D := [cx_450, cx_30, cx_34]) ai_TbK (ai_D1 vx_450 (ai_D1 vx_30 (ai_D1 vx_34 ai_D0))) (by decide +kernel)
-- X1_open
def cx_496 : ai_C := (20, [.r 80, .r 1, .r 103, .r 107, .i (-2147483648) 2147483647], [], none, ([(80, 3), (80, 4), (80, 5), (80, 6), (80, 12), (80, 13), (1089, 0), (1089, 1), (1089, 2), (1089, 3), (1090, 0), (1090, 1), (1090, 2), (1090, 3)], [81, 1084]))
set_option maxRecDepth 1000000 in
theorem vx_496 : ai_valid ai_Tb cx_496 := ai_chk_ok (n := 225) (D := [cx_450, cx_32, cx_24]) ai_TbK (ai_D1 vx_450 (ai_D1 vx_32 (ai_D1 vx_24 ai_D0))) (by decide +kernel)
-- X1_open
def cx_497 : ai_C := (20, [.r 80, .r 1, .r 103, .r 106, .i (-2147483648) 2147483647], [], none, ([(80, 3), (80, 4), (80, 5), (80, 6), (80, 12), (80, 13), (1089, 0), (1089, 1), (1089, 2), (1089, 3), (1090, 0), (1090, 1), (1090, 2), (1090, 3)], [81, 1084]))
set_option maxRecDepth 1000000 in
theorem vx_497 : ai_valid ai_Tb cx_497 := ai_chk_ok (n := 225) (D := [cx_450, cx_32, cx_26]) ai_TbK (ai_D1 vx_450 (ai_D1 vx_32 (ai_D1 vx_26 ai_D0))) (by decide +kernel)
-- X1_open
def cx_498 : ai_C := (20, [.r 80, .r 1, .r 103, .r 105, .i (-2147483648) 2147483647], [], none, ([(80, 3), (80, 4), (80, 5), (80, 6), (80, 12), (80, 13), (1089, 0), (1089, 1), (1089, 2), (1089, 3), (1090, 0), (1090, 1), (1090, 2), (1090, 3)], [81, 1084]))
set_option maxRecDepth 1000000 in
theorem vx_498 : ai_valid ai_Tb cx_498 := ai_chk_ok (n := 225) (D := [cx_450, cx_32, cx_28]) ai_TbK (ai_D1 vx_450 (ai_D1 vx_32 (ai_D1 vx_28 ai_D0))) (by decide +kernel)
-- X1_open
def cx_499 : ai_C := (20, [.r 80, .r 1, .r 103, .r 104, .i (-2147483648) 2147483647], [], none, ([(80, 3), (80, 4), (80, 5), (80, 6), (80, 12), (80, 13), (1089, 0), (1089, 1), (1089, 2), (1089, 3), (1090, 0), (1090, 1), (1090, 2), (1090, 3)], [81, 1084]))
set_option maxRecDepth 1000000 in
theorem vx_499 : ai_valid ai_Tb cx_499 := ai_chk_ok (n := 225) (D := [cx_450, cx_32, cx_30]) ai_TbK (ai_D1 vx_450 (ai_D1 vx_32 (ai_D1 vx_30 ai_D0))) (by decide +kernel)
-- X1_open
def cx_500 : ai_C := (20, [.r 80, .r 1, .r 103, .r 103, .i (-2147483648) 2147483647], [], none, ([(80, 3), (80, 4), (80, 5), (80, 6), (80, 12), (80, 13), (1089, 0), (1089, 1), (1089, 2), (1089, 3), (1090, 0), (1090, 1), (1090, 2), (1090, 3)], [81, 1084]))
set_option maxRecDepth 1000000 in
theorem vx_500 : ai_valid ai_Tb cx_500 := ai_chk_ok (n := 225) (D := [cx_450, cx_32]) ai_TbK (ai_D1 vx_450 (ai_D1 vx_32 ai_D0)) (by decide +kernel)
-- X1_open
def cx_501 : ai_C := (20, [.r 80, .r 1, .r 103, .r 102, .i (-2147483648) 2147483647], [], none, ([(80, 3), (80, 4), (80, 5), (80, 6), (80, 12), (80, 13), (1089, 0), (1089, 1), (1089, 2), (1089, 3), (1090, 0), (1090, 1), (1090, 2), (1090, 3)], [81, 1084]))
set_option maxRecDepth 1000000 in
theorem vx_501 : ai_valid ai_Tb cx_501 := ai_chk_ok (n := 225) (D := [cx_450, cx_32, cx_34]) ai_TbK (ai_D1 vx_450 (ai_D1 vx_32 (ai_D1 vx_34 ai_D0))) (by decide +kernel)
-- X1_open
def cx_502 : ai_C := (20, [.r 80, .r 1, .r 102, .r 107, .i (-2147483648) 2147483647], [], none, ([(80, 3), (80, 4), (80, 5), (80, 6), (80, 12), (80, 13), (1089, 0), (1089, 1), (1089, 2), (1089, 3), (1090, 0), (1090, 1), (1090, 2), (1090, 3)], [81, 1084]))
set_option maxRecDepth 1000000 in
theorem vx_502 : ai_valid ai_Tb cx_502 := ai_chk_ok (n := 225) (D := [cx_450, cx_34, cx_24]) ai_TbK (ai_D1 vx_450 (ai_D1 vx_34 (ai_D1 vx_24 ai_D0))) (by decide +kernel)
-- X1_open
def cx_503 : ai_C := (20, [.r 80, .r 1, .r 102, .r 106, .i (-2147483648) 2147483647], [], none, ([(80, 3), (80, 4), (80, 5), (80, 6), (80, 12), (80, 13), (1089, 0), (1089, 1), (1089, 2), (1089, 3), (1090, 0), (1090, 1), (1090, 2), (1090, 3)], [81, 1084]))
set_option maxRecDepth 1000000 in
theorem vx_503 : ai_valid ai_Tb cx_503 := ai_chk_ok (n := 225) (D := [cx_450, cx_34, cx_26]) ai_TbK (ai_D1 vx_450 (ai_D1 vx_34 (ai_D1 vx_26 ai_D0))) (by decide +kernel)
-- X1_open
def cx_504 : ai_C := (20, [.r 80, .r 1, .r 102, .r 105, .i (-2147483648) 2147483647], [], none, ([(80, 3), (80, 4), (80, 5), (80, 6), (80, 12), (80, 13), (1089, 0), (1089, 1), (1089, 2), (1089, 3), (1090, 0), (1090, 1), (1090, 2), (1090, 3)], [81, 1084]))
set_option maxRecDepth 1000000 in
theorem vx_504 : ai_valid ai_Tb cx_504 := ai_chk_ok (n := 225) (D := [cx_450, cx_34, cx_28]) ai_TbK (ai_D1 vx_450 (ai_D1 vx_34 (ai_D1 vx_28 ai_D0))) (by decide +kernel)
-- X1_open
def cx_505 : ai_C := (20, [.r 80, .r 1, .r 102, .r 104, .i (-2147483648) 2147483647], [], none, ([(80, 3), (80, 4), (80, 5), (80, 6), (80, 12), (80, 13), (1089, 0), (1089, 1), (1089, 2), (1089, 3), (1090, 0), (1090, 1), (1090, 2), (1090, 3)], [81, 1084]))
set_option maxRecDepth 1000000 in
theorem vx_505 : ai_valid ai_Tb cx_505 := ai_chk_ok (n := 225) (D := [cx_450, cx_34, cx_30]) ai_TbK (ai_D1 vx_450 (ai_D1 vx_34 (ai_D1 vx_30 ai_D0))) (by decide +kernel)
