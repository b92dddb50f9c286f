noncomputable section
-- PART b56.cx
-- contexts of the class, checked by the kernel
-- X1_thirdOf
def cx_2507 : ai_C := (36, [.r 6, .i (-2147483648) 2147483647, .i (-2147483648) 2147483647], [], some [.i (-2147483648) 2147483647], ([], []))
set_option maxRecDepth 1000000 in
theorem vx_2507 : ai_valid ai_Tb cx_2507 := ai_chkH_ok (n := 71) (D := [cx_2505]) ai_TbK (ai_D1 vx_2505 ai_D0) (by decide +kernel)
-- X10_leastRelation
def cx_2508 : ai_C := (161, [.r 0, .i 1 9, .i 0 2], [(15, [.r 0, .i 1 9, .i 0 2, .i (-2147483648) 9, .i 1 28, .i (-9) 18, .u, .u, .u], [], (.v 5 18, .n 8000000000, .n 8000000000)), (25, [.r 0, .i 1 9, .i 0 2, .i (-2147483648) 9, .i 1 28, .i (-9) 9, .i (-9) 18, .u, .u], [], (.v 5 18, .v 6 18, .n 8000000000))], some [.i (-2147483648) 9], ([], []))
set_option maxRecDepth 1000000 in
theorem vx_2508 : ai_valid ai_Tb cx_2508 := ai_chkH_ok (n := 69) (D := [cx_2507]) ai_TbK (ai_D1 vx_2507 ai_D0) (by decide +kernel)
-- X10_relation
def cx_2509 : ai_C := (146, [.r 0, .i (-2147483648) 2147483647, .i (-2147483648) 2147483647], [], some [.i (-2147483648) 9], ([], []))
set_option maxRecDepth 1000000 in
theorem vx_2509 : ai_valid ai_Tb cx_2509 := ai_chkH_ok (n := 21) (D := [cx_2314, cx_2508]) ai_TbK (ai_D1 vx_2314 (ai_D1 vx_2508 ai_D0)) (by decide +kernel)
-- X10_word
def cx_2510 : ai_C := (147, [.r 0, .i (-2147483648) 2147483647, .i (-2147483648) 2147483647], [], some [.i (-128) 127], ([], []))
set_option maxRecDepth 1000000 in
theorem vx_2510 : ai_valid ai_Tb cx_2510 := ai_chkH_ok (n := 19) (D := [cx_2369]) ai_TbK (ai_D1 vx_2369 ai_D0) (by decide +kernel)
-- X10_spelt
def cx_2511 : ai_C := (148, [.r 0, .i (-2147483648) 2147483647, .i (-2147483648) 2147483647], [], some [.l (-9223372036854775808) 9223372036854775807], ([], [1096]))
set_option maxRecDepth 1000000 in
theorem vx_2511 : ai_valid ai_Tb cx_2511 := ai_chkH_ok (n := 40) (D := [cx_2376, cx_2371]) ai_TbK (ai_D1 vx_2376 (ai_D1 vx_2371 ai_D0)) (by decide +kernel)
-- X9_isProper
def cx_2512 : ai_C := (108, [.r 17], [(2, [.r 17, .i 0 40, .u, .u], [], (.v 1 40, .n 8000000000, .n 8000000000))], some [.i 0 1], ([], []))
set_option maxRecDepth 1000000 in
theorem vx_2512 : ai_valid ai_Tb cx_2512 := ai_chkH_ok (n := 51) (D := [cx_2369]) ai_TbK (ai_D1 vx_2369 ai_D0) (by decide +kernel)
-- X10_likeDigits
def cx_2513 : ai_C := (162, [.r 0], [(20, [.r 0, .i 0 40, .i 0 41, .u], [], (.v 2 41, .n 8000000000, .n 8000000000)), (27, [.r 0, .i 1 40, .i 0 40, .i 0 3], [], (.v 2 41, .v 3 3, .n 8000000000))], some [.i 0 40], ([], []))
set_option maxRecDepth 1000000 in
theorem vx_2513 : ai_valid ai_Tb cx_2513 := ai_chkH_ok (n := 20) (D := [cx_2468, cx_2369]) ai_TbK (ai_D1 vx_2468 (ai_D1 vx_2369 ai_D0)) (by decide +kernel)
-- X10_asks
def cx_2514 : ai_C := (149, [.r 0, .i (-2147483648) 2147483647], [], some [.i (-1) 40], ([], []))
set_option maxRecDepth 1000000 in
theorem vx_2514 : ai_valid ai_Tb cx_2514 := ai_chkH_ok (n := 20) (D := [cx_2314, cx_2512, cx_2513]) ai_TbK (ai_D1 vx_2314 (ai_D1 vx_2512 (ai_D1 vx_2513 ai_D0))) (by decide +kernel)
-- X1_close
def cx_2515 : ai_C := (21, [.r 80], [], none, ([(80, 3), (80, 4), (80, 5), (80, 6)], []))
set_option maxRecDepth 1000000 in
theorem vx_2515 : ai_valid ai_Tb cx_2515 := ai_chkH_ok (n := 14) (D := []) ai_TbK ai_D0 (by decide +kernel)
-- X8_copy
def cx_2516 : ai_C := (95, [.r 89, .r 107], [], none, ([(1089, 0), (1089, 1), (1089, 2), (1089, 3)], []))
set_option maxRecDepth 1000000 in
theorem vx_2516 : ai_valid ai_Tb cx_2516 := ai_chkH_ok (n := 18) (D := []) ai_TbK ai_D0 (by decide +kernel)
-- X8_copy
def cx_2517 : ai_C := (95, [.r 90, .r 107], [], none, ([(1090, 0), (1090, 1), (1090, 2), (1090, 3)], []))
set_option maxRecDepth 1000000 in
theorem vx_2517 : ai_valid ai_Tb cx_2517 := ai_chkH_ok (n := 18) (D := []) ai_TbK ai_D0 (by decide +kernel)
-- X1_saveState
def cx_2518 : ai_C := (28, [.r 80], [], none, ([], [81]))
set_option maxRecDepth 1000000 in
theorem vx_2518 : ai_valid ai_Tb cx_2518 := ai_chkH_ok (n := 124) (D := []) ai_TbK ai_D0 (by decide +kernel)
-- X4_layRow
def cx_2519 : ai_C := (63, [.r 83, .i (-2147483648) 2147483647, .l (-9223372036854775808) 9223372036854775807, .l (-9223372036854775808) 9223372036854775807, .l (-9223372036854775808) 9223372036854775807], [], none, ([], [1084]))
set_option maxRecDepth 1000000 in
theorem vx_2519 : ai_valid ai_Tb cx_2519 := ai_chkH_ok (n := 44) (D := []) ai_TbK ai_D0 (by decide +kernel)
-- X4_layOne
def cx_2520 : ai_C := (64, [.r 83], [], none, ([], [1084]))
set_option maxRecDepth 1000000 in
theorem vx_2520 : ai_valid ai_Tb cx_2520 := ai_chkH_ok (n := 20) (D := [cx_2519]) ai_TbK (ai_D1 vx_2519 ai_D0) (by decide +kernel)
-- X1_open
def cx_2521 : ai_C := (20, [.r 80, .r 1, .r 107, .r 107, .i (-2147483648) 2147483647], [], none, ([(80, 3), (80, 4), (80, 5), (80, 6), (80, 12), (80, 13), (1089, 0), (1089, 1), (1089, 2), (1089, 3), (1090, 0), (1090, 1), (1090, 2), (1090, 3)], [81, 1084]))
set_option maxRecDepth 1000000 in
theorem vx_2521 : ai_valid ai_Tb cx_2521 := ai_chkH_ok (n := 30) (D := [cx_2515, cx_2518, cx_2027, cx_2520, cx_2516, cx_2517]) ai_TbK (ai_D1 vx_2515 (ai_D1 vx_2518 (ai_D1 vx_2027 (ai_D1 vx_2520 (ai_D1 vx_2516 (ai_D1 vx_2517 ai_D0)))))) (by decide +kernel)
-- X8_copy
def cx_2522 : ai_C := (95, [.r 90, .r 106], [], none, ([(1090, 0), (1090, 1), (1090, 2), (1090, 3)], []))
set_option maxRecDepth 1000000 in
theorem vx_2522 : ai_valid ai_Tb cx_2522 := ai_chkH_ok (n := 18) (D := []) ai_TbK ai_D0 (by decide +kernel)
-- X1_open
def cx_2523 : ai_C := (20, [.r 80, .r 1, .r 107, .r 106, .i (-2147483648) 2147483647], [], none, ([(80, 3), (80, 4), (80, 5), (80, 6), (80, 12), (80, 13), (1089, 0), (1089, 1), (1089, 2), (1089, 3), (1090, 0), (1090, 1), (1090, 2), (1090, 3)], [81, 1084]))
set_option maxRecDepth 1000000 in
theorem vx_2523 : ai_valid ai_Tb cx_2523 := ai_chkH_ok (n := 30) (D := [cx_2515, cx_2518, cx_2027, cx_2029, cx_2520, cx_2516, cx_2522]) ai_TbK (ai_D1 vx_2515 (ai_D1 vx_2518 (ai_D1 vx_2027 (ai_D1 vx_2029 (ai_D1 vx_2520 (ai_D1 vx_2516 (ai_D1 vx_2522 ai_D0))))))) (by decide +kernel)
-- X8_copy
def cx_2524 : ai_C := (95, [.r 90, .r 105], [], none, ([(1090, 0), (1090, 1), (1090, 2), (1090, 3)], []))
set_option maxRecDepth 1000000 in
theorem vx_2524 : ai_valid ai_Tb cx_2524 := ai_chkH_ok (n := 18) (D := []) ai_TbK ai_D0 (by decide +kernel)
-- X1_open
def cx_2525 : ai_C := (20, [.r 80, .r 1, .r 107, .r 105, .i (-2147483648) 2147483647], [], none, ([(80, 3), (80, 4), (80, 5), (80, 6), (80, 12), (80, 13), (1089, 0), (1089, 1), (1089, 2), (1089, 3), (1090, 0), (1090, 1), (1090, 2), (1090, 3)], [81, 1084]))
set_option maxRecDepth 1000000 in
theorem vx_2525 : ai_valid ai_Tb cx_2525 := ai_chkH_ok (n := 30) (D := [cx_2515, cx_2518, cx_2027, cx_2031, cx_2520, cx_2516, cx_2524]) ai_TbK (ai_D1 vx_2515 (ai_D1 vx_2518 (ai_D1 vx_2027 (ai_D1 vx_2031 (ai_D1 vx_2520 (ai_D1 vx_2516 (ai_D1 vx_2524 ai_D0))))))) (by decide +kernel)
-- X8_copy
def cx_2526 : ai_C := (95, [.r 90, .r 104], [], none, ([(1090, 0), (1090, 1), (1090, 2), (1090, 3)], []))
set_option maxRecDepth 1000000 in
theorem vx_2526 : ai_valid ai_Tb cx_2526 := ai_chkH_ok (n := 18) (D := []) ai_TbK ai_D0 (by decide +kernel)
-- X1_open
def cx_2527 : ai_C := (20, [.r 80, .r 1, .r 107, .r 104, .i (-2147483648) 2147483647], [], none, ([(80, 3), (80, 4), (80, 5), (80, 6), (80, 12), (80, 13), (1089, 0), (1089, 1), (1089, 2), (1089, 3), (1090, 0), (1090, 1), (1090, 2), (1090, 3)], [81, 1084]))
set_option maxRecDepth 1000000 in
theorem vx_2527 : ai_valid ai_Tb cx_2527 := ai_chkH_ok (n := 30) (D := [cx_2515, cx_2518, cx_2027, cx_2033, cx_2520, cx_2516, cx_2526]) ai_TbK (ai_D1 vx_2515 (ai_D1 vx_2518 (ai_D1 vx_2027 (ai_D1 vx_2033 (ai_D1 vx_2520 (ai_D1 vx_2516 (ai_D1 vx_2526 ai_D0))))))) (by decide +kernel)
-- X8_copy
def cx_2528 : ai_C := (95, [.r 90, .r 103], [], none, ([(1090, 0), (1090, 1), (1090, 2), (1090, 3)], []))
set_option maxRecDepth 1000000 in
theorem vx_2528 : ai_valid ai_Tb cx_2528 := ai_chkH_ok (n := 18) (D := []) ai_TbK ai_D0 (by decide +kernel)
-- X1_open
def cx_2529 : ai_C := (20, [.r 80, .r 1, .r 107, .r 103, .i (-2147483648) 2147483647], [], none, ([(80, 3), (80, 4), (80, 5), (80, 6), (80, 12), (80, 13), (1089, 0), (1089, 1), (1089, 2), (1089, 3), (1090, 0), (1090, 1), (1090, 2), (1090, 3)], [81, 1084]))
set_option maxRecDepth 1000000 in
theorem vx_2529 : ai_valid ai_Tb cx_2529 := ai_chkH_ok (n := 30) (D := [cx_2515, cx_2518, cx_2027, cx_2035, cx_2520, cx_2516, cx_2528]) ai_TbK (ai_D1 vx_2515 (ai_D1 vx_2518 (ai_D1 vx_2027 (ai_D1 vx_2035 (ai_D1 vx_2520 (ai_D1 vx_2516 (ai_D1 vx_2528 ai_D0))))))) (by decide +kernel)
-- X8_copy
def cx_2530 : ai_C := (95, [.r 90, .r 102], [], none, ([(1090, 0), (1090, 1), (1090, 2), (1090, 3)], []))
set_option maxRecDepth 1000000 in
theorem vx_2530 : ai_valid ai_Tb cx_2530 := ai_chkH_ok (n := 18) (D := []) ai_TbK ai_D0 (by decide +kernel)
-- X1_open
def cx_2531 : ai_C := (20, [.r 80, .r 1, .r 107, .r 102, .i (-2147483648) 2147483647], [], none, ([(80, 3), (80, 4), (80, 5), (80, 6), (80, 12), (80, 13), (1089, 0), (1089, 1), (1089, 2), (1089, 3), (1090, 0), (1090, 1), (1090, 2), (1090, 3)], [81, 1084]))
set_option maxRecDepth 1000000 in
theorem vx_2531 : ai_valid ai_Tb cx_2531 := ai_chkH_ok (n := 30) (D := [cx_2515, cx_2518, cx_2027, cx_2037, cx_2520, cx_2516, cx_2530]) ai_TbK (ai_D1 vx_2515 (ai_D1 vx_2518 (ai_D1 vx_2027 (ai_D1 vx_2037 (ai_D1 vx_2520 (ai_D1 vx_2516 (ai_D1 vx_2530 ai_D0))))))) (by decide +kernel)
-- X8_copy
def cx_2532 : ai_C := (95, [.r 89, .r 106], [], none, ([(1089, 0), (1089, 1), (1089, 2), (1089, 3)], []))
set_option maxRecDepth 1000000 in
theorem vx_2532 : ai_valid ai_Tb cx_2532 := ai_chkH_ok (n := 18) (D := []) ai_TbK ai_D0 (by decide +kernel)
-- X1_open
def cx_2533 : ai_C := (20, [.r 80, .r 1, .r 106, .r 107, .i (-2147483648) 2147483647], [], none, ([(80, 3), (80, 4), (80, 5), (80, 6), (80, 12), (80, 13), (1089, 0), (1089, 1), (1089, 2), (1089, 3), (1090, 0), (1090, 1), (1090, 2), (1090, 3)], [81, 1084]))
set_option maxRecDepth 1000000 in
theorem vx_2533 : ai_valid ai_Tb cx_2533 := ai_chkH_ok (n := 30) (D := [cx_2515, cx_2518, cx_2029, cx_2027, cx_2520, cx_2532, cx_2517]) ai_TbK (ai_D1 vx_2515 (ai_D1 vx_2518 (ai_D1 vx_2029 (ai_D1 vx_2027 (ai_D1 vx_2520 (ai_D1 vx_2532 (ai_D1 vx_2517 ai_D0))))))) (by decide +kernel)
-- X1_open
def cx_2534 : ai_C := (20, [.r 80, .r 1, .r 106, .r 106, .i (-2147483648) 2147483647], [], none, ([(80, 3), (80, 4), (80, 5), (80, 6), (80, 12), (80, 13), (1089, 0), (1089, 1), (1089, 2), (1089, 3), (1090, 0), (1090, 1), (1090, 2), (1090, 3)], [81, 1084]))
set_option maxRecDepth 1000000 in
theorem vx_2534 : ai_valid ai_Tb cx_2534 := ai_chkH_ok (n := 30) (D := [cx_2515, cx_2518, cx_2029, cx_2520, cx_2532, cx_2522]) ai_TbK (ai_D1 vx_2515 (ai_D1 vx_2518 (ai_D1 vx_2029 (ai_D1 vx_2520 (ai_D1 vx_2532 (ai_D1 vx_2522 ai_D0)))))) (by decide +kernel)
-- X1_open
def cx_2535 : ai_C := (20, [.r 80, .r 1, .r 106, .r 105, .i (-2147483648) 2147483647], [], none, ([(80, 3), (80, 4), (80, 5), (80, 6), (80, 12), (80, 13), (1089, 0), (1089, 1), (1089, 2), (1089, 3), (1090, 0), (1090, 1), (1090, 2), (1090, 3)], [81, 1084]))
set_option maxRecDepth 1000000 in
theorem vx_2535 : ai_valid ai_Tb cx_2535 := ai_chkH_ok (n := 30) (D := [cx_2515, cx_2518, cx_2029, cx_2031, cx_2520, cx_2532, cx_2524]) ai_TbK (ai_D1 vx_2515 (ai_D1 vx_2518 (ai_D1 vx_2029 (ai_D1 vx_2031 (ai_D1 vx_2520 (ai_D1 vx_2532 (ai_D1 vx_2524 ai_D0))))))) (by decide +kernel)
-- X1_open
def cx_2536 : ai_C := (20, [.r 80, .r 1, .r 106, .r 104, .i (-2147483648) 2147483647], [], none, ([(80, 3), (80, 4), (80, 5), (80, 6), (80, 12), (80, 13), (1089, 0), (1089, 1), (1089, 2), (1089, 3), (1090, 0), (1090, 1), (1090, 2), (1090, 3)], [81, 1084]))
set_option maxRecDepth 1000000 in
theorem vx_2536 : ai_valid ai_Tb cx_2536 := ai_chkH_ok (n := 30) (D := [cx_2515, cx_2518, cx_2029, cx_2033, cx_2520, cx_2532, cx_2526]) ai_TbK (ai_D1 vx_2515 (ai_D1 vx_2518 (ai_D1 vx_2029 (ai_D1 vx_2033 (ai_D1 vx_2520 (ai_D1 vx_2532 (ai_D1 vx_2526 ai_D0))))))) (by decide +kernel)
-- X1_open
def cx_2537 : ai_C := (20, [.r 80, .r 1, .r 106, .r 103, .i (-2147483648) 2147483647], [], none, ([(80, 3), (80, 4), (80, 5), (80, 6), (80, 12), (80, 13), (1089, 0), (1089, 1), (1089, 2), (1089, 3), (1090, 0), (1090, 1), (1090, 2), (1090, 3)], [81, 1084]))
set_option maxRecDepth 1000000 in
theorem vx_2537 : ai_valid ai_Tb cx_2537 := ai_chkH_ok (n := 30) (D := [cx_2515, cx_2518, cx_2029, cx_2035, cx_2520, cx_2532, cx_2528]) ai_TbK (ai_D1 vx_2515 (ai_D1 vx_2518 (ai_D1 vx_2029 (ai_D1 vx_2035 (ai_D1 vx_2520 (ai_D1 vx_2532 (ai_D1 vx_2528 ai_D0))))))) (by decide +kernel)
-- X1_open
def cx_2538 : ai_C := (20, [.r 80, .r 1, .r 106, .r 102, .i (-2147483648) 2147483647], [], none, ([(80, 3), (80, 4), (80, 5), (80, 6), (80, 12), (80, 13), (1089, 0), (1089, 1), (1089, 2), (1089, 3), (1090, 0), (1090, 1), (1090, 2), (1090, 3)], [81, 1084]))
set_option maxRecDepth 1000000 in
theorem vx_2538 : ai_valid ai_Tb cx_2538 := ai_chkH_ok (n := 30) (D := [cx_2515, cx_2518, cx_2029, cx_2037, cx_2520, cx_2532, cx_2530]) ai_TbK (ai_D1 vx_2515 (ai_D1 vx_2518 (ai_D1 vx_2029 (ai_D1 vx_2037 (ai_D1 vx_2520 (ai_D1 vx_2532 (ai_D1 vx_2530 ai_D0))))))) (by decide +kernel)
-- X8_copy
def cx_2539 : ai_C := (95, [.r 89, .r 105], [], none, ([(1089, 0), (1089, 1), (1089, 2), (1089, 3)], []))
set_option maxRecDepth 1000000 in
theorem vx_2539 : ai_valid ai_Tb cx_2539 := ai_chkH_ok (n := 18) (D := []) ai_TbK ai_D0 (by decide +kernel)
-- X1_open
def cx_2540 : ai_C := (20, [.r 80, .r 1, .r 105, .r 107, .i (-2147483648) 2147483647], [], none, ([(80, 3), (80, 4), (80, 5), (80, 6), (80, 12), (80, 13), (1089, 0), (1089, 1), (1089, 2), (1089, 3), (1090, 0), (1090, 1), (1090, 2), (1090, 3)], [81, 1084]))
set_option maxRecDepth 1000000 in
theorem vx_2540 : ai_valid ai_Tb cx_2540 := ai_chkH_ok (n := 30) (D := [cx_2515, cx_2518, cx_2031, cx_2027, cx_2520, cx_2539, cx_2517]) ai_TbK (ai_D1 vx_2515 (ai_D1 vx_2518 (ai_D1 vx_2031 (ai_D1 vx_2027 (ai_D1 vx_2520 (ai_D1 vx_2539 (ai_D1 vx_2517 ai_D0))))))) (by decide +kernel)
-- X1_open
def cx_2541 : ai_C := (20, [.r 80, .r 1, .r 105, .r 106, .i (-2147483648) 2147483647], [], none, ([(80, 3), (80, 4), (80, 5), (80, 6), (80, 12), (80, 13), (1089, 0), (1089, 1), (1089, 2), (1089, 3), (1090, 0), (1090, 1), (1090, 2), (1090, 3)], [81, 1084]))
set_option maxRecDepth 1000000 in
theorem vx_2541 : ai_valid ai_Tb cx_2541 := ai_chkH_ok (n := 30) (D := [cx_2515, cx_2518, cx_2031, cx_2029, cx_2520, cx_2539, cx_2522]) ai_TbK (ai_D1 vx_2515 (ai_D1 vx_2518 (ai_D1 vx_2031 (ai_D1 vx_2029 (ai_D1 vx_2520 (ai_D1 vx_2539 (ai_D1 vx_2522 ai_D0))))))) (by decide +kernel)
-- X1_open
def cx_2542 : ai_C := (20, [.r 80, .r 1, .r 105, .r 105, .i (-2147483648) 2147483647], [], none, ([(80, 3), (80, 4), (80, 5), (80, 6), (80, 12), (80, 13), (1089, 0), (1089, 1), (1089, 2), (1089, 3), (1090, 0), (1090, 1), (1090, 2), (1090, 3)], [81, 1084]))
set_option maxRecDepth 1000000 in
theorem vx_2542 : ai_valid ai_Tb cx_2542 := ai_chkH_ok (n := 30) (D := [cx_2515, cx_2518, cx_2031, cx_2520, cx_2539, cx_2524]) ai_TbK (ai_D1 vx_2515 (ai_D1 vx_2518 (ai_D1 vx_2031 (ai_D1 vx_2520 (ai_D1 vx_2539 (ai_D1 vx_2524 ai_D0)))))) (by decide +kernel)
-- X1_open
def cx_2543 : ai_C := (20, [.r 80, .r 1, .r 105, .r 104, .i (-2147483648) 2147483647], [], none, ([(80, 3), (80, 4), (80, 5), (80, 6), (80, 12), (80, 13), (1089, 0), (1089, 1), (1089, 2), (1089, 3), (1090, 0), (1090, 1), (1090, 2), (1090, 3)], [81, 1084]))
set_option maxRecDepth 1000000 in
theorem vx_2543 : ai_valid ai_Tb cx_2543 := ai_chkH_ok (n := 30) (D := [cx_2515, cx_2518, cx_2031, cx_2033, cx_2520, cx_2539, cx_2526]) ai_TbK (ai_D1 vx_2515 (ai_D1 vx_2518 (ai_D1 vx_2031 (ai_D1 vx_2033 (ai_D1 vx_2520 (ai_D1 vx_2539 (ai_D1 vx_2526 ai_D0))))))) (by decide +kernel)
-- X1_open
def cx_2544 : ai_C := (20, [.r 80, .r 1, .r 105, .r 103, .i (-2147483648) 2147483647], [], none, ([(80, 3), (80, 4), (80, 5), (80, 6), (80, 12), (80, 13), (1089, 0), (1089, 1), (1089, 2), (1089, 3), (1090, 0), (1090, 1), (1090, 2), (1090, 3)], [81, 1084]))
set_option maxRecDepth 1000000 in
theorem vx_2544 : ai_valid ai_Tb cx_2544 := ai_chkH_ok (n := 30) (D := [cx_2515, cx_2518, cx_2031, cx_2035, cx_2520, cx_2539, cx_2528]) ai_TbK (ai_D1 vx_2515 (ai_D1 vx_2518 (ai_D1 vx_2031 (ai_D1 vx_2035 (ai_D1 vx_2520 (ai_D1 vx_2539 (ai_D1 vx_2528 ai_D0))))))) (by decide +kernel)
-- X1_open
def cx_2545 : ai_C := (20, [.r 80, .r 1, .r 105, .r 102, .i (-2147483648) 2147483647], [], none, ([(80, 3), (80, 4), (80, 5), (80, 6), (80, 12), (80, 13), (1089, 0), (1089, 1), (1089, 2), (1089, 3), (1090, 0), (1090, 1), (1090, 2), (1090, 3)], [81, 1084]))
set_option maxRecDepth 1000000 in
theorem vx_2545 : ai_valid ai_Tb cx_2545 := ai_chkH_ok (n := 30) (D := [cx_2515, cx_2518, cx_2031, cx_2037, cx_2520, cx_2539, cx_2530]) ai_TbK (ai_D1 vx_2515 (ai_D1 vx_2518 (ai_D1 vx_2031 (ai_D1 vx_2037 (ai_D1 vx_2520 (ai_D1 vx_2539 (ai_D1 vx_2530 ai_D0))))))) (by decide +kernel)
-- X8_copy
def cx_2546 : ai_C := (95, [.r 89, .r 104], [], none, ([(1089, 0), (1089, 1), (1089, 2), (1089, 3)], []))
set_option maxRecDepth 1000000 in
theorem vx_2546 : ai_valid ai_Tb cx_2546 := ai_chkH_ok (n := 18) (D := []) ai_TbK ai_D0 (by decide +kernel)
-- X1_open
def cx_2547 : ai_C := (20, [.r 80, .r 1, .r 104, .r 107, .i (-2147483648) 2147483647], [], none, ([(80, 3), (80, 4), (80, 5), (80, 6), (80, 12), (80, 13), (1089, 0), (1089, 1), (1089, 2), (1089, 3), (1090, 0), (1090, 1), (1090, 2), (1090, 3)], [81, 1084]))
set_option maxRecDepth 1000000 in
theorem vx_2547 : ai_valid ai_Tb cx_2547 := ai_chkH_ok (n := 30) (D := [cx_2515, cx_2518, cx_2033, cx_2027, cx_2520, cx_2546, cx_2517]) ai_TbK (ai_D1 vx_2515 (ai_D1 vx_2518 (ai_D1 vx_2033 (ai_D1 vx_2027 (ai_D1 vx_2520 (ai_D1 vx_2546 (ai_D1 vx_2517 ai_D0))))))) (by decide +kernel)
-- X1_open
def cx_2548 : ai_C := (20, [.r 80, .r 1, .r 104, .r 106, .i (-2147483648) 2147483647], [], none, ([(80, 3), (80, 4), (80, 5), (80, 6), (80, 12), (80, 13), (1089, 0), (1089, 1), (1089, 2), (1089, 3), (1090, 0), (1090, 1), (1090, 2), (1090, 3)], [81, 1084]))
set_option maxRecDepth 1000000 in
theorem vx_2548 : ai_valid ai_Tb cx_2548 := ai_chkH_ok (n := 30) (D := [cx_2515, cx_2518, cx_2033, cx_2029, cx_2520, cx_2546, cx_2522]) ai_TbK (ai_D1 vx_2515 (ai_D1 vx_2518 (ai_D1 vx_2033 (ai_D1 vx_2029 (ai_D1 vx_2520 (ai_D1 vx_2546 (ai_D1 vx_2522 ai_D0))))))) (by decide +kernel)
-- X1_open
def cx_2549 : ai_C := (20, [.r 80, .r 1, .r 104, .r 105, .i (-2147483648) 2147483647], [], none, ([(80, 3), (80, 4), (80, 5), (80, 6), (80, 12), (80, 13), (1089, 0), (1089, 1), (1089, 2), (1089, 3), (1090, 0), (1090, 1), (1090, 2), (1090, 3)], [81, 1084]))
set_option maxRecDepth 1000000 in
theorem vx_2549 : ai_valid ai_Tb cx_2549 := ai_chkH_ok (n := 30) (D := [cx_2515, cx_2518, cx_2033, cx_2031, cx_2520, cx_2546, cx_2524]) ai_TbK (ai_D1 vx_2515 (ai_D1 vx_2518 (ai_D1 vx_2033 (ai_D1 vx_2031 (ai_D1 vx_2520 (ai_D1 vx_2546 (ai_D1 vx_2524 ai_D0))))))) (by decide +kernel)
-- X1_open
def cx_2550 : ai_C := (20, [.r 80, .r 1, .r 104, .r 104, .i (-2147483648) 2147483647], [], none, ([(80, 3), (80, 4), (80, 5), (80, 6), (80, 12), (80, 13), (1089, 0), (1089, 1), (1089, 2), (1089, 3), (1090, 0), (1090, 1), (1090, 2), (1090, 3)], [81, 1084]))
set_option maxRecDepth 1000000 in
theorem vx_2550 : ai_valid ai_Tb cx_2550 := ai_chkH_ok (n := 30) (D := [cx_2515, cx_2518, cx_2033, cx_2520, cx_2546, cx_2526]) ai_TbK (ai_D1 vx_2515 (ai_D1 vx_2518 (ai_D1 vx_2033 (ai_D1 vx_2520 (ai_D1 vx_2546 (ai_D1 vx_2526 ai_D0)))))) (by decide +kernel)
-- X1_open
def cx_2551 : ai_C := (20, [.r 80, .r 1, .r 104, .r 103, .i (-2147483648) 2147483647], [], none, ([(80, 3), (80, 4), (80, 5), (80, 6), (80, 12), (80, 13), (1089, 0), (1089, 1), (1089, 2), (1089, 3), (1090, 0), (1090, 1), (1090, 2), (1090, 3)], [81, 1084]))
set_option maxRecDepth 1000000 in
theorem vx_2551 : ai_valid ai_Tb cx_2551 := ai_chkH_ok (n := 30) (D := [cx_2515, cx_2518, cx_2033, cx_2035, cx_2520, cx_2546, cx_2528]) ai_TbK (ai_D1 vx_2515 (ai_D1 vx_2518 (ai_D1 vx_2033 (ai_D1 vx_2035 (ai_D1 vx_2520 (ai_D1 vx_2546 (ai_D1 vx_2528 ai_D0))))))) (by decide +kernel)
-- X1_open
def cx_2552 : ai_C := (20, [.r 80, .r 1, .r 104, .r 102, .i (-2147483648) 2147483647], [], none, ([(80, 3), (80, 4), (80, 5), (80, 6), (80, 12), (80, 13), (1089, 0), (1089, 1), (1089, 2), (1089, 3), (1090, 0), (1090, 1), (1090, 2), (1090, 3)], [81, 1084]))
set_option maxRecDepth 1000000 in
theorem vx_2552 : ai_valid ai_Tb cx_2552 := ai_chkH_ok (n := 30) (D := [cx_2515, cx_2518, cx_2033, cx_2037, cx_2520, cx_2546, cx_2530]) ai_TbK (ai_D1 vx_2515 (ai_D1 vx_2518 (ai_D1 vx_2033 (ai_D1 vx_2037 (ai_D1 vx_2520 (ai_D1 vx_2546 (ai_D1 vx_2530 ai_D0))))))) (by decide +kernel)
-- X8_copy
def cx_2553 : ai_C := (95, [.r 89, .r 103], [], none, ([(1089, 0), (1089, 1), (1089, 2), (1089, 3)], []))
set_option maxRecDepth 1000000 in
theorem vx_2553 : ai_valid ai_Tb cx_2553 := ai_chkH_ok (n := 18) (D := []) ai_TbK ai_D0 (by decide +kernel)
-- X1_open
def cx_2554 : ai_C := (20, [.r 80, .r 1, .r 103, .r 107, .i (-2147483648) 2147483647], [], none, ([(80, 3), (80, 4), (80, 5), (80, 6), (80, 12), (80, 13), (1089, 0), (1089, 1), (1089, 2), (1089, 3), (1090, 0), (1090, 1), (1090, 2), (1090, 3)], [81, 1084]))
set_option maxRecDepth 1000000 in
theorem vx_2554 : ai_valid ai_Tb cx_2554 := ai_chkH_ok (n := 30) (D := [cx_2515, cx_2518, cx_2035, cx_2027, cx_2520, cx_2553, cx_2517]) ai_TbK (ai_D1 vx_2515 (ai_D1 vx_2518 (ai_D1 vx_2035 (ai_D1 vx_2027 (ai_D1 vx_2520 (ai_D1 vx_2553 (ai_D1 vx_2517 ai_D0))))))) (by decide +kernel)
-- X1_open
def cx_2555 : ai_C := (20, [.r 80, .r 1, .r 103, .r 106, .i (-2147483648) 2147483647], [], none, ([(80, 3), (80, 4), (80, 5), (80, 6), (80, 12), (80, 13), (1089, 0), (1089, 1), (1089, 2), (1089, 3), (1090, 0), (1090, 1), (1090, 2), (1090, 3)], [81, 1084]))
set_option maxRecDepth 1000000 in
theorem vx_2555 : ai_valid ai_Tb cx_2555 := ai_chkH_ok (n := 30) (D := [cx_2515, cx_2518, cx_2035, cx_2029, cx_2520, cx_2553, cx_2522]) ai_TbK (ai_D1 vx_2515 (ai_D1 vx_2518 (ai_D1 vx_2035 (ai_D1 vx_2029 (ai_D1 vx_2520 (ai_D1 vx_2553 (ai_D1 vx_2522 ai_D0))))))) (by decide +kernel)
-- X1_open
def cx_2556 : ai_C := (20, [.r 80, .r 1, .r 103, .r 105, .i (-2147483648) 2147483647], [], none, ([(80, 3), (80, 4), (80, 5), (80, 6), (80, 12), (80, 13), (1089, 0), (1089, 1), (1089, 2), (1089, 3), (1090, 0), (1090, 1), (1090, 2), (1090, 3)], [81, 1084]))
set_option maxRecDepth 1000000 in
theorem vx_2556 : ai_valid ai_Tb cx_2556 := ai_chkH_ok (n := 30) (D := [cx_2515, cx_2518, cx_2035, cx_2031, cx_2520, cx_2553, cx_2524]) ai_TbK (ai_D1 vx_2515 (ai_D1 vx_2518 (ai_D1 vx_2035 (ai_D1 vx_2031 (ai_D1 vx_2520 (ai_D1 vx_2553 (ai_D1 vx_2524 ai_D0))))))) (by decide +kernel)
-- X1_open
def cx_2557 : ai_C := (20, [.r 80, .r 1, .r 103, .r 104, .i (-2147483648) 2147483647], [], none, ([(80, 3), (80, 4), (80, 5), (80, 6), (80, 12), (80, 13), (1089, 0), (1089, 1), (1089, 2), (1089, 3), (1090, 0), (1090, 1), (1090, 2), (1090, 3)], [81, 1084]))
set_option maxRecDepth 1000000 in
theorem vx_2557 : ai_valid ai_Tb cx_2557 := ai_chkH_ok (n := 30) (D := [cx_2515, cx_2518, cx_2035, cx_2033, cx_2520, cx_2553, cx_2526]) ai_TbK (ai_D1 vx_2515 (ai_D1 vx_2518 (ai_D1 vx_2035 (ai_D1 vx_2033 (ai_D1 vx_2520 (ai_D1 vx_2553 (ai_D1 vx_2526 ai_D0))))))) (by decide +kernel)
-- X1_open
def cx_2558 : ai_C := (20, [.r 80, .r 1, .r 103, .r 103, .i (-2147483648) 2147483647], [], none, ([(80, 3), (80, 4), (80, 5), (80, 6), (80, 12), (80, 13), (1089, 0), (1089, 1), (1089, 2), (1089, 3), (1090, 0), (1090, 1), (1090, 2), (1090, 3)], [81, 1084]))
set_option maxRecDepth 1000000 in
theorem vx_2558 : ai_valid ai_Tb cx_2558 := ai_chkH_ok (n := 30) (D := [cx_2515, cx_2518, cx_2035, cx_2520, cx_2553, cx_2528]) ai_TbK (ai_D1 vx_2515 (ai_D1 vx_2518 (ai_D1 vx_2035 (ai_D1 vx_2520 (ai_D1 vx_2553 (ai_D1 vx_2528 ai_D0)))))) (by decide +kernel)
-- X1_open
def cx_2559 : ai_C := (20, [.r 80, .r 1, .r 103, .r 102, .i (-2147483648) 2147483647], [], none, ([(80, 3), (80, 4), (80, 5), (80, 6), (80, 12), (80, 13), (1089, 0), (1089, 1), (1089, 2), (1089, 3), (1090, 0), (1090, 1), (1090, 2), (1090, 3)], [81, 1084]))
set_option maxRecDepth 1000000 in
theorem vx_2559 : ai_valid ai_Tb cx_2559 := ai_chkH_ok (n := 30) (D := [cx_2515, cx_2518, cx_2035, cx_2037, cx_2520, cx_2553, cx_2530]) ai_TbK (ai_D1 vx_2515 (ai_D1 vx_2518 (ai_D1 vx_2035 (ai_D1 vx_2037 (ai_D1 vx_2520 (ai_D1 vx_2553 (ai_D1 vx_2530 ai_D0))))))) (by decide +kernel)
-- X8_copy
def cx_2560 : ai_C := (95, [.r 89, .r 102], [], none, ([(1089, 0), (1089, 1), (1089, 2), (1089, 3)], []))
set_option maxRecDepth 1000000 in
theorem vx_2560 : ai_valid ai_Tb cx_2560 := ai_chkH_ok (n := 18) (D := []) ai_TbK ai_D0 (by decide +kernel)
-- X1_open
def cx_2561 : ai_C := (20, [.r 80, .r 1, .r 102, .r 107, .i (-2147483648) 2147483647], [], none, ([(80, 3), (80, 4), (80, 5), (80, 6), (80, 12), (80, 13), (1089, 0), (1089, 1), (1089, 2), (1089, 3), (1090, 0), (1090, 1), (1090, 2), (1090, 3)], [81, 1084]))
set_option maxRecDepth 1000000 in
theorem vx_2561 : ai_valid ai_Tb cx_2561 := ai_chkH_ok (n := 30) (D := [cx_2515, cx_2518, cx_2037, cx_2027, cx_2520, cx_2560, cx_2517]) ai_TbK (ai_D1 vx_2515 (ai_D1 vx_2518 (ai_D1 vx_2037 (ai_D1 vx_2027 (ai_D1 vx_2520 (ai_D1 vx_2560 (ai_D1 vx_2517 ai_D0))))))) (by decide +kernel)
-- X1_open
def cx_2562 : ai_C := (20, [.r 80, .r 1, .r 102, .r 106, .i (-2147483648) 2147483647], [], none, ([(80, 3), (80, 4), (80, 5), (80, 6), (80, 12), (80, 13), (1089, 0), (1089, 1), (1089, 2), (1089, 3), (1090, 0), (1090, 1), (1090, 2), (1090, 3)], [81, 1084]))
set_option maxRecDepth 1000000 in
theorem vx_2562 : ai_valid ai_Tb cx_2562 := ai_chkH_ok (n := 30) (D := [cx_2515, cx_2518, cx_2037, cx_2029, cx_2520, cx_2560, cx_2522]) ai_TbK (ai_D1 vx_2515 (ai_D1 vx_2518 (ai_D1 vx_2037 (ai_D1 vx_2029 (ai_D1 vx_2520 (ai_D1 vx_2560 (ai_D1 vx_2522 ai_D0))))))) (by decide +kernel)
-- X1_open
def cx_2563 : ai_C := (20, [.r 80, .r 1, .r 102, .r 105, .i (-2147483648) 2147483647], [], none, ([(80, 3), (80, 4), (80, 5), (80, 6), (80, 12), (80, 13), (1089, 0), (1089, 1), (1089, 2), (1089, 3), (1090, 0), (1090, 1), (1090, 2), (1090, 3)], [81, 1084]))
set_option maxRecDepth 1000000 in
theorem vx_2563 : ai_valid ai_Tb cx_2563 := ai_chkH_ok (n := 30) (D := [cx_2515, cx_2518, cx_2037, cx_2031, cx_2520, cx_2560, cx_2524]) ai_TbK (ai_D1 vx_2515 (ai_D1 vx_2518 (ai_D1 vx_2037 (ai_D1 vx_2031 (ai_D1 vx_2520 (ai_D1 vx_2560 (ai_D1 vx_2524 ai_D0))))))) (by decide +kernel)
-- X1_open
def cx_2564 : ai_C := (20, [.r 80, .r 1, .r 102, .r 104, .i (-2147483648) 2147483647], [], none, ([(80, 3), (80, 4), (80, 5), (80, 6), (80, 12), (80, 13), (1089, 0), (1089, 1), (1089, 2), (1089, 3), (1090, 0), (1090, 1), (1090, 2), (1090, 3)], [81, 1084]))
set_option maxRecDepth 1000000 in
theorem vx_2564 : ai_valid ai_Tb cx_2564 := ai_chkH_ok (n := 30) (D := [cx_2515, cx_2518, cx_2037, cx_2033, cx_2520, cx_2560, cx_2526]) ai_TbK (ai_D1 vx_2515 (ai_D1 vx_2518 (ai_D1 vx_2037 (ai_D1 vx_2033 (ai_D1 vx_2520 (ai_D1 vx_2560 (ai_D1 vx_2526 ai_D0))))))) (by decide +kernel)
-- X1_open
def cx_2565 : ai_C := (20, [.r 80, .r 1, .r 102, .r 103, .i (-2147483648) 2147483647], [], none, ([(80, 3), (80, 4), (80, 5), (80, 6), (80, 12), (80, 13), (1089, 0), (1089, 1), (1089, 2), (1089, 3), (1090, 0), (1090, 1), (1090, 2), (1090, 3)], [81, 1084]))
set_option maxRecDepth 1000000 in
theorem vx_2565 : ai_valid ai_Tb cx_2565 := ai_chkH_ok (n := 30) (D := [cx_2515, cx_2518, cx_2037, cx_2035, cx_2520, cx_2560, cx_2528]) ai_TbK (ai_D1 vx_2515 (ai_D1 vx_2518 (ai_D1 vx_2037 (ai_D1 vx_2035 (ai_D1 vx_2520 (ai_D1 vx_2560 (ai_D1 vx_2528 ai_D0))))))) (by decide +kernel)
-- X1_open
def cx_2566 : ai_C := (20, [.r 80, .r 1, .r 102, .r 102, .i (-2147483648) 2147483647], [], none, ([(80, 3), (80, 4), (80, 5), (80, 6), (80, 12), (80, 13), (1089, 0), (1089, 1), (1089, 2), (1089, 3), (1090, 0), (1090, 1), (1090, 2), (1090, 3)], [81, 1084]))
set_option maxRecDepth 1000000 in
theorem vx_2566 : ai_valid ai_Tb cx_2566 := ai_chkH_ok (n := 30) (D := [cx_2515, cx_2518, cx_2037, cx_2520, cx_2560, cx_2530]) ai_TbK (ai_D1 vx_2515 (ai_D1 vx_2518 (ai_D1 vx_2037 (ai_D1 vx_2520 (ai_D1 vx_2560 (ai_D1 vx_2530 ai_D0)))))) (by decide +kernel)
-- X1_number
def cx_2567 : ai_C := (14, [.r 80, .i (-2147483648) 2147483647, .i (-2147483648) 2147483647, .i (-2147483648) 2147483647], [], some [.i (-2147483648) 2147483647], ([], []))
set_option maxRecDepth 1000000 in
theorem vx_2567 : ai_valid ai_Tb cx_2567 := ai_chkH_ok (n := 26) (D := []) ai_TbK ai_D0 (by decide +kernel)
-- X1_isWhole
def cx_2568 : ai_C := (24, [.r 80, .i (-2147483648) 2147483647], [], some [.i 0 1], ([], []))
set_option maxRecDepth 1000000 in
theorem vx_2568 : ai_valid ai_Tb cx_2568 := ai_chkH_ok (n := 26) (D := [cx_2567]) ai_TbK (ai_D1 vx_2567 ai_D0) (by decide +kernel)
-- X1_ends
def cx_2569 : ai_C := (23, [.r 80], [], some [.i 0 1], ([], []))
set_option maxRecDepth 1000000 in
theorem vx_2569 : ai_valid ai_Tb cx_2569 := ai_chkH_ok (n := 15) (D := [cx_2568]) ai_TbK (ai_D1 vx_2568 ai_D0) (by decide +kernel)
-- X1_isOn
def cx_2570 : ai_C := (11, [.r 80], [], some [.i 0 1], ([], []))
set_option maxRecDepth 1000000 in
theorem vx_2570 : ai_valid ai_Tb cx_2570 := ai_chkH_ok (n := 8) (D := []) ai_TbK ai_D0 (by decide +kernel)
-- X1_lay
def cx_2571 : ai_C := (16, [.r 80, .i (-2147483648) 2147483647, .i (-2147483648) 2147483647, .r 87], [], none, ([(1087, 0), (1087, 1), (1087, 2), (1087, 3)], []))
set_option maxRecDepth 1000000 in
theorem vx_2571 : ai_valid ai_Tb cx_2571 := ai_chkH_ok (n := 52) (D := []) ai_TbK ai_D0 (by decide +kernel)
-- X1_lay
def cx_2572 : ai_C := (16, [.r 80, .i (-2147483648) 2147483647, .i (-2147483648) 2147483647, .r 88], [], none, ([(1088, 0), (1088, 1), (1088, 2), (1088, 3)], []))
set_option maxRecDepth 1000000 in
theorem vx_2572 : ai_valid ai_Tb cx_2572 := ai_chkH_ok (n := 52) (D := []) ai_TbK ai_D0 (by decide +kernel)
-- X1_floorAt
def cx_2573 : ai_C := (15, [.r 80, .i (-2147483648) 2147483647, .i (-2147483648) 2147483647], [], some [.i (-2147483648) 2147483647], ([], []))
set_option maxRecDepth 1000000 in
theorem vx_2573 : ai_valid ai_Tb cx_2573 := ai_chkH_ok (n := 7) (D := [cx_2567]) ai_TbK (ai_D1 vx_2567 ai_D0) (by decide +kernel)
-- X2_signOfDifference
def cx_2574 : ai_C := (48, [.r 1, .r 87, .r 88], [], some [.i (-1) 1], ([], []))
set_option maxRecDepth 1000000 in
theorem vx_2574 : ai_valid ai_Tb cx_2574 := ai_chkH_ok (n := 37) (D := [cx_2025]) ai_TbK (ai_D1 vx_2025 ai_D0) (by decide +kernel)
-- X8_copy
def cx_2575 : ai_C := (95, [.r 89, .r 87], [], none, ([(1089, 0), (1089, 1), (1089, 2), (1089, 3)], []))
set_option maxRecDepth 1000000 in
theorem vx_2575 : ai_valid ai_Tb cx_2575 := ai_chkH_ok (n := 18) (D := []) ai_TbK ai_D0 (by decide +kernel)
-- X8_copy
def cx_2576 : ai_C := (95, [.r 87, .r 88], [], none, ([(1087, 0), (1087, 1), (1087, 2), (1087, 3)], []))
set_option maxRecDepth 1000000 in
theorem vx_2576 : ai_valid ai_Tb cx_2576 := ai_chkH_ok (n := 18) (D := []) ai_TbK ai_D0 (by decide +kernel)
-- X8_copy
def cx_2577 : ai_C := (95, [.r 88, .r 89], [], none, ([(1088, 0), (1088, 1), (1088, 2), (1088, 3)], []))
set_option maxRecDepth 1000000 in
theorem vx_2577 : ai_valid ai_Tb cx_2577 := ai_chkH_ok (n := 18) (D := []) ai_TbK ai_D0 (by decide +kernel)
-- X1_layRests
def cx_2578 : ai_C := (26, [.r 80, .r 1], [], none, ([(80, 14), (1087, 0), (1087, 1), (1087, 2), (1087, 3), (1088, 0), (1088, 1), (1088, 2), (1088, 3), (1089, 0), (1089, 1), (1089, 2), (1089, 3)], []))
set_option maxRecDepth 1000000 in
theorem vx_2578 : ai_valid ai_Tb cx_2578 := ai_chkH_ok (n := 87) (D := [cx_2573, cx_2571, cx_2572, cx_2574, cx_2575, cx_2576, cx_2577]) ai_TbK (ai_D1 vx_2573 (ai_D1 vx_2571 (ai_D1 vx_2572 (ai_D1 vx_2574 (ai_D1 vx_2575 (ai_D1 vx_2576 (ai_D1 vx_2577 ai_D0))))))) (by decide +kernel)
-- X8_isZero
def cx_2579 : ai_C := (101, [.r 87], [], some [.i 0 1], ([], []))
set_option maxRecDepth 1000000 in
theorem vx_2579 : ai_valid ai_Tb cx_2579 := ai_chkH_ok (n := 19) (D := []) ai_TbK ai_D0 (by decide +kernel)
-- X4_under
def cx_2580 : ai_C := (73, [.r 2, .r 88, .i (-2147483648) 2147483647], [], some [.l (-9223372036854775808) 9223372036854775807], ([], []))
set_option maxRecDepth 1000000 in
theorem vx_2580 : ai_valid ai_Tb cx_2580 := ai_chkH_ok (n := 25) (D := [cx_2054]) ai_TbK (ai_D1 vx_2054 ai_D0) (by decide +kernel)
-- X8_put
def cx_2581 : ai_C := (93, [.r 89, .l (-9223372036854775808) 9223372036854775807, .l (-9223372036854775808) 9223372036854775807, .l (-9223372036854775808) 9223372036854775807, .l (-9223372036854775808) 9223372036854775807], [], none, ([(1089, 0), (1089, 1), (1089, 2), (1089, 3)], []))
set_option maxRecDepth 1000000 in
theorem vx_2581 : ai_valid ai_Tb cx_2581 := ai_chkH_ok (n := 60) (D := [cx_2013]) ai_TbK (ai_D1 vx_2013 ai_D0) (by decide +kernel)
-- X2_divide
def cx_2582 : ai_C := (52, [.r 1, .r 88, .r 87, .r 89], [], none, ([(1089, 0), (1089, 1), (1089, 2), (1089, 3)], [1003]))
set_option maxRecDepth 1000000 in
theorem vx_2582 : ai_valid ai_Tb cx_2582 := ai_chkH_ok (n := 62) (D := [cx_2053, cx_2057, cx_2058, cx_2580, cx_2581]) ai_TbK (ai_D1 vx_2053 (ai_D1 vx_2057 (ai_D1 vx_2058 (ai_D1 vx_2580 (ai_D1 vx_2581 ai_D0))))) (by decide +kernel)
-- X8_put
def cx_2583 : ai_C := (93, [.r 90, .l (-9223372036854775808) 9223372036854775807, .l (-9223372036854775808) 9223372036854775807, .l (-9223372036854775808) 9223372036854775807, .l (-9223372036854775808) 9223372036854775807], [], none, ([(1090, 0), (1090, 1), (1090, 2), (1090, 3)], []))
set_option maxRecDepth 1000000 in
theorem vx_2583 : ai_valid ai_Tb cx_2583 := ai_chkH_ok (n := 60) (D := [cx_2013]) ai_TbK (ai_D1 vx_2013 ai_D0) (by decide +kernel)
-- X4_under
def cx_2584 : ai_C := (73, [.r 2, .r 90, .i (-2147483648) 2147483647], [], some [.l (-9223372036854775808) 9223372036854775807], ([], []))
set_option maxRecDepth 1000000 in
theorem vx_2584 : ai_valid ai_Tb cx_2584 := ai_chkH_ok (n := 25) (D := [cx_2054]) ai_TbK (ai_D1 vx_2054 ai_D0) (by decide +kernel)
-- X2_divide
def cx_2585 : ai_C := (52, [.r 1, .r 90, .r 87, .r 90], [], none, ([(1090, 0), (1090, 1), (1090, 2), (1090, 3)], [1003]))
set_option maxRecDepth 1000000 in
theorem vx_2585 : ai_valid ai_Tb cx_2585 := ai_chkH_ok (n := 62) (D := [cx_2053, cx_2057, cx_2058, cx_2584, cx_2583]) ai_TbK (ai_D1 vx_2053 (ai_D1 vx_2057 (ai_D1 vx_2058 (ai_D1 vx_2584 (ai_D1 vx_2583 ai_D0))))) (by decide +kernel)
-- X8_canBe
def cx_2586 : ai_C := (99, [.r 89], [], some [.i 0 1], ([], []))
set_option maxRecDepth 1000000 in
theorem vx_2586 : ai_valid ai_Tb cx_2586 := ai_chkH_ok (n := 26) (D := [cx_2040]) ai_TbK (ai_D1 vx_2040 ai_D0) (by decide +kernel)
-- X8_canBe
def cx_2587 : ai_C := (99, [.r 90], [], some [.i 0 1], ([], []))
set_option maxRecDepth 1000000 in
theorem vx_2587 : ai_valid ai_Tb cx_2587 := ai_chkH_ok (n := 26) (D := [cx_2040]) ai_TbK (ai_D1 vx_2040 ai_D0) (by decide +kernel)
-- X2_signLess
def cx_2588 : ai_C := (47, [.r 1, .r 89, .l (-9223372036854775808) 9223372036854775807, .l (-9223372036854775808) 9223372036854775807], [], some [.i (-1) 1], ([], []))
set_option maxRecDepth 1000000 in
theorem vx_2588 : ai_valid ai_Tb cx_2588 := ai_chkH_ok (n := 21) (D := [cx_2025]) ai_TbK (ai_D1 vx_2025 ai_D0) (by decide +kernel)
-- X2_floor
def cx_2589 : ai_C := (49, [.r 1, .r 89], [(11, [.r 1, .r 89, .i (-2147483648) 2147483647, .i (-2147483648) 2147483647, .i 0 13, .u], [], (.v 4 13, .n 8000000000, .n 8000000000))], some [.i (-2147483648) 2147483647], ([], []))
set_option maxRecDepth 1000000 in
theorem vx_2589 : ai_valid ai_Tb cx_2589 := ai_chkH_ok (n := 23) (D := [cx_2588]) ai_TbK (ai_D1 vx_2588 ai_D0) (by decide +kernel)
-- X2_signLess
def cx_2590 : ai_C := (47, [.r 1, .r 90, .l (-9223372036854775808) 9223372036854775807, .l (-9223372036854775808) 9223372036854775807], [], some [.i (-1) 1], ([], []))
set_option maxRecDepth 1000000 in
theorem vx_2590 : ai_valid ai_Tb cx_2590 := ai_chkH_ok (n := 21) (D := [cx_2025]) ai_TbK (ai_D1 vx_2025 ai_D0) (by decide +kernel)
-- X2_floor
def cx_2591 : ai_C := (49, [.r 1, .r 90], [(11, [.r 1, .r 90, .i (-2147483648) 2147483647, .i (-2147483648) 2147483647, .i 0 13, .u], [], (.v 4 13, .n 8000000000, .n 8000000000))], some [.i (-2147483648) 2147483647], ([], []))
set_option maxRecDepth 1000000 in
theorem vx_2591 : ai_valid ai_Tb cx_2591 := ai_chkH_ok (n := 23) (D := [cx_2590]) ai_TbK (ai_D1 vx_2590 ai_D0) (by decide +kernel)
-- X4_follow
def cx_2592 : ai_C := (66, [.r 85, .i (-2147483648) 2147483647, .i (-2147483648) 2147483647, .i (-2147483648) 2147483647], [], none, ([], [1086]))
set_option maxRecDepth 1000000 in
theorem vx_2592 : ai_valid ai_Tb cx_2592 := ai_chkH_ok (n := 178) (D := [cx_2338, cx_2337]) ai_TbK (ai_D1 vx_2338 (ai_D1 vx_2337 ai_D0)) (by decide +kernel)
-- X4_isBeyond
def cx_2593 : ai_C := (69, [.r 85], [(2, [.r 85, .i 0 9], [], (.v 1 9, .n 8000000000, .n 8000000000))], some [.i 0 1], ([], []))
set_option maxRecDepth 1000000 in
theorem vx_2593 : ai_valid ai_Tb cx_2593 := ai_chkH_ok (n := 14) (D := []) ai_TbK ai_D0 (by decide +kernel)
-- X1_prepare
def cx_2594 : ai_C := (25, [.r 80, .r 1], [(17, [.r 80, .r 1], [], (.n 10, .n 0, .n 8000000000)), (34, [.r 80, .r 1], [(80, 4, 0, 59)], (.n 9, .n 0, .n 8000000000)), (47, [.r 80, .r 1], [(80, 4, 0, 59)], (.n 8, .n 0, .n 8000000000)), (63, [.r 80, .r 1], [(80, 4, 0, 59)], (.n 7, .n 0, .n 8000000000)), (74, [.r 80, .r 1], [(80, 4, 0, 59)], (.n 6, .n 0, .n 8000000000)), (90, [.r 80, .r 1], [(80, 4, 0, 59)], (.n 5, .n 0, .n 8000000000)), (113, [.r 80, .r 1], [(80, 4, 0, 59)], (.n 4, .n 0, .n 8000000000)), (137, [.r 80, .r 1], [(80, 4, 0, 59)], (.n 3, .n 0, .n 8000000000)), (158, [.r 80, .r 1], [(80, 4, 0, 59), (80, 12, (-2147483648), 99), (80, 13, (-2147483648), 99)], (.n 2, .n 0, .n 8000000000)), (169, [.r 80, .r 1], [(80, 4, 0, 59), (80, 12, (-2147483648), 99), (80, 13, (-2147483648), 99)], (.n 1, .n 0, .n 8000000000))], some [.i (-5) 0], ([(80, 12), (80, 13), (80, 14), (1087, 0), (1087, 1), (1087, 2), (1087, 3), (1088, 0), (1088, 1), (1088, 2), (1088, 3), (1089, 0), (1089, 1), (1089, 2), (1089, 3), (1090, 0), (1090, 1), (1090, 2), (1090, 3)], [1003, 1086]))
set_option maxRecDepth 1000000 in
theorem vx_2594 : ai_valid ai_Tb cx_2594 := ai_chkH_ok (n := 23) (D := [cx_2570, cx_2573, cx_2569, cx_2578, cx_2589, cx_2591, cx_2582, cx_2585, cx_2592, cx_2593, cx_2583, cx_2586, cx_2587, cx_2579]) ai_TbK (ai_D1 vx_2570 (ai_D1 vx_2573 (ai_D1 vx_2569 (ai_D1 vx_2578 (ai_D1 vx_2589 (ai_D1 vx_2591 (ai_D1 vx_2582 (ai_D1 vx_2585 (ai_D1 vx_2592 (ai_D1 vx_2593 (ai_D1 vx_2583 (ai_D1 vx_2586 (ai_D1 vx_2587 (ai_D1 vx_2579 ai_D0)))))))))))))) (by decide +kernel)
-- X1_isLikeLast
def cx_2595 : ai_C := (30, [.r 80, .i (-2147483648) 2147483647], [(2, [.r 80, .i (-2147483648) 2147483647, .i 0 10], [], (.v 2 10, .n 8000000000, .n 8000000000))], some [.i 0 1], ([], []))
set_option maxRecDepth 1000000 in
theorem vx_2595 : ai_valid ai_Tb cx_2595 := ai_chkH_ok (n := 19) (D := [cx_2567]) ai_TbK (ai_D1 vx_2567 ai_D0) (by decide +kernel)
-- X1_findPeriod
def cx_2596 : ai_C := (29, [.r 80], [], none, ([(80, 5), (80, 6)], []))
set_option maxRecDepth 1000000 in
theorem vx_2596 : ai_valid ai_Tb cx_2596 := ai_chkH_ok (n := 670) (D := [cx_2595]) ai_TbK (ai_D1 vx_2595 ai_D0) (by decide +kernel)
-- X1_take
def cx_2597 : ai_C := (27, [.r 80], [], none, ([(80, 4), (80, 5), (80, 6)], [81, 82, 1084]))
set_option maxRecDepth 1000000 in
theorem vx_2597 : ai_valid ai_Tb cx_2597 := ai_chkH_ok (n := 45) (D := [cx_2518, cx_2596]) ai_TbK (ai_D1 vx_2518 (ai_D1 vx_2596 ai_D0)) (by decide +kernel)
-- X1_hasPeriod
def cx_2598 : ai_C := (12, [.r 80], [], some [.i 0 1], ([], []))
set_option maxRecDepth 1000000 in
theorem vx_2598 : ai_valid ai_Tb cx_2598 := ai_chkH_ok (n := 11) (D := [cx_2570]) ai_TbK (ai_D1 vx_2570 ai_D0) (by decide +kernel)
-- X1_runOut
def cx_2599 : ai_C := (31, [.r 80, .r 1], [(2, [.r 80, .r 1, .i 0 61], [], (.v 2 61, .n 8000000000, .n 8000000000))], some [.i 0 3], ([(80, 4), (80, 5), (80, 6), (80, 12), (80, 13), (80, 14), (1087, 0), (1087, 1), (1087, 2), (1087, 3), (1088, 0), (1088, 1), (1088, 2), (1088, 3), (1089, 0), (1089, 1), (1089, 2), (1089, 3), (1090, 0), (1090, 1), (1090, 2), (1090, 3)], [81, 82, 1003, 1084, 1086]))
set_option maxRecDepth 1000000 in
theorem vx_2599 : ai_valid ai_Tb cx_2599 := ai_chkH_ok (n := 23) (D := [cx_2598, cx_2569, cx_2594, cx_2597]) ai_TbK (ai_D1 vx_2598 (ai_D1 vx_2569 (ai_D1 vx_2594 (ai_D1 vx_2597 ai_D0)))) (by decide +kernel)
-- X10_would
def cx_2600 : ai_C := (150, [.r 0, .i (-2147483648) 2147483647, .i (-2147483648) 2147483647, .i (-2147483648) 2147483647, .i (-2147483648) 2147483647], [(60, [.r 0, .i 0 5, .i 0 5, .i 0 1, .i 0 2, .u], [], (.n 3, .n 0, .n 8000000000)), (64, [.r 0, .i 0 5, .i 0 5, .i 0 1, .i 0 2, .u], [], (.n 2, .n 0, .n 8000000000)), (88, [.r 0, .i 0 5, .i 0 5, .i 0 1, .i 0 2, .u], [], (.n 1, .n 0, .n 8000000000))], some [.i (-2147483648) 61], ([(80, 3), (80, 4), (80, 5), (80, 6), (80, 12), (80, 13), (80, 14), (1087, 0), (1087, 1), (1087, 2), (1087, 3), (1088, 0), (1088, 1), (1088, 2), (1088, 3), (1089, 0), (1089, 1), (1089, 2), (1089, 3), (1090, 0), (1090, 1), (1090, 2), (1090, 3)], [81, 82, 1003, 1084, 1086]))
set_option maxRecDepth 1000000 in
theorem vx_2600 : ai_valid ai_Tb cx_2600 := ai_chkH_ok (n := 46) (D := [cx_2214, cx_2217, cx_2220, cx_2223, cx_2226, cx_2229, cx_2230, cx_2231, cx_2232, cx_2233, cx_2234, cx_2235, cx_2236, cx_2237, cx_2238, cx_2239, cx_2240, cx_2241, cx_2242, cx_2243, cx_2244, cx_2245, cx_2246, cx_2247, cx_2248, cx_2249, cx_2250, cx_2251, cx_2252, cx_2253, cx_2254, cx_2255, cx_2256, cx_2257, cx_2258, cx_2259, cx_2521, cx_2523, cx_2525, cx_2527, cx_2529, cx_2531, cx_2533, cx_2534, cx_2535, cx_2536, cx_2537, cx_2538, cx_2540, cx_2541, cx_2542, cx_2543, cx_2544, cx_2545, cx_2547, cx_2548, cx_2549, cx_2550, cx_2551, cx_2552, cx_2554, cx_2555, cx_2556, cx_2557, cx_2558, cx_2559, cx_2561, cx_2562, cx_2563, cx_2564, cx_2565, cx_2566, cx_2599]) ai_TbK (ai_D1 vx_2214 (ai_D1 vx_2217 (ai_D1 vx_2220 (ai_D1 vx_2223 (ai_D1 vx_2226 (ai_D1 vx_2229 (ai_D1 vx_2230 (ai_D1 vx_2231 (ai_D1 vx_2232 (ai_D1 vx_2233 (ai_D1 vx_2234 (ai_D1 vx_2235 (ai_D1 vx_2236 (ai_D1 vx_2237 (ai_D1 vx_2238 (ai_D1 vx_2239 (ai_D1 vx_2240 (ai_D1 vx_2241 (ai_D1 vx_2242 (ai_D1 vx_2243 (ai_D1 vx_2244 (ai_D1 vx_2245 (ai_D1 vx_2246 (ai_D1 vx_2247 (ai_D1 vx_2248 (ai_D1 vx_2249 (ai_D1 vx_2250 (ai_D1 vx_2251 (ai_D1 vx_2252 (ai_D1 vx_2253 (ai_D1 vx_2254 (ai_D1 vx_2255 (ai_D1 vx_2256 (ai_D1 vx_2257 (ai_D1 vx_2258 (ai_D1 vx_2259 (ai_D1 vx_2521 (ai_D1 vx_2523 (ai_D1 vx_2525 (ai_D1 vx_2527 (ai_D1 vx_2529 (ai_D1 vx_2531 (ai_D1 vx_2533 (ai_D1 vx_2534 (ai_D1 vx_2535 (ai_D1 vx_2536 (ai_D1 vx_2537 (ai_D1 vx_2538 (ai_D1 vx_2540 (ai_D1 vx_2541 (ai_D1 vx_2542 (ai_D1 vx_2543 (ai_D1 vx_2544 (ai_D1 vx_2545 (ai_D1 vx_2547 (ai_D1 vx_2548 (ai_D1 vx_2549 (ai_D1 vx_2550 (ai_D1 vx_2551 (ai_D1 vx_2552 (ai_D1 vx_2554 (ai_D1 vx_2555 (ai_D1 vx_2556 (ai_D1 vx_2557 (ai_D1 vx_2558 (ai_D1 vx_2559 (ai_D1 vx_2561 (ai_D1 vx_2562 (ai_D1 vx_2563 (ai_D1 vx_2564 (ai_D1 vx_2565 (ai_D1 vx_2566 (ai_D1 vx_2599 ai_D0))))))))))))))))))))))))))))))))))))))))))))))))))))))))))))))))))))))))) (by decide +kernel)
-- X1_countOf
def cx_2601 : ai_C := (32, [.r 6, .i (-2147483648) 2147483647], [(52, [.r 6, .i (-2147483648) 2147483647, .i (-2147483648) 2147483647, .i 1 61], [], (.v 3 61, .n 8000000000, .n 8000000000))], some [.i (-2147483648) 2147483647], ([], []))
set_option maxRecDepth 1000000 in
theorem vx_2601 : ai_valid ai_Tb cx_2601 := ai_chkH_ok (n := 20) (D := [cx_2316]) ai_TbK (ai_D1 vx_2316 ai_D0) (by decide +kernel)
-- X10_count
def cx_2602 : ai_C := (151, [.r 0, .i (-2147483648) 2147483647], [], some [.i (-2147483648) 2147483647], ([], []))
set_option maxRecDepth 1000000 in
theorem vx_2602 : ai_valid ai_Tb cx_2602 := ai_chkH_ok (n := 36) (D := [cx_2314, cx_2601, cx_2022]) ai_TbK (ai_D1 vx_2314 (ai_D1 vx_2601 (ai_D1 vx_2022 ai_D0))) (by decide +kernel)
-- X10_status
def cx_2603 : ai_C := (152, [.r 0], [], some [.i (-2147483648) 2147483647], ([], []))
set_option maxRecDepth 1000000 in
theorem vx_2603 : ai_valid ai_Tb cx_2603 := ai_chkH_ok (n := 5) (D := []) ai_TbK ai_D0 (by decide +kernel)
-- the calls, by their first numbers
abbrev cx_20 : ai_C := cx_2023
theorem vx_20 : ai_valid ai_Tb cx_20 := vx_2023
abbrev cx_21 : ai_C := cx_2024
theorem vx_21 : ai_valid ai_Tb cx_21 := vx_2024
abbrev cx_35 : ai_C := cx_2038
theorem vx_35 : ai_valid ai_Tb cx_35 := vx_2038
abbrev cx_39 : ai_C := cx_2049
theorem vx_39 : ai_valid ai_Tb cx_39 := vx_2049
abbrev cx_194 : ai_C := cx_2211
theorem vx_194 : ai_valid ai_Tb cx_194 := vx_2211
abbrev cx_280 : ai_C := cx_2313
theorem vx_280 : ai_valid ai_Tb cx_280 := vx_2313
abbrev cx_303 : ai_C := cx_2345
theorem vx_303 : ai_valid ai_Tb cx_303 := vx_2345
abbrev cx_304 : ai_C := cx_2347
theorem vx_304 : ai_valid ai_Tb cx_304 := vx_2347
abbrev cx_305 : ai_C := cx_2354
theorem vx_305 : ai_valid ai_Tb cx_305 := vx_2354
abbrev cx_307 : ai_C := cx_2356
theorem vx_307 : ai_valid ai_Tb cx_307 := vx_2356
abbrev cx_308 : ai_C := cx_2357
theorem vx_308 : ai_valid ai_Tb cx_308 := vx_2357
abbrev cx_315 : ai_C := cx_2366
theorem vx_315 : ai_valid ai_Tb cx_315 := vx_2366
abbrev cx_336 : ai_C := cx_2393
theorem vx_336 : ai_valid ai_Tb cx_336 := vx_2393
abbrev cx_355 : ai_C := cx_2415
theorem vx_355 : ai_valid ai_Tb cx_355 := vx_2415
abbrev cx_358 : ai_C := cx_2419
theorem vx_358 : ai_valid ai_Tb cx_358 := vx_2419
abbrev cx_363 : ai_C := cx_2424
theorem vx_363 : ai_valid ai_Tb cx_363 := vx_2424
abbrev cx_364 : ai_C := cx_2425
theorem vx_364 : ai_valid ai_Tb cx_364 := vx_2425
abbrev cx_365 : ai_C := cx_2426
theorem vx_365 : ai_valid ai_Tb cx_365 := vx_2426
abbrev cx_367 : ai_C := cx_2428
theorem vx_367 : ai_valid ai_Tb cx_367 := vx_2428
abbrev cx_404 : ai_C := cx_2465
theorem vx_404 : ai_valid ai_Tb cx_404 := vx_2465
abbrev cx_405 : ai_C := cx_2467
theorem vx_405 : ai_valid ai_Tb cx_405 := vx_2467
abbrev cx_407 : ai_C := cx_2469
theorem vx_407 : ai_valid ai_Tb cx_407 := vx_2469
abbrev cx_409 : ai_C := cx_2471
theorem vx_409 : ai_valid ai_Tb cx_409 := vx_2471
abbrev cx_412 : ai_C := cx_2474
theorem vx_412 : ai_valid ai_Tb cx_412 := vx_2474
abbrev cx_419 : ai_C := cx_2481
theorem vx_419 : ai_valid ai_Tb cx_419 := vx_2481
abbrev cx_420 : ai_C := cx_2482
theorem vx_420 : ai_valid ai_Tb cx_420 := vx_2482
abbrev cx_422 : ai_C := cx_2484
theorem vx_422 : ai_valid ai_Tb cx_422 := vx_2484
abbrev cx_424 : ai_C := cx_2487
theorem vx_424 : ai_valid ai_Tb cx_424 := vx_2487
abbrev cx_426 : ai_C := cx_2489
theorem vx_426 : ai_valid ai_Tb cx_426 := vx_2489
abbrev cx_430 : ai_C := cx_2493
theorem vx_430 : ai_valid ai_Tb cx_430 := vx_2493
abbrev cx_431 : ai_C := cx_2494
theorem vx_431 : ai_valid ai_Tb cx_431 := vx_2494
abbrev cx_433 : ai_C := cx_2496
theorem vx_433 : ai_valid ai_Tb cx_433 := vx_2496
abbrev cx_438 : ai_C := cx_2503
theorem vx_438 : ai_valid ai_Tb cx_438 := vx_2503
abbrev cx_439 : ai_C := cx_2504
theorem vx_439 : ai_valid ai_Tb cx_439 := vx_2504
abbrev cx_441 : ai_C := cx_2506
theorem vx_441 : ai_valid ai_Tb cx_441 := vx_2506
abbrev cx_444 : ai_C := cx_2509
theorem vx_444 : ai_valid ai_Tb cx_444 := vx_2509
abbrev cx_445 : ai_C := cx_2510
theorem vx_445 : ai_valid ai_Tb cx_445 := vx_2510
abbrev cx_446 : ai_C := cx_2511
theorem vx_446 : ai_valid ai_Tb cx_446 := vx_2511
abbrev cx_449 : ai_C := cx_2514
theorem vx_449 : ai_valid ai_Tb cx_449 := vx_2514
abbrev cx_508 : ai_C := cx_2600
theorem vx_508 : ai_valid ai_Tb cx_508 := vx_2600
abbrev cx_510 : ai_C := cx_2602
theorem vx_510 : ai_valid ai_Tb cx_510 := vx_2602
abbrev cx_511 : ai_C := cx_2603
theorem vx_511 : ai_valid ai_Tb cx_511 := vx_2603
abbrev cx_314 : ai_C := cx_2365
theorem vx_314 : ai_valid ai_Tb cx_314 := vx_2365
end
