noncomputable section
-- PART b55.cx
-- contexts of the class, checked by the kernel
-- X5_restore
def cx_2414 : ai_C := (76, [.r 28, .r 1, .r 5, .r 17, .r 6], [(19, [.r 28, .r 1, .r 5, .r 17, .r 6, .i 0 6], [], (.v 5 6, .n 8000000000, .n 8000000000))], none, ([(1, 0), (1, 1), (1, 2), (6, 3), (6, 4), (6, 5), (6, 6), (6, 12), (6, 13), (6, 14), (17, 1), (1013, 0), (1013, 1), (1013, 2), (1013, 3), (1014, 0), (1014, 1), (1014, 2), (1014, 3), (1015, 0), (1015, 1), (1015, 2), (1015, 3), (1016, 0), (1016, 1), (1016, 2), (1016, 3), (1102, 0), (1102, 1), (1102, 2), (1102, 3), (1103, 0), (1103, 1), (1103, 2), (1103, 3), (1104, 0), (1104, 1), (1104, 2), (1104, 3), (1105, 0), (1105, 1), (1105, 2), (1105, 3), (1106, 0), (1106, 1), (1106, 2), (1106, 3), (1107, 0), (1107, 1), (1107, 2), (1107, 3)], [7, 8, 18, 1003, 1010, 1012]))
set_option maxRecDepth 1000000 in
theorem vx_2414 : ai_valid ai_Tb cx_2414 := ai_chkH_ok (n := 56) (D := [cx_2020, cx_2413]) ai_TbK (ai_D1 vx_2020 (ai_D1 vx_2413 ai_D0)) (by decide +kernel)
-- X10_undo
def cx_2415 : ai_C := (124, [.r 0], [], some [.i (-2147483648) 2147483647], ([(1, 0), (1, 1), (1, 2), (6, 3), (6, 4), (6, 5), (6, 6), (6, 12), (6, 13), (6, 14), (17, 1), (23, 5), (78, 1), (79, 3), (1013, 0), (1013, 1), (1013, 2), (1013, 3), (1014, 0), (1014, 1), (1014, 2), (1014, 3), (1015, 0), (1015, 1), (1015, 2), (1015, 3), (1016, 0), (1016, 1), (1016, 2), (1016, 3), (1102, 0), (1102, 1), (1102, 2), (1102, 3), (1103, 0), (1103, 1), (1103, 2), (1103, 3), (1104, 0), (1104, 1), (1104, 2), (1104, 3), (1105, 0), (1105, 1), (1105, 2), (1105, 3), (1106, 0), (1106, 1), (1106, 2), (1106, 3), (1107, 0), (1107, 1), (1107, 2), (1107, 3)], [7, 8, 18, 1003, 1010, 1012]))
set_option maxRecDepth 1000000 in
theorem vx_2415 : ai_valid ai_Tb cx_2415 := ai_chkH_ok (n := 45) (D := [cx_2400, cx_2399, cx_2402, cx_2404, cx_2406, cx_2408, cx_2410, cx_2412, cx_2414, cx_2003]) ai_TbK (ai_D1 vx_2400 (ai_D1 vx_2399 (ai_D1 vx_2402 (ai_D1 vx_2404 (ai_D1 vx_2406 (ai_D1 vx_2408 (ai_D1 vx_2410 (ai_D1 vx_2412 (ai_D1 vx_2414 (ai_D1 vx_2003 ai_D0)))))))))) (by decide +kernel)
-- X5_take
def cx_2416 : ai_C := (75, [.r 73, .r 1, .r 5, .r 17, .r 6], [(27, [.r 73, .r 1, .r 5, .r 17, .r 6, .i 0 6], [], (.v 5 6, .n 8000000000, .n 8000000000))], none, ([(73, 0), (73, 1), (73, 2), (73, 6), (73, 7), (74, 0), (74, 1), (74, 2), (74, 3), (74, 4), (74, 5), (74, 6), (74, 7), (74, 8), (74, 9), (74, 10), (74, 11), (74, 12), (74, 13), (74, 14), (74, 15), (74, 16), (74, 17), (74, 18), (74, 19), (74, 20), (74, 21), (74, 22), (74, 23), (75, 1)], [76, 77]))
set_option maxRecDepth 1000000 in
theorem vx_2416 : ai_valid ai_Tb cx_2416 := ai_chkH_ok (n := 56) (D := []) ai_TbK ai_D0 (by decide +kernel)
-- X10_stepsOrNone
def cx_2417 : ai_C := (157, [.r 0], [], some [.i (-1) 60], ([], []))
set_option maxRecDepth 1000000 in
theorem vx_2417 : ai_valid ai_Tb cx_2417 := ai_chkH_ok (n := 10) (D := [cx_2314]) ai_TbK (ai_D1 vx_2314 ai_D0) (by decide +kernel)
-- X5_take
def cx_2418 : ai_C := (75, [.r 68, .r 1, .r 5, .r 17, .r 6], [(27, [.r 68, .r 1, .r 5, .r 17, .r 6, .i 0 6], [], (.v 5 6, .n 8000000000, .n 8000000000))], none, ([(68, 0), (68, 1), (68, 2), (68, 6), (68, 7), (69, 0), (69, 1), (69, 2), (69, 3), (69, 4), (69, 5), (69, 6), (69, 7), (69, 8), (69, 9), (69, 10), (69, 11), (69, 12), (69, 13), (69, 14), (69, 15), (69, 16), (69, 17), (69, 18), (69, 19), (69, 20), (69, 21), (69, 22), (69, 23), (70, 1)], [71, 72]))
set_option maxRecDepth 1000000 in
theorem vx_2418 : ai_valid ai_Tb cx_2418 := ai_chkH_ok (n := 56) (D := []) ai_TbK ai_D0 (by decide +kernel)
-- X10_image
def cx_2419 : ai_C := (125, [.r 0, .i (-2147483648) 2147483647], [], some [.i (-1) 60], ([(68, 0), (68, 1), (68, 2), (68, 6), (68, 7), (69, 0), (69, 1), (69, 2), (69, 3), (69, 4), (69, 5), (69, 6), (69, 7), (69, 8), (69, 9), (69, 10), (69, 11), (69, 12), (69, 13), (69, 14), (69, 15), (69, 16), (69, 17), (69, 18), (69, 19), (69, 20), (69, 21), (69, 22), (69, 23), (70, 1), (73, 0), (73, 1), (73, 2), (73, 6), (73, 7), (74, 0), (74, 1), (74, 2), (74, 3), (74, 4), (74, 5), (74, 6), (74, 7), (74, 8), (74, 9), (74, 10), (74, 11), (74, 12), (74, 13), (74, 14), (74, 15), (74, 16), (74, 17), (74, 18), (74, 19), (74, 20), (74, 21), (74, 22), (74, 23), (75, 1), (78, 1), (79, 0)], [27, 71, 72, 76, 77]))
set_option maxRecDepth 1000000 in
theorem vx_2419 : ai_valid ai_Tb cx_2419 := ai_chkH_ok (n := 37) (D := [cx_2416, cx_2418, cx_2417]) ai_TbK (ai_D1 vx_2416 (ai_D1 vx_2418 (ai_D1 vx_2417 ai_D0))) (by decide +kernel)
-- X1_reopen
def cx_2420 : ai_C := (22, [.r 6, .r 1, .r 77, .i (-2147483648) 2147483647, .i (-2147483648) 2147483647], [(35, [.r 6, .r 1, .r 77, .i (-2147483648) 2147483647, .i (-2147483648) 2147483647, .i 0 60], [], (.v 5 60, .n 8000000000, .n 8000000000))], none, ([(6, 3), (6, 4), (6, 5), (6, 6), (6, 12), (6, 13), (6, 14), (1013, 0), (1013, 1), (1013, 2), (1013, 3), (1014, 0), (1014, 1), (1014, 2), (1014, 3), (1015, 0), (1015, 1), (1015, 2), (1015, 3), (1016, 0), (1016, 1), (1016, 2), (1016, 3)], [7, 8, 1003, 1010, 1012]))
set_option maxRecDepth 1000000 in
theorem vx_2420 : ai_valid ai_Tb cx_2420 := ai_chkH_ok (n := 100) (D := [cx_2397, cx_2341, cx_2344]) ai_TbK (ai_D1 vx_2397 (ai_D1 vx_2341 (ai_D1 vx_2344 ai_D0))) (by decide +kernel)
-- X5_restore
def cx_2421 : ai_C := (76, [.r 73, .r 1, .r 5, .r 17, .r 6], [(19, [.r 73, .r 1, .r 5, .r 17, .r 6, .i 0 6], [], (.v 5 6, .n 8000000000, .n 8000000000))], none, ([(1, 0), (1, 1), (1, 2), (6, 3), (6, 4), (6, 5), (6, 6), (6, 12), (6, 13), (6, 14), (17, 1), (1013, 0), (1013, 1), (1013, 2), (1013, 3), (1014, 0), (1014, 1), (1014, 2), (1014, 3), (1015, 0), (1015, 1), (1015, 2), (1015, 3), (1016, 0), (1016, 1), (1016, 2), (1016, 3), (1102, 0), (1102, 1), (1102, 2), (1102, 3), (1103, 0), (1103, 1), (1103, 2), (1103, 3), (1104, 0), (1104, 1), (1104, 2), (1104, 3), (1105, 0), (1105, 1), (1105, 2), (1105, 3), (1106, 0), (1106, 1), (1106, 2), (1106, 3), (1107, 0), (1107, 1), (1107, 2), (1107, 3)], [7, 8, 18, 1003, 1010, 1012]))
set_option maxRecDepth 1000000 in
theorem vx_2421 : ai_valid ai_Tb cx_2421 := ai_chkH_ok (n := 56) (D := [cx_2020, cx_2420]) ai_TbK (ai_D1 vx_2020 (ai_D1 vx_2420 ai_D0)) (by decide +kernel)
-- X1_reopen
def cx_2422 : ai_C := (22, [.r 6, .r 1, .r 72, .i (-2147483648) 2147483647, .i (-2147483648) 2147483647], [(35, [.r 6, .r 1, .r 72, .i (-2147483648) 2147483647, .i (-2147483648) 2147483647, .i 0 60], [], (.v 5 60, .n 8000000000, .n 8000000000))], none, ([(6, 3), (6, 4), (6, 5), (6, 6), (6, 12), (6, 13), (6, 14), (1013, 0), (1013, 1), (1013, 2), (1013, 3), (1014, 0), (1014, 1), (1014, 2), (1014, 3), (1015, 0), (1015, 1), (1015, 2), (1015, 3), (1016, 0), (1016, 1), (1016, 2), (1016, 3)], [7, 8, 1003, 1010, 1012]))
set_option maxRecDepth 1000000 in
theorem vx_2422 : ai_valid ai_Tb cx_2422 := ai_chkH_ok (n := 100) (D := [cx_2397, cx_2341, cx_2344]) ai_TbK (ai_D1 vx_2397 (ai_D1 vx_2341 (ai_D1 vx_2344 ai_D0))) (by decide +kernel)
-- X5_restore
def cx_2423 : ai_C := (76, [.r 68, .r 1, .r 5, .r 17, .r 6], [(19, [.r 68, .r 1, .r 5, .r 17, .r 6, .i 0 6], [], (.v 5 6, .n 8000000000, .n 8000000000))], none, ([(1, 0), (1, 1), (1, 2), (6, 3), (6, 4), (6, 5), (6, 6), (6, 12), (6, 13), (6, 14), (17, 1), (1013, 0), (1013, 1), (1013, 2), (1013, 3), (1014, 0), (1014, 1), (1014, 2), (1014, 3), (1015, 0), (1015, 1), (1015, 2), (1015, 3), (1016, 0), (1016, 1), (1016, 2), (1016, 3), (1102, 0), (1102, 1), (1102, 2), (1102, 3), (1103, 0), (1103, 1), (1103, 2), (1103, 3), (1104, 0), (1104, 1), (1104, 2), (1104, 3), (1105, 0), (1105, 1), (1105, 2), (1105, 3), (1106, 0), (1106, 1), (1106, 2), (1106, 3), (1107, 0), (1107, 1), (1107, 2), (1107, 3)], [7, 8, 18, 1003, 1010, 1012]))
set_option maxRecDepth 1000000 in
theorem vx_2423 : ai_valid ai_Tb cx_2423 := ai_chkH_ok (n := 56) (D := [cx_2020, cx_2422]) ai_TbK (ai_D1 vx_2020 (ai_D1 vx_2422 ai_D0)) (by decide +kernel)
-- X10_back
def cx_2424 : ai_C := (126, [.r 0, .i (-2147483648) 2147483647], [], some [.i (-2) 60], ([(1, 0), (1, 1), (1, 2), (6, 3), (6, 4), (6, 5), (6, 6), (6, 12), (6, 13), (6, 14), (17, 1), (23, 5), (78, 1), (79, 0), (79, 1), (1013, 0), (1013, 1), (1013, 2), (1013, 3), (1014, 0), (1014, 1), (1014, 2), (1014, 3), (1015, 0), (1015, 1), (1015, 2), (1015, 3), (1016, 0), (1016, 1), (1016, 2), (1016, 3), (1102, 0), (1102, 1), (1102, 2), (1102, 3), (1103, 0), (1103, 1), (1103, 2), (1103, 3), (1104, 0), (1104, 1), (1104, 2), (1104, 3), (1105, 0), (1105, 1), (1105, 2), (1105, 3), (1106, 0), (1106, 1), (1106, 2), (1106, 3), (1107, 0), (1107, 1), (1107, 2), (1107, 3)], [7, 8, 18, 1003, 1010, 1012]))
set_option maxRecDepth 1000000 in
theorem vx_2424 : ai_valid ai_Tb cx_2424 := ai_chkH_ok (n := 44) (D := [cx_2421, cx_2423, cx_2417]) ai_TbK (ai_D1 vx_2421 (ai_D1 vx_2423 (ai_D1 vx_2417 ai_D0))) (by decide +kernel)
-- X10_value
def cx_2425 : ai_C := (127, [.r 0, .i (-2147483648) 2147483647, .i (-2147483648) 2147483647], [], some [.i (-2147483648) 2147483647], ([], []))
set_option maxRecDepth 1000000 in
theorem vx_2425 : ai_valid ai_Tb cx_2425 := ai_chkH_ok (n := 41) (D := [cx_2212, cx_2215, cx_2218, cx_2221, cx_2224, cx_2227, cx_2027, cx_2029, cx_2031, cx_2033, cx_2035, cx_2037]) ai_TbK (ai_D1 vx_2212 (ai_D1 vx_2215 (ai_D1 vx_2218 (ai_D1 vx_2221 (ai_D1 vx_2224 (ai_D1 vx_2227 (ai_D1 vx_2027 (ai_D1 vx_2029 (ai_D1 vx_2031 (ai_D1 vx_2033 (ai_D1 vx_2035 (ai_D1 vx_2037 ai_D0)))))))))))) (by decide +kernel)
-- X10_matrix
def cx_2426 : ai_C := (128, [.r 0, .i (-2147483648) 2147483647, .i (-2147483648) 2147483647, .i (-2147483648) 2147483647], [], some [.l (-9223372036854775808) 9223372036854775807], ([], [1003]))
set_option maxRecDepth 1000000 in
theorem vx_2426 : ai_valid ai_Tb cx_2426 := ai_chkH_ok (n := 54) (D := [cx_2053, cx_2054]) ai_TbK (ai_D1 vx_2053 (ai_D1 vx_2054 ai_D0)) (by decide +kernel)
-- X10_lowest
def cx_2427 : ai_C := (164, [.l (-9223372036854775808) 9223372036854775807, .l (-9223372036854775808) 9223372036854775807, .i (-2147483648) 2147483647], [], some [.l (-9223372036854775808) 9223372036854775807], ([], []))
set_option maxRecDepth 1000000 in
theorem vx_2427 : ai_valid ai_Tb cx_2427 := ai_chkH_ok (n := 16) (D := [cx_2013]) ai_TbK (ai_D1 vx_2013 ai_D0) (by decide +kernel)
-- X10_norm
def cx_2428 : ai_C := (129, [.r 0, .i (-2147483648) 2147483647, .i (-2147483648) 2147483647, .i (-2147483648) 2147483647], [], some [.l (-9223372036854775808) 9223372036854775807], ([], [1003]))
set_option maxRecDepth 1000000 in
theorem vx_2428 : ai_valid ai_Tb cx_2428 := ai_chkH_ok (n := 62) (D := [cx_2053, cx_2058, cx_2427]) ai_TbK (ai_D1 vx_2053 (ai_D1 vx_2058 (ai_D1 vx_2427 ai_D0))) (by decide +kernel)
-- X2_signOfDifference
def cx_2429 : ai_C := (48, [.r 1, .r 107, .r 107], [], some [.i (-1) 1], ([], []))
set_option maxRecDepth 1000000 in
theorem vx_2429 : ai_valid ai_Tb cx_2429 := ai_chkH_ok (n := 37) (D := [cx_2025]) ai_TbK (ai_D1 vx_2025 ai_D0) (by decide +kernel)
-- X2_signOfDifference
def cx_2430 : ai_C := (48, [.r 1, .r 107, .r 106], [], some [.i (-1) 1], ([], []))
set_option maxRecDepth 1000000 in
theorem vx_2430 : ai_valid ai_Tb cx_2430 := ai_chkH_ok (n := 37) (D := [cx_2025]) ai_TbK (ai_D1 vx_2025 ai_D0) (by decide +kernel)
-- X2_signOfDifference
def cx_2431 : ai_C := (48, [.r 1, .r 107, .r 105], [], some [.i (-1) 1], ([], []))
set_option maxRecDepth 1000000 in
theorem vx_2431 : ai_valid ai_Tb cx_2431 := ai_chkH_ok (n := 37) (D := [cx_2025]) ai_TbK (ai_D1 vx_2025 ai_D0) (by decide +kernel)
-- X2_signOfDifference
def cx_2432 : ai_C := (48, [.r 1, .r 107, .r 104], [], some [.i (-1) 1], ([], []))
set_option maxRecDepth 1000000 in
theorem vx_2432 : ai_valid ai_Tb cx_2432 := ai_chkH_ok (n := 37) (D := [cx_2025]) ai_TbK (ai_D1 vx_2025 ai_D0) (by decide +kernel)
-- X2_signOfDifference
def cx_2433 : ai_C := (48, [.r 1, .r 107, .r 103], [], some [.i (-1) 1], ([], []))
set_option maxRecDepth 1000000 in
theorem vx_2433 : ai_valid ai_Tb cx_2433 := ai_chkH_ok (n := 37) (D := [cx_2025]) ai_TbK (ai_D1 vx_2025 ai_D0) (by decide +kernel)
-- X2_signOfDifference
def cx_2434 : ai_C := (48, [.r 1, .r 107, .r 102], [], some [.i (-1) 1], ([], []))
set_option maxRecDepth 1000000 in
theorem vx_2434 : ai_valid ai_Tb cx_2434 := ai_chkH_ok (n := 37) (D := [cx_2025]) ai_TbK (ai_D1 vx_2025 ai_D0) (by decide +kernel)
-- X2_signOfDifference
def cx_2435 : ai_C := (48, [.r 1, .r 106, .r 107], [], some [.i (-1) 1], ([], []))
set_option maxRecDepth 1000000 in
theorem vx_2435 : ai_valid ai_Tb cx_2435 := ai_chkH_ok (n := 37) (D := [cx_2025]) ai_TbK (ai_D1 vx_2025 ai_D0) (by decide +kernel)
-- X2_signOfDifference
def cx_2436 : ai_C := (48, [.r 1, .r 106, .r 106], [], some [.i (-1) 1], ([], []))
set_option maxRecDepth 1000000 in
theorem vx_2436 : ai_valid ai_Tb cx_2436 := ai_chkH_ok (n := 37) (D := [cx_2025]) ai_TbK (ai_D1 vx_2025 ai_D0) (by decide +kernel)
-- X2_signOfDifference
def cx_2437 : ai_C := (48, [.r 1, .r 106, .r 105], [], some [.i (-1) 1], ([], []))
set_option maxRecDepth 1000000 in
theorem vx_2437 : ai_valid ai_Tb cx_2437 := ai_chkH_ok (n := 37) (D := [cx_2025]) ai_TbK (ai_D1 vx_2025 ai_D0) (by decide +kernel)
-- X2_signOfDifference
def cx_2438 : ai_C := (48, [.r 1, .r 106, .r 104], [], some [.i (-1) 1], ([], []))
set_option maxRecDepth 1000000 in
theorem vx_2438 : ai_valid ai_Tb cx_2438 := ai_chkH_ok (n := 37) (D := [cx_2025]) ai_TbK (ai_D1 vx_2025 ai_D0) (by decide +kernel)
-- X2_signOfDifference
def cx_2439 : ai_C := (48, [.r 1, .r 106, .r 103], [], some [.i (-1) 1], ([], []))
set_option maxRecDepth 1000000 in
theorem vx_2439 : ai_valid ai_Tb cx_2439 := ai_chkH_ok (n := 37) (D := [cx_2025]) ai_TbK (ai_D1 vx_2025 ai_D0) (by decide +kernel)
-- X2_signOfDifference
def cx_2440 : ai_C := (48, [.r 1, .r 106, .r 102], [], some [.i (-1) 1], ([], []))
set_option maxRecDepth 1000000 in
theorem vx_2440 : ai_valid ai_Tb cx_2440 := ai_chkH_ok (n := 37) (D := [cx_2025]) ai_TbK (ai_D1 vx_2025 ai_D0) (by decide +kernel)
-- X2_signOfDifference
def cx_2441 : ai_C := (48, [.r 1, .r 105, .r 107], [], some [.i (-1) 1], ([], []))
set_option maxRecDepth 1000000 in
theorem vx_2441 : ai_valid ai_Tb cx_2441 := ai_chkH_ok (n := 37) (D := [cx_2025]) ai_TbK (ai_D1 vx_2025 ai_D0) (by decide +kernel)
-- X2_signOfDifference
def cx_2442 : ai_C := (48, [.r 1, .r 105, .r 106], [], some [.i (-1) 1], ([], []))
set_option maxRecDepth 1000000 in
theorem vx_2442 : ai_valid ai_Tb cx_2442 := ai_chkH_ok (n := 37) (D := [cx_2025]) ai_TbK (ai_D1 vx_2025 ai_D0) (by decide +kernel)
-- X2_signOfDifference
def cx_2443 : ai_C := (48, [.r 1, .r 105, .r 105], [], some [.i (-1) 1], ([], []))
set_option maxRecDepth 1000000 in
theorem vx_2443 : ai_valid ai_Tb cx_2443 := ai_chkH_ok (n := 37) (D := [cx_2025]) ai_TbK (ai_D1 vx_2025 ai_D0) (by decide +kernel)
-- X2_signOfDifference
def cx_2444 : ai_C := (48, [.r 1, .r 105, .r 104], [], some [.i (-1) 1], ([], []))
set_option maxRecDepth 1000000 in
theorem vx_2444 : ai_valid ai_Tb cx_2444 := ai_chkH_ok (n := 37) (D := [cx_2025]) ai_TbK (ai_D1 vx_2025 ai_D0) (by decide +kernel)
-- X2_signOfDifference
def cx_2445 : ai_C := (48, [.r 1, .r 105, .r 103], [], some [.i (-1) 1], ([], []))
set_option maxRecDepth 1000000 in
theorem vx_2445 : ai_valid ai_Tb cx_2445 := ai_chkH_ok (n := 37) (D := [cx_2025]) ai_TbK (ai_D1 vx_2025 ai_D0) (by decide +kernel)
-- X2_signOfDifference
def cx_2446 : ai_C := (48, [.r 1, .r 105, .r 102], [], some [.i (-1) 1], ([], []))
set_option maxRecDepth 1000000 in
theorem vx_2446 : ai_valid ai_Tb cx_2446 := ai_chkH_ok (n := 37) (D := [cx_2025]) ai_TbK (ai_D1 vx_2025 ai_D0) (by decide +kernel)
-- X2_signOfDifference
def cx_2447 : ai_C := (48, [.r 1, .r 104, .r 107], [], some [.i (-1) 1], ([], []))
set_option maxRecDepth 1000000 in
theorem vx_2447 : ai_valid ai_Tb cx_2447 := ai_chkH_ok (n := 37) (D := [cx_2025]) ai_TbK (ai_D1 vx_2025 ai_D0) (by decide +kernel)
-- X2_signOfDifference
def cx_2448 : ai_C := (48, [.r 1, .r 104, .r 106], [], some [.i (-1) 1], ([], []))
set_option maxRecDepth 1000000 in
theorem vx_2448 : ai_valid ai_Tb cx_2448 := ai_chkH_ok (n := 37) (D := [cx_2025]) ai_TbK (ai_D1 vx_2025 ai_D0) (by decide +kernel)
-- X2_signOfDifference
def cx_2449 : ai_C := (48, [.r 1, .r 104, .r 105], [], some [.i (-1) 1], ([], []))
set_option maxRecDepth 1000000 in
theorem vx_2449 : ai_valid ai_Tb cx_2449 := ai_chkH_ok (n := 37) (D := [cx_2025]) ai_TbK (ai_D1 vx_2025 ai_D0) (by decide +kernel)
-- X2_signOfDifference
def cx_2450 : ai_C := (48, [.r 1, .r 104, .r 104], [], some [.i (-1) 1], ([], []))
set_option maxRecDepth 1000000 in
theorem vx_2450 : ai_valid ai_Tb cx_2450 := ai_chkH_ok (n := 37) (D := [cx_2025]) ai_TbK (ai_D1 vx_2025 ai_D0) (by decide +kernel)
-- X2_signOfDifference
def cx_2451 : ai_C := (48, [.r 1, .r 104, .r 103], [], some [.i (-1) 1], ([], []))
set_option maxRecDepth 1000000 in
theorem vx_2451 : ai_valid ai_Tb cx_2451 := ai_chkH_ok (n := 37) (D := [cx_2025]) ai_TbK (ai_D1 vx_2025 ai_D0) (by decide +kernel)
-- X2_signOfDifference
def cx_2452 : ai_C := (48, [.r 1, .r 104, .r 102], [], some [.i (-1) 1], ([], []))
set_option maxRecDepth 1000000 in
theorem vx_2452 : ai_valid ai_Tb cx_2452 := ai_chkH_ok (n := 37) (D := [cx_2025]) ai_TbK (ai_D1 vx_2025 ai_D0) (by decide +kernel)
-- X2_signOfDifference
def cx_2453 : ai_C := (48, [.r 1, .r 103, .r 107], [], some [.i (-1) 1], ([], []))
set_option maxRecDepth 1000000 in
theorem vx_2453 : ai_valid ai_Tb cx_2453 := ai_chkH_ok (n := 37) (D := [cx_2025]) ai_TbK (ai_D1 vx_2025 ai_D0) (by decide +kernel)
-- X2_signOfDifference
def cx_2454 : ai_C := (48, [.r 1, .r 103, .r 106], [], some [.i (-1) 1], ([], []))
set_option maxRecDepth 1000000 in
theorem vx_2454 : ai_valid ai_Tb cx_2454 := ai_chkH_ok (n := 37) (D := [cx_2025]) ai_TbK (ai_D1 vx_2025 ai_D0) (by decide +kernel)
-- X2_signOfDifference
def cx_2455 : ai_C := (48, [.r 1, .r 103, .r 105], [], some [.i (-1) 1], ([], []))
set_option maxRecDepth 1000000 in
theorem vx_2455 : ai_valid ai_Tb cx_2455 := ai_chkH_ok (n := 37) (D := [cx_2025]) ai_TbK (ai_D1 vx_2025 ai_D0) (by decide +kernel)
-- X2_signOfDifference
def cx_2456 : ai_C := (48, [.r 1, .r 103, .r 104], [], some [.i (-1) 1], ([], []))
set_option maxRecDepth 1000000 in
theorem vx_2456 : ai_valid ai_Tb cx_2456 := ai_chkH_ok (n := 37) (D := [cx_2025]) ai_TbK (ai_D1 vx_2025 ai_D0) (by decide +kernel)
-- X2_signOfDifference
def cx_2457 : ai_C := (48, [.r 1, .r 103, .r 103], [], some [.i (-1) 1], ([], []))
set_option maxRecDepth 1000000 in
theorem vx_2457 : ai_valid ai_Tb cx_2457 := ai_chkH_ok (n := 37) (D := [cx_2025]) ai_TbK (ai_D1 vx_2025 ai_D0) (by decide +kernel)
-- X2_signOfDifference
def cx_2458 : ai_C := (48, [.r 1, .r 103, .r 102], [], some [.i (-1) 1], ([], []))
set_option maxRecDepth 1000000 in
theorem vx_2458 : ai_valid ai_Tb cx_2458 := ai_chkH_ok (n := 37) (D := [cx_2025]) ai_TbK (ai_D1 vx_2025 ai_D0) (by decide +kernel)
-- X2_signOfDifference
def cx_2459 : ai_C := (48, [.r 1, .r 102, .r 107], [], some [.i (-1) 1], ([], []))
set_option maxRecDepth 1000000 in
theorem vx_2459 : ai_valid ai_Tb cx_2459 := ai_chkH_ok (n := 37) (D := [cx_2025]) ai_TbK (ai_D1 vx_2025 ai_D0) (by decide +kernel)
-- X2_signOfDifference
def cx_2460 : ai_C := (48, [.r 1, .r 102, .r 106], [], some [.i (-1) 1], ([], []))
set_option maxRecDepth 1000000 in
theorem vx_2460 : ai_valid ai_Tb cx_2460 := ai_chkH_ok (n := 37) (D := [cx_2025]) ai_TbK (ai_D1 vx_2025 ai_D0) (by decide +kernel)
-- X2_signOfDifference
def cx_2461 : ai_C := (48, [.r 1, .r 102, .r 105], [], some [.i (-1) 1], ([], []))
set_option maxRecDepth 1000000 in
theorem vx_2461 : ai_valid ai_Tb cx_2461 := ai_chkH_ok (n := 37) (D := [cx_2025]) ai_TbK (ai_D1 vx_2025 ai_D0) (by decide +kernel)
-- X2_signOfDifference
def cx_2462 : ai_C := (48, [.r 1, .r 102, .r 104], [], some [.i (-1) 1], ([], []))
set_option maxRecDepth 1000000 in
theorem vx_2462 : ai_valid ai_Tb cx_2462 := ai_chkH_ok (n := 37) (D := [cx_2025]) ai_TbK (ai_D1 vx_2025 ai_D0) (by decide +kernel)
-- X2_signOfDifference
def cx_2463 : ai_C := (48, [.r 1, .r 102, .r 103], [], some [.i (-1) 1], ([], []))
set_option maxRecDepth 1000000 in
theorem vx_2463 : ai_valid ai_Tb cx_2463 := ai_chkH_ok (n := 37) (D := [cx_2025]) ai_TbK (ai_D1 vx_2025 ai_D0) (by decide +kernel)
-- X2_signOfDifference
def cx_2464 : ai_C := (48, [.r 1, .r 102, .r 102], [], some [.i (-1) 1], ([], []))
set_option maxRecDepth 1000000 in
theorem vx_2464 : ai_valid ai_Tb cx_2464 := ai_chkH_ok (n := 37) (D := [cx_2025]) ai_TbK (ai_D1 vx_2025 ai_D0) (by decide +kernel)
-- X10_compare
def cx_2465 : ai_C := (130, [.r 0, .i (-2147483648) 2147483647, .i (-2147483648) 2147483647], [], some [.i (-2) 1], ([], []))
set_option maxRecDepth 1000000 in
theorem vx_2465 : ai_valid ai_Tb cx_2465 := ai_chkH_ok (n := 35) (D := [cx_2429, cx_2430, cx_2431, cx_2432, cx_2433, cx_2434, cx_2435, cx_2436, cx_2437, cx_2438, cx_2439, cx_2440, cx_2441, cx_2442, cx_2443, cx_2444, cx_2445, cx_2446, cx_2447, cx_2448, cx_2449, cx_2450, cx_2451, cx_2452, cx_2453, cx_2454, cx_2455, cx_2456, cx_2457, cx_2458, cx_2459, cx_2460, cx_2461, cx_2462, cx_2463, cx_2464]) ai_TbK (ai_D1 vx_2429 (ai_D1 vx_2430 (ai_D1 vx_2431 (ai_D1 vx_2432 (ai_D1 vx_2433 (ai_D1 vx_2434 (ai_D1 vx_2435 (ai_D1 vx_2436 (ai_D1 vx_2437 (ai_D1 vx_2438 (ai_D1 vx_2439 (ai_D1 vx_2440 (ai_D1 vx_2441 (ai_D1 vx_2442 (ai_D1 vx_2443 (ai_D1 vx_2444 (ai_D1 vx_2445 (ai_D1 vx_2446 (ai_D1 vx_2447 (ai_D1 vx_2448 (ai_D1 vx_2449 (ai_D1 vx_2450 (ai_D1 vx_2451 (ai_D1 vx_2452 (ai_D1 vx_2453 (ai_D1 vx_2454 (ai_D1 vx_2455 (ai_D1 vx_2456 (ai_D1 vx_2457 (ai_D1 vx_2458 (ai_D1 vx_2459 (ai_D1 vx_2460 (ai_D1 vx_2461 (ai_D1 vx_2462 (ai_D1 vx_2463 (ai_D1 vx_2464 ai_D0)))))))))))))))))))))))))))))))))))) (by decide +kernel)
-- X1_hasState
def cx_2466 : ai_C := (13, [.r 6, .i (-2147483648) 2147483647], [], some [.i 0 1], ([], []))
set_option maxRecDepth 1000000 in
theorem vx_2466 : ai_valid ai_Tb cx_2466 := ai_chkH_ok (n := 13) (D := [cx_2314]) ai_TbK (ai_D1 vx_2314 ai_D0) (by decide +kernel)
-- X10_state
def cx_2467 : ai_C := (131, [.r 0, .i (-2147483648) 2147483647, .i (-2147483648) 2147483647, .i (-2147483648) 2147483647], [], some [.i (-2147483648) 2147483647], ([], []))
set_option maxRecDepth 1000000 in
theorem vx_2467 : ai_valid ai_Tb cx_2467 := ai_chkH_ok (n := 21) (D := [cx_2466, cx_2311]) ai_TbK (ai_D1 vx_2466 (ai_D1 vx_2311 ai_D0)) (by decide +kernel)
-- X1_digitOf
def cx_2468 : ai_C := (17, [.r 6, .i (-2147483648) 2147483647, .i (-2147483648) 2147483647], [], some [.i (-2147483648) 2147483647], ([], []))
set_option maxRecDepth 1000000 in
theorem vx_2468 : ai_valid ai_Tb cx_2468 := ai_chkH_ok (n := 23) (D := [cx_2312]) ai_TbK (ai_D1 vx_2312 ai_D0) (by decide +kernel)
-- X10_digit
def cx_2469 : ai_C := (132, [.r 0, .i (-2147483648) 2147483647, .i (-2147483648) 2147483647], [], some [.i (-2147483648) 2147483647], ([], []))
set_option maxRecDepth 1000000 in
theorem vx_2469 : ai_valid ai_Tb cx_2469 := ai_chkH_ok (n := 19) (D := [cx_2314, cx_2468]) ai_TbK (ai_D1 vx_2314 (ai_D1 vx_2468 ai_D0)) (by decide +kernel)
-- X4_cell
def cx_2470 : ai_C := (62, [.r 9, .i (-2147483648) 2147483647, .i (-2147483648) 2147483647], [], some [.l (-9223372036854775808) 9223372036854775807], ([], []))
set_option maxRecDepth 1000000 in
theorem vx_2470 : ai_valid ai_Tb cx_2470 := ai_chkH_ok (n := 28) (D := []) ai_TbK ai_D0 (by decide +kernel)
-- X10_product
def cx_2471 : ai_C := (133, [.r 0, .i (-2147483648) 2147483647, .i (-2147483648) 2147483647], [], some [.l (-9223372036854775808) 9223372036854775807], ([], []))
set_option maxRecDepth 1000000 in
theorem vx_2471 : ai_valid ai_Tb cx_2471 := ai_chkH_ok (n := 29) (D := [cx_2314, cx_2470]) ai_TbK (ai_D1 vx_2314 (ai_D1 vx_2470 ai_D0)) (by decide +kernel)
-- X4_cofactor
def cx_2472 : ai_C := (71, [.r 9, .i (-2147483648) 2147483647, .i (-2147483648) 2147483647], [], some [.l (-9223372036854775808) 9223372036854775807], ([], []))
set_option maxRecDepth 1000000 in
theorem vx_2472 : ai_valid ai_Tb cx_2472 := ai_chkH_ok (n := 74) (D := []) ai_TbK ai_D0 (by decide +kernel)
-- X4_equate
def cx_2473 : ai_C := (72, [.r 9, .i (-2147483648) 2147483647], [], some [.l (-9223372036854775808) 9223372036854775807], ([], []))
set_option maxRecDepth 1000000 in
theorem vx_2473 : ai_valid ai_Tb cx_2473 := ai_chkH_ok (n := 36) (D := [cx_2472]) ai_TbK (ai_D1 vx_2472 ai_D0) (by decide +kernel)
-- X10_determinant
def cx_2474 : ai_C := (134, [.r 0], [], some [.i (-2147483648) 2147483647], ([], []))
set_option maxRecDepth 1000000 in
theorem vx_2474 : ai_valid ai_Tb cx_2474 := ai_chkH_ok (n := 13) (D := [cx_2314, cx_2473]) ai_TbK (ai_D1 vx_2314 (ai_D1 vx_2473 ai_D0)) (by decide +kernel)
-- X0_order
def cx_2475 : ai_C := (3, [.r 9, .i (-2147483648) 2147483647, .i (-2147483648) 2147483647, .i (-2147483648) 2147483647], [(38, [.r 9, .i (-2147483648) 2147483647, .i (-2147483648) 2147483647, .i (-2147483648) 2147483647, .l (-9223372036854775808) 9223372036854775807, .u, .l (-9223372036854775808) 9223372036854775807, .u, .l (-9223372036854775808) 9223372036854775807, .u, .l (-9223372036854775808) 9223372036854775807, .u, .i (-1) 1, .i 0 200, .u, .u, .u, .u], [], (.v 13 200, .n 8000000000, .n 8000000000))], some [.i (-1) 1], ([], []))
set_option maxRecDepth 1000000 in
theorem vx_2475 : ai_valid ai_Tb cx_2475 := ai_chkH_ok (n := 50) (D := [cx_2470]) ai_TbK (ai_D1 vx_2470 ai_D0) (by decide +kernel)
-- X0_layPart
def cx_2476 : ai_C := (2, [.r 97, .r 9, .i 0 0], [(13, [.r 97, .r 9, .i 0 0, .i 1 1, .i 0 2, .i 0 2, .i 1 3, .u], [], (.n 2, .v 6 3, .n 8000000000)), (82, [.r 97, .r 9, .i 0 0, .i 1 1, .i 0 2, .i 0 2, .i 0 2, .u], [(99, 0, 0, 2), (99, 1, 0, 2)], (.n 1, .v 6 2, .n 8000000000))], none, ([(99, 0), (99, 1)], [1098]))
set_option maxRecDepth 1000000 in
theorem vx_2476 : ai_valid ai_Tb cx_2476 := ai_chkH_ok (n := 58) (D := [cx_2475, cx_2470, cx_2427]) ai_TbK (ai_D1 vx_2475 (ai_D1 vx_2470 (ai_D1 vx_2427 ai_D0))) (by decide +kernel)
-- X0_layPart
def cx_2477 : ai_C := (2, [.r 97, .r 9, .i 1 1], [(13, [.r 97, .r 9, .i 1 1, .i 2 2, .i 0 2, .i 0 2, .i 1 3, .u], [], (.n 2, .v 6 3, .n 8000000000)), (82, [.r 97, .r 9, .i 1 1, .i 2 2, .i 0 2, .i 0 2, .i 0 2, .u], [(99, 2, 0, 2), (99, 3, 0, 2)], (.n 1, .v 6 2, .n 8000000000))], none, ([(99, 2), (99, 3)], [1098]))
set_option maxRecDepth 1000000 in
theorem vx_2477 : ai_valid ai_Tb cx_2477 := ai_chkH_ok (n := 58) (D := [cx_2475, cx_2470, cx_2427]) ai_TbK (ai_D1 vx_2475 (ai_D1 vx_2470 (ai_D1 vx_2427 ai_D0))) (by decide +kernel)
-- X0_lay
def cx_2478 : ai_C := (1, [.r 97, .r 9], [(2, [.r 97, .r 9, .i 0 3], [], (.v 2 3, .n 8000000000, .n 8000000000))], some [.i 0 1], ([(99, 0), (99, 1), (99, 2), (99, 3)], [1098]))
set_option maxRecDepth 1000000 in
theorem vx_2478 : ai_valid ai_Tb cx_2478 := ai_chkH_ok (n := 14) (D := [cx_2476, cx_2477, cx_2470]) ai_TbK (ai_D1 vx_2476 (ai_D1 vx_2477 (ai_D1 vx_2470 ai_D0))) (by decide +kernel)
-- X10_hasBounds
def cx_2479 : ai_C := (160, [.r 0], [], some [.i 0 1], ([(99, 0), (99, 1), (99, 2), (99, 3)], [1098]))
set_option maxRecDepth 1000000 in
theorem vx_2479 : ai_valid ai_Tb cx_2479 := ai_chkH_ok (n := 15) (D := [cx_2478, cx_2314]) ai_TbK (ai_D1 vx_2478 (ai_D1 vx_2314 ai_D0)) (by decide +kernel)
-- X0_endOf
def cx_2480 : ai_C := (4, [.r 97, .i (-2147483648) 2147483647, .i (-2147483648) 2147483647], [], some [.l (-9223372036854775808) 9223372036854775807], ([], []))
set_option maxRecDepth 1000000 in
theorem vx_2480 : ai_valid ai_Tb cx_2480 := ai_chkH_ok (n := 20) (D := []) ai_TbK ai_D0 (by decide +kernel)
-- X10_bounds
def cx_2481 : ai_C := (135, [.r 0, .i (-2147483648) 2147483647, .i (-2147483648) 2147483647], [], some [.l (-9223372036854775808) 9223372036854775807], ([(99, 0), (99, 1), (99, 2), (99, 3)], [1098]))
set_option maxRecDepth 1000000 in
theorem vx_2481 : ai_valid ai_Tb cx_2481 := ai_chkH_ok (n := 18) (D := [cx_2480, cx_2479]) ai_TbK (ai_D1 vx_2480 (ai_D1 vx_2479 ai_D0)) (by decide +kernel)
-- X10_outer
def cx_2482 : ai_C := (136, [.r 0, .i (-2147483648) 2147483647, .i (-2147483648) 2147483647], [], some [.i (-2147483648) 2147483647], ([(99, 0), (99, 1), (99, 2), (99, 3)], [1098]))
set_option maxRecDepth 1000000 in
theorem vx_2482 : ai_valid ai_Tb cx_2482 := ai_chkH_ok (n := 37) (D := [cx_2479]) ai_TbK (ai_D1 vx_2479 ai_D0) (by decide +kernel)
-- X4_isAbove
def cx_2483 : ai_C := (70, [.r 9, .l (-9223372036854775808) 9223372036854775807], [(2, [.r 9, .l (-9223372036854775808) 9223372036854775807, .u, .i 0 9], [], (.v 3 9, .n 8000000000, .n 8000000000))], some [.i 0 1], ([], []))
set_option maxRecDepth 1000000 in
theorem vx_2483 : ai_valid ai_Tb cx_2483 := ai_chkH_ok (n := 14) (D := []) ai_TbK ai_D0 (by decide +kernel)
-- X10_inverse
def cx_2484 : ai_C := (137, [.r 0, .i (-2147483648) 2147483647, .i (-2147483648) 2147483647], [], some [.l (-9223372036854775808) 9223372036854775807], ([], []))
set_option maxRecDepth 1000000 in
theorem vx_2484 : ai_valid ai_Tb cx_2484 := ai_chkH_ok (n := 41) (D := [cx_2314, cx_2483, cx_2472, cx_2473]) ai_TbK (ai_D1 vx_2314 (ai_D1 vx_2483 (ai_D1 vx_2472 (ai_D1 vx_2473 ai_D0)))) (by decide +kernel)
-- X1_lay
def cx_2485 : ai_C := (16, [.r 6, .i (-2147483648) 2147483647, .i (-2147483648) 2147483647, .r 100], [], none, ([(1100, 0), (1100, 1), (1100, 2), (1100, 3)], []))
set_option maxRecDepth 1000000 in
theorem vx_2485 : ai_valid ai_Tb cx_2485 := ai_chkH_ok (n := 52) (D := []) ai_TbK ai_D0 (by decide +kernel)
-- X2_signLess
def cx_2486 : ai_C := (47, [.r 1, .r 100, .l (-9223372036854775808) 9223372036854775807, .l (-9223372036854775808) 9223372036854775807], [], some [.i (-1) 1], ([], []))
set_option maxRecDepth 1000000 in
theorem vx_2486 : ai_valid ai_Tb cx_2486 := ai_chkH_ok (n := 21) (D := [cx_2025]) ai_TbK (ai_D1 vx_2025 ai_D0) (by decide +kernel)
-- X10_side
def cx_2487 : ai_C := (138, [.r 0, .i (-2147483648) 2147483647, .i (-2147483648) 2147483647, .i (-2147483648) 2147483647], [], some [.i (-2) 1], ([(1100, 0), (1100, 1), (1100, 2), (1100, 3)], []))
set_option maxRecDepth 1000000 in
theorem vx_2487 : ai_valid ai_Tb cx_2487 := ai_chkH_ok (n := 45) (D := [cx_2314, cx_2485, cx_2486]) ai_TbK (ai_D1 vx_2314 (ai_D1 vx_2485 (ai_D1 vx_2486 ai_D0))) (by decide +kernel)
-- X0_simplestOf
def cx_2488 : ai_C := (7, [.r 97, .i (-2147483648) 2147483647, .i (-2147483648) 2147483647], [(51, [.r 97, .i (-2147483648) 2147483647, .i (-2147483648) 2147483647, .l (-9223372036854775808) 9223372036854775807, .u, .l (-9223372036854775808) 9223372036854775807, .u, .l (-9223372036854775808) 9223372036854775807, .u, .l (-9223372036854775808) 9223372036854775807, .u, .l (-9223372036854775808) 9223372036854775807, .u, .l (-9223372036854775808) 9223372036854775807, .u, .i 0 200, .u, .u, .u, .u, .u, .u, .u, .u], [], (.v 15 200, .n 8000000000, .n 8000000000))], some [.l (-9223372036854775808) 9223372036854775807], ([], []))
set_option maxRecDepth 1000000 in
theorem vx_2488 : ai_valid ai_Tb cx_2488 := ai_chkH_ok (n := 57) (D := [cx_2480]) ai_TbK (ai_D1 vx_2480 ai_D0) (by decide +kernel)
-- X10_simplest
def cx_2489 : ai_C := (139, [.r 0, .i (-2147483648) 2147483647, .i (-2147483648) 2147483647], [], some [.l (-9223372036854775808) 9223372036854775807], ([(99, 0), (99, 1), (99, 2), (99, 3)], [1098]))
set_option maxRecDepth 1000000 in
theorem vx_2489 : ai_valid ai_Tb cx_2489 := ai_chkH_ok (n := 18) (D := [cx_2488, cx_2479]) ai_TbK (ai_D1 vx_2488 (ai_D1 vx_2479 ai_D0)) (by decide +kernel)
-- X0_isAbove
def cx_2490 : ai_C := (6, [.r 97, .l (-9223372036854775808) 9223372036854775807], [(2, [.r 97, .l (-9223372036854775808) 9223372036854775807, .u, .i 0 8], [], (.v 3 8, .n 8000000000, .n 8000000000))], some [.i 0 1], ([], []))
set_option maxRecDepth 1000000 in
theorem vx_2490 : ai_valid ai_Tb cx_2490 := ai_chkH_ok (n := 14) (D := []) ai_TbK ai_D0 (by decide +kernel)
-- X0_leastWhole
def cx_2491 : ai_C := (9, [.r 97, .i (-2147483648) 2147483647, .i (-2147483648) 2147483647], [], some [.l (-9223372036854775808) 9223372036854775807], ([], []))
set_option maxRecDepth 1000000 in
theorem vx_2491 : ai_valid ai_Tb cx_2491 := ai_chkH_ok (n := 48) (D := [cx_2480]) ai_TbK (ai_D1 vx_2480 ai_D0) (by decide +kernel)
-- X0_sharedBy
def cx_2492 : ai_C := (8, [.r 97, .i (-2147483648) 2147483647], [(2, [.r 97, .i (-2147483648) 2147483647, .i 1 10000, .u, .u, .u, .u], [], (.v 2 10000, .n 8000000000, .n 8000000000))], some [.l (-9223372036854775808) 9223372036854775807], ([], []))
set_option maxRecDepth 1000000 in
theorem vx_2492 : ai_valid ai_Tb cx_2492 := ai_chkH_ok (n := 30) (D := [cx_2491]) ai_TbK (ai_D1 vx_2491 ai_D0) (by decide +kernel)
-- X10_shared
def cx_2493 : ai_C := (140, [.r 0, .i (-2147483648) 2147483647], [], some [.l (-9223372036854775808) 9223372036854775807], ([(99, 0), (99, 1), (99, 2), (99, 3)], [1098]))
set_option maxRecDepth 1000000 in
theorem vx_2493 : ai_valid ai_Tb cx_2493 := ai_chkH_ok (n := 19) (D := [cx_2490, cx_2492, cx_2479]) ai_TbK (ai_D1 vx_2490 (ai_D1 vx_2492 (ai_D1 vx_2479 ai_D0))) (by decide +kernel)
-- X10_period
def cx_2494 : ai_C := (141, [.r 0, .i (-2147483648) 2147483647], [], some [.i (-1) 61], ([], []))
set_option maxRecDepth 1000000 in
theorem vx_2494 : ai_valid ai_Tb cx_2494 := ai_chkH_ok (n := 17) (D := [cx_2346]) ai_TbK (ai_D1 vx_2346 ai_D0) (by decide +kernel)
-- X1_layRound
def cx_2495 : ai_C := (33, [.r 6, .r 95], [(11, [.r 6, .r 95, .i 0 61], [], (.v 2 61, .n 8000000000, .n 8000000000))], none, ([], [1096]))
set_option maxRecDepth 1000000 in
theorem vx_2495 : ai_valid ai_Tb cx_2495 := ai_chkH_ok (n := 34) (D := [cx_2468, cx_2368, cx_2370]) ai_TbK (ai_D1 vx_2468 (ai_D1 vx_2368 (ai_D1 vx_2370 ai_D0))) (by decide +kernel)
-- X10_round
def cx_2496 : ai_C := (142, [.r 0, .i (-2147483648) 2147483647, .i (-2147483648) 2147483647], [], some [.l (-9223372036854775808) 9223372036854775807], ([], [1096]))
set_option maxRecDepth 1000000 in
theorem vx_2496 : ai_valid ai_Tb cx_2496 := ai_chkH_ok (n := 40) (D := [cx_2346, cx_2495, cx_2376]) ai_TbK (ai_D1 vx_2346 (ai_D1 vx_2495 (ai_D1 vx_2376 ai_D0))) (by decide +kernel)
-- X1_lay
def cx_2497 : ai_C := (16, [.r 6, .i (-2147483648) 2147483647, .i (-2147483648) 2147483647, .r 15], [], none, ([(1015, 0), (1015, 1), (1015, 2), (1015, 3)], []))
set_option maxRecDepth 1000000 in
theorem vx_2497 : ai_valid ai_Tb cx_2497 := ai_chkH_ok (n := 52) (D := []) ai_TbK ai_D0 (by decide +kernel)
-- X1_lay
def cx_2498 : ai_C := (16, [.r 6, .i (-2147483648) 2147483647, .i (-2147483648) 2147483647, .r 16], [], none, ([(1016, 0), (1016, 1), (1016, 2), (1016, 3)], []))
set_option maxRecDepth 1000000 in
theorem vx_2498 : ai_valid ai_Tb cx_2498 := ai_chkH_ok (n := 52) (D := []) ai_TbK ai_D0 (by decide +kernel)
-- J9_floorDiv_f86c9
def cx_2499 : ai_C := (290, [.l (-9223372036854775808) 9223372036854775807, .l 2147483648 2147483648], [], some [.l (-9223372036854775808) 9223372036854775807], ([], []))
set_option maxRecDepth 1000000 in
theorem vx_2499 : ai_valid ai_Tb cx_2499 := ai_chkH_ok (n := 21) (D := []) ai_TbK ai_D0 (by decide +kernel)
-- J9_floorMod_f86c9
def cx_2500 : ai_C := (292, [.l (-9223372036854775808) 9223372036854775807, .l 2147483648 2147483648], [], some [.l (-9223372036854775808) 9223372036854775807], ([], []))
set_option maxRecDepth 1000000 in
theorem vx_2500 : ai_valid ai_Tb cx_2500 := ai_chkH_ok (n := 19) (D := []) ai_TbK ai_D0 (by decide +kernel)
-- X1_together
def cx_2501 : ai_C := (35, [.r 95, .l (-9223372036854775808) 9223372036854775807, .l (-9223372036854775808) 9223372036854775807, .l (-9223372036854775808) 9223372036854775807], [], some [.l (-9223372036854775808) 9223372036854775807], ([], []))
set_option maxRecDepth 1000000 in
theorem vx_2501 : ai_valid ai_Tb cx_2501 := ai_chkH_ok (n := 75) (D := [cx_2376, cx_2499, cx_2500]) ai_TbK (ai_D1 vx_2376 (ai_D1 vx_2499 (ai_D1 vx_2500 ai_D0))) (by decide +kernel)
-- X1_layUnit
def cx_2502 : ai_C := (34, [.r 6, .r 95, .r 100], [], some [.i 0 1], ([(1015, 0), (1015, 1), (1015, 2), (1015, 3), (1016, 0), (1016, 1), (1016, 2), (1016, 3), (1100, 0), (1100, 1), (1100, 2), (1100, 3)], []))
set_option maxRecDepth 1000000 in
theorem vx_2502 : ai_valid ai_Tb cx_2502 := ai_chkH_ok (n := 102) (D := [cx_2497, cx_2498, cx_2501, cx_2039, cx_2041]) ai_TbK (ai_D1 vx_2497 (ai_D1 vx_2498 (ai_D1 vx_2501 (ai_D1 vx_2039 (ai_D1 vx_2041 ai_D0))))) (by decide +kernel)
-- X10_unit
def cx_2503 : ai_C := (143, [.r 0, .i (-2147483648) 2147483647], [], some [.i (-2147483648) 2147483647], ([(1015, 0), (1015, 1), (1015, 2), (1015, 3), (1016, 0), (1016, 1), (1016, 2), (1016, 3), (1100, 0), (1100, 1), (1100, 2), (1100, 3)], [1096]))
set_option maxRecDepth 1000000 in
theorem vx_2503 : ai_valid ai_Tb cx_2503 := ai_chkH_ok (n := 43) (D := [cx_2346, cx_2495, cx_2502, cx_2372]) ai_TbK (ai_D1 vx_2346 (ai_D1 vx_2495 (ai_D1 vx_2502 (ai_D1 vx_2372 ai_D0)))) (by decide +kernel)
-- X10_equation
def cx_2504 : ai_C := (144, [.r 0, .i (-2147483648) 2147483647], [], some [.l (-9223372036854775808) 9223372036854775807], ([], [1096]))
set_option maxRecDepth 1000000 in
theorem vx_2504 : ai_valid ai_Tb cx_2504 := ai_chkH_ok (n := 29) (D := [cx_2346, cx_2495, cx_2372, cx_2373, cx_2375]) ai_TbK (ai_D1 vx_2346 (ai_D1 vx_2495 (ai_D1 vx_2372 (ai_D1 vx_2373 (ai_D1 vx_2375 ai_D0))))) (by decide +kernel)
-- X1_relates
def cx_2505 : ai_C := (37, [.r 6, .i (-2147483648) 2147483647, .i (-2147483648) 2147483647, .i (-2147483648) 2147483647], [(20, [.r 6, .i (-2147483648) 2147483647, .i (-2147483648) 2147483647, .i (-2147483648) 2147483647, .i (-2147483648) 2147483647, .i (-2147483648) 2147483647, .i (-1) 2, .u], [], (.w 6 (-1), .n 8000000000, .n 8000000000))], some [.i 0 1], ([], []))
set_option maxRecDepth 1000000 in
theorem vx_2505 : ai_valid ai_Tb cx_2505 := ai_chkH_ok (n := 38) (D := []) ai_TbK ai_D0 (by decide +kernel)
-- X10_isRelation
def cx_2506 : ai_C := (145, [.r 0, .i (-2147483648) 2147483647, .i (-2147483648) 2147483647, .i (-2147483648) 2147483647], [], some [.i 0 1], ([], []))
set_option maxRecDepth 1000000 in
theorem vx_2506 : ai_valid ai_Tb cx_2506 := ai_chkH_ok (n := 57) (D := [cx_2314, cx_2505]) ai_TbK (ai_D1 vx_2314 (ai_D1 vx_2505 ai_D0)) (by decide +kernel)
end
