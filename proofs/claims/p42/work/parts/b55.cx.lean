-- contexts of the class, checked by the kernel
-- X5_restore
def cx_342 : ai_C := (76, [.r 58, .r 1, .r 5, .r 17, .r 6], [(19, [.r 58, .r 1, .r 5, .r 17, .r 6, .i 0 6], [], (.v 5 6, .n 8000000000, .n 8000000000))], none, ([(1, 0), (1, 1), (1, 2), (6, 3), (6, 4), (6, 5), (6, 6), (6, 12), (6, 13), (6, 14), (17, 1), (1013, 0), (1013, 1), (1013, 2), (1013, 3), (1014, 0), (1014, 1), (1014, 2), (1014, 3), (1015, 0), (1015, 1), (1015, 2), (1015, 3), (1016, 0), (1016, 1), (1016, 2), (1016, 3), (1102, 0), (1102, 1), (1102, 2), (1102, 3), (1103, 0), (1103, 1), (1103, 2), (1103, 3), (1104, 0), (1104, 1), (1104, 2), (1104, 3), (1105, 0), (1105, 1), (1105, 2), (1105, 3), (1106, 0), (1106, 1), (1106, 2), (1106, 3), (1107, 0), (1107, 1), (1107, 2), (1107, 3)], [7, 8, 18, 1003, 1010, 1012]))
set_option maxRecDepth 1000000 in
theorem vx_342 : ai_valid ai_Tb cx_342 := ai_chk_ok (n := 56) (D := [cx_341]) ai_TbK (ai_D1 vx_341 ai_D0) (by decide +kernel)
-- X1_reopen
def cx_343 : ai_C := (22, [.r 6, .r 1, .r 57, .i (-2147483648) 2147483647, .i (-2147483648) 2147483647], [(35, [.r 6, .r 1, .r 57, .i (-2147483648) 2147483647, .i (-2147483648) 2147483647, .i 0 60], [], (.v 5 60, .n 8000000000, .n 8000000000))], none, ([(6, 3), (6, 4), (6, 5), (6, 6), (6, 12), (6, 13), (6, 14), (1013, 0), (1013, 1), (1013, 2), (1013, 3), (1014, 0), (1014, 1), (1014, 2), (1014, 3), (1015, 0), (1015, 1), (1015, 2), (1015, 3), (1016, 0), (1016, 1), (1016, 2), (1016, 3)], [7, 8, 1003, 1010, 1012]))
set_option maxRecDepth 1000000 in
theorem vx_343 : ai_valid ai_Tb cx_343 := ai_chk_ok (n := 100) (D := [cx_338, cx_299, cx_302]) ai_TbK (ai_D1 vx_338 (ai_D1 vx_299 (ai_D1 vx_302 ai_D0))) (by decide +kernel)
-- X5_restore
def cx_344 : ai_C := (76, [.r 53, .r 1, .r 5, .r 17, .r 6], [(19, [.r 53, .r 1, .r 5, .r 17, .r 6, .i 0 6], [], (.v 5 6, .n 8000000000, .n 8000000000))], none, ([(1, 0), (1, 1), (1, 2), (6, 3), (6, 4), (6, 5), (6, 6), (6, 12), (6, 13), (6, 14), (17, 1), (1013, 0), (1013, 1), (1013, 2), (1013, 3), (1014, 0), (1014, 1), (1014, 2), (1014, 3), (1015, 0), (1015, 1), (1015, 2), (1015, 3), (1016, 0), (1016, 1), (1016, 2), (1016, 3), (1102, 0), (1102, 1), (1102, 2), (1102, 3), (1103, 0), (1103, 1), (1103, 2), (1103, 3), (1104, 0), (1104, 1), (1104, 2), (1104, 3), (1105, 0), (1105, 1), (1105, 2), (1105, 3), (1106, 0), (1106, 1), (1106, 2), (1106, 3), (1107, 0), (1107, 1), (1107, 2), (1107, 3)], [7, 8, 18, 1003, 1010, 1012]))
set_option maxRecDepth 1000000 in
theorem vx_344 : ai_valid ai_Tb cx_344 := ai_chk_ok (n := 56) (D := [cx_343]) ai_TbK (ai_D1 vx_343 ai_D0) (by decide +kernel)
-- X1_reopen
def cx_345 : ai_C := (22, [.r 6, .r 1, .r 52, .i (-2147483648) 2147483647, .i (-2147483648) 2147483647], [(35, [.r 6, .r 1, .r 52, .i (-2147483648) 2147483647, .i (-2147483648) 2147483647, .i 0 60], [], (.v 5 60, .n 8000000000, .n 8000000000))], none, ([(6, 3), (6, 4), (6, 5), (6, 6), (6, 12), (6, 13), (6, 14), (1013, 0), (1013, 1), (1013, 2), (1013, 3), (1014, 0), (1014, 1), (1014, 2), (1014, 3), (1015, 0), (1015, 1), (1015, 2), (1015, 3), (1016, 0), (1016, 1), (1016, 2), (1016, 3)], [7, 8, 1003, 1010, 1012]))
set_option maxRecDepth 1000000 in
theorem vx_345 : ai_valid ai_Tb cx_345 := ai_chk_ok (n := 100) (D := [cx_338, cx_299, cx_302]) ai_TbK (ai_D1 vx_338 (ai_D1 vx_299 (ai_D1 vx_302 ai_D0))) (by decide +kernel)
-- X5_restore
def cx_346 : ai_C := (76, [.r 48, .r 1, .r 5, .r 17, .r 6], [(19, [.r 48, .r 1, .r 5, .r 17, .r 6, .i 0 6], [], (.v 5 6, .n 8000000000, .n 8000000000))], none, ([(1, 0), (1, 1), (1, 2), (6, 3), (6, 4), (6, 5), (6, 6), (6, 12), (6, 13), (6, 14), (17, 1), (1013, 0), (1013, 1), (1013, 2), (1013, 3), (1014, 0), (1014, 1), (1014, 2), (1014, 3), (1015, 0), (1015, 1), (1015, 2), (1015, 3), (1016, 0), (1016, 1), (1016, 2), (1016, 3), (1102, 0), (1102, 1), (1102, 2), (1102, 3), (1103, 0), (1103, 1), (1103, 2), (1103, 3), (1104, 0), (1104, 1), (1104, 2), (1104, 3), (1105, 0), (1105, 1), (1105, 2), (1105, 3), (1106, 0), (1106, 1), (1106, 2), (1106, 3), (1107, 0), (1107, 1), (1107, 2), (1107, 3)], [7, 8, 18, 1003, 1010, 1012]))
set_option maxRecDepth 1000000 in
theorem vx_346 : ai_valid ai_Tb cx_346 := ai_chk_ok (n := 56) (D := [cx_345]) ai_TbK (ai_D1 vx_345 ai_D0) (by decide +kernel)
-- X1_reopen
def cx_347 : ai_C := (22, [.r 6, .r 1, .r 47, .i (-2147483648) 2147483647, .i (-2147483648) 2147483647], [(35, [.r 6, .r 1, .r 47, .i (-2147483648) 2147483647, .i (-2147483648) 2147483647, .i 0 60], [], (.v 5 60, .n 8000000000, .n 8000000000))], none, ([(6, 3), (6, 4), (6, 5), (6, 6), (6, 12), (6, 13), (6, 14), (1013, 0), (1013, 1), (1013, 2), (1013, 3), (1014, 0), (1014, 1), (1014, 2), (1014, 3), (1015, 0), (1015, 1), (1015, 2), (1015, 3), (1016, 0), (1016, 1), (1016, 2), (1016, 3)], [7, 8, 1003, 1010, 1012]))
set_option maxRecDepth 1000000 in
theorem vx_347 : ai_valid ai_Tb cx_347 := ai_chk_ok (n := 100) (D := [cx_338, cx_299, cx_302]) ai_TbK (ai_D1 vx_338 (ai_D1 vx_299 (ai_D1 vx_302 ai_D0))) (by decide +kernel)
-- X5_restore
def cx_348 : ai_C := (76, [.r 43, .r 1, .r 5, .r 17, .r 6], [(19, [.r 43, .r 1, .r 5, .r 17, .r 6, .i 0 6], [], (.v 5 6, .n 8000000000, .n 8000000000))], none, ([(1, 0), (1, 1), (1, 2), (6, 3), (6, 4), (6, 5), (6, 6), (6, 12), (6, 13), (6, 14), (17, 1), (1013, 0), (1013, 1), (1013, 2), (1013, 3), (1014, 0), (1014, 1), (1014, 2), (1014, 3), (1015, 0), (1015, 1), (1015, 2), (1015, 3), (1016, 0), (1016, 1), (1016, 2), (1016, 3), (1102, 0), (1102, 1), (1102, 2), (1102, 3), (1103, 0), (1103, 1), (1103, 2), (1103, 3), (1104, 0), (1104, 1), (1104, 2), (1104, 3), (1105, 0), (1105, 1), (1105, 2), (1105, 3), (1106, 0), (1106, 1), (1106, 2), (1106, 3), (1107, 0), (1107, 1), (1107, 2), (1107, 3)], [7, 8, 18, 1003, 1010, 1012]))
set_option maxRecDepth 1000000 in
theorem vx_348 : ai_valid ai_Tb cx_348 := ai_chk_ok (n := 56) (D := [cx_347]) ai_TbK (ai_D1 vx_347 ai_D0) (by decide +kernel)
-- X1_reopen
def cx_349 : ai_C := (22, [.r 6, .r 1, .r 42, .i (-2147483648) 2147483647, .i (-2147483648) 2147483647], [(35, [.r 6, .r 1, .r 42, .i (-2147483648) 2147483647, .i (-2147483648) 2147483647, .i 0 60], [], (.v 5 60, .n 8000000000, .n 8000000000))], none, ([(6, 3), (6, 4), (6, 5), (6, 6), (6, 12), (6, 13), (6, 14), (1013, 0), (1013, 1), (1013, 2), (1013, 3), (1014, 0), (1014, 1), (1014, 2), (1014, 3), (1015, 0), (1015, 1), (1015, 2), (1015, 3), (1016, 0), (1016, 1), (1016, 2), (1016, 3)], [7, 8, 1003, 1010, 1012]))
set_option maxRecDepth 1000000 in
theorem vx_349 : ai_valid ai_Tb cx_349 := ai_chk_ok (n := 100) (D := [cx_338, cx_299, cx_302]) ai_TbK (ai_D1 vx_338 (ai_D1 vx_299 (ai_D1 vx_302 ai_D0))) (by decide +kernel)
-- X5_restore
def cx_350 : ai_C := (76, [.r 38, .r 1, .r 5, .r 17, .r 6], [(19, [.r 38, .r 1, .r 5, .r 17, .r 6, .i 0 6], [], (.v 5 6, .n 8000000000, .n 8000000000))], none, ([(1, 0), (1, 1), (1, 2), (6, 3), (6, 4), (6, 5), (6, 6), (6, 12), (6, 13), (6, 14), (17, 1), (1013, 0), (1013, 1), (1013, 2), (1013, 3), (1014, 0), (1014, 1), (1014, 2), (1014, 3), (1015, 0), (1015, 1), (1015, 2), (1015, 3), (1016, 0), (1016, 1), (1016, 2), (1016, 3), (1102, 0), (1102, 1), (1102, 2), (1102, 3), (1103, 0), (1103, 1), (1103, 2), (1103, 3), (1104, 0), (1104, 1), (1104, 2), (1104, 3), (1105, 0), (1105, 1), (1105, 2), (1105, 3), (1106, 0), (1106, 1), (1106, 2), (1106, 3), (1107, 0), (1107, 1), (1107, 2), (1107, 3)], [7, 8, 18, 1003, 1010, 1012]))
set_option maxRecDepth 1000000 in
theorem vx_350 : ai_valid ai_Tb cx_350 := ai_chk_ok (n := 56) (D := [cx_349]) ai_TbK (ai_D1 vx_349 ai_D0) (by decide +kernel)
-- X1_reopen
def cx_351 : ai_C := (22, [.r 6, .r 1, .r 37, .i (-2147483648) 2147483647, .i (-2147483648) 2147483647], [(35, [.r 6, .r 1, .r 37, .i (-2147483648) 2147483647, .i (-2147483648) 2147483647, .i 0 60], [], (.v 5 60, .n 8000000000, .n 8000000000))], none, ([(6, 3), (6, 4), (6, 5), (6, 6), (6, 12), (6, 13), (6, 14), (1013, 0), (1013, 1), (1013, 2), (1013, 3), (1014, 0), (1014, 1), (1014, 2), (1014, 3), (1015, 0), (1015, 1), (1015, 2), (1015, 3), (1016, 0), (1016, 1), (1016, 2), (1016, 3)], [7, 8, 1003, 1010, 1012]))
set_option maxRecDepth 1000000 in
theorem vx_351 : ai_valid ai_Tb cx_351 := ai_chk_ok (n := 100) (D := [cx_338, cx_299, cx_302]) ai_TbK (ai_D1 vx_338 (ai_D1 vx_299 (ai_D1 vx_302 ai_D0))) (by decide +kernel)
-- X5_restore
def cx_352 : ai_C := (76, [.r 33, .r 1, .r 5, .r 17, .r 6], [(19, [.r 33, .r 1, .r 5, .r 17, .r 6, .i 0 6], [], (.v 5 6, .n 8000000000, .n 8000000000))], none, ([(1, 0), (1, 1), (1, 2), (6, 3), (6, 4), (6, 5), (6, 6), (6, 12), (6, 13), (6, 14), (17, 1), (1013, 0), (1013, 1), (1013, 2), (1013, 3), (1014, 0), (1014, 1), (1014, 2), (1014, 3), (1015, 0), (1015, 1), (1015, 2), (1015, 3), (1016, 0), (1016, 1), (1016, 2), (1016, 3), (1102, 0), (1102, 1), (1102, 2), (1102, 3), (1103, 0), (1103, 1), (1103, 2), (1103, 3), (1104, 0), (1104, 1), (1104, 2), (1104, 3), (1105, 0), (1105, 1), (1105, 2), (1105, 3), (1106, 0), (1106, 1), (1106, 2), (1106, 3), (1107, 0), (1107, 1), (1107, 2), (1107, 3)], [7, 8, 18, 1003, 1010, 1012]))
set_option maxRecDepth 1000000 in
theorem vx_352 : ai_valid ai_Tb cx_352 := ai_chk_ok (n := 56) (D := [cx_351]) ai_TbK (ai_D1 vx_351 ai_D0) (by decide +kernel)
-- X1_reopen
def cx_353 : ai_C := (22, [.r 6, .r 1, .r 32, .i (-2147483648) 2147483647, .i (-2147483648) 2147483647], [(35, [.r 6, .r 1, .r 32, .i (-2147483648) 2147483647, .i (-2147483648) 2147483647, .i 0 60], [], (.v 5 60, .n 8000000000, .n 8000000000))], none, ([(6, 3), (6, 4), (6, 5), (6, 6), (6, 12), (6, 13), (6, 14), (1013, 0), (1013, 1), (1013, 2), (1013, 3), (1014, 0), (1014, 1), (1014, 2), (1014, 3), (1015, 0), (1015, 1), (1015, 2), (1015, 3), (1016, 0), (1016, 1), (1016, 2), (1016, 3)], [7, 8, 1003, 1010, 1012]))
set_option maxRecDepth 1000000 in
theorem vx_353 : ai_valid ai_Tb cx_353 := ai_chk_ok (n := 100) (D := [cx_338, cx_299, cx_302]) ai_TbK (ai_D1 vx_338 (ai_D1 vx_299 (ai_D1 vx_302 ai_D0))) (by decide +kernel)
-- X5_restore
def cx_354 : ai_C := (76, [.r 28, .r 1, .r 5, .r 17, .r 6], [(19, [.r 28, .r 1, .r 5, .r 17, .r 6, .i 0 6], [], (.v 5 6, .n 8000000000, .n 8000000000))], none, ([(1, 0), (1, 1), (1, 2), (6, 3), (6, 4), (6, 5), (6, 6), (6, 12), (6, 13), (6, 14), (17, 1), (1013, 0), (1013, 1), (1013, 2), (1013, 3), (1014, 0), (1014, 1), (1014, 2), (1014, 3), (1015, 0), (1015, 1), (1015, 2), (1015, 3), (1016, 0), (1016, 1), (1016, 2), (1016, 3), (1102, 0), (1102, 1), (1102, 2), (1102, 3), (1103, 0), (1103, 1), (1103, 2), (1103, 3), (1104, 0), (1104, 1), (1104, 2), (1104, 3), (1105, 0), (1105, 1), (1105, 2), (1105, 3), (1106, 0), (1106, 1), (1106, 2), (1106, 3), (1107, 0), (1107, 1), (1107, 2), (1107, 3)], [7, 8, 18, 1003, 1010, 1012]))
set_option maxRecDepth 1000000 in
theorem vx_354 : ai_valid ai_Tb cx_354 := ai_chk_ok (n := 56) (D := [cx_353]) ai_TbK (ai_D1 vx_353 ai_D0) (by decide +kernel)
-- X10_undo
def cx_355 : ai_C := (124, [.r 0], [], some [.i (-2147483648) 2147483647], ([(1, 0), (1, 1), (1, 2), (6, 3), (6, 4), (6, 5), (6, 6), (6, 12), (6, 13), (6, 14), (17, 1), (23, 5), (78, 1), (79, 3), (1013, 0), (1013, 1), (1013, 2), (1013, 3), (1014, 0), (1014, 1), (1014, 2), (1014, 3), (1015, 0), (1015, 1), (1015, 2), (1015, 3), (1016, 0), (1016, 1), (1016, 2), (1016, 3), (1102, 0), (1102, 1), (1102, 2), (1102, 3), (1103, 0), (1103, 1), (1103, 2), (1103, 3), (1104, 0), (1104, 1), (1104, 2), (1104, 3), (1105, 0), (1105, 1), (1105, 2), (1105, 3), (1106, 0), (1106, 1), (1106, 2), (1106, 3), (1107, 0), (1107, 1), (1107, 2), (1107, 3)], [7, 8, 18, 1003, 1010, 1012]))
set_option maxRecDepth 1000000 in
theorem vx_355 : ai_valid ai_Tb cx_355 := ai_chk_ok (n := 72) (D := [cx_340, cx_342, cx_344, cx_346, cx_348, cx_350, cx_352, cx_354, cx_2]) ai_TbK (ai_D1 vx_340 (ai_D1 vx_342 (ai_D1 vx_344 (ai_D1 vx_346 (ai_D1 vx_348 (ai_D1 vx_350 (ai_D1 vx_352 (ai_D1 vx_354 (ai_D1 vx_2 ai_D0))))))))) (by decide +kernel)
-- X5_take
def cx_356 : ai_C := (75, [.r 73, .r 1, .r 5, .r 17, .r 6], [(27, [.r 73, .r 1, .r 5, .r 17, .r 6, .i 0 6], [], (.v 5 6, .n 8000000000, .n 8000000000))], none, ([(73, 0), (73, 1), (73, 2), (73, 6), (73, 7), (74, 0), (74, 1), (74, 2), (74, 3), (74, 4), (74, 5), (74, 6), (74, 7), (74, 8), (74, 9), (74, 10), (74, 11), (74, 12), (74, 13), (74, 14), (74, 15), (74, 16), (74, 17), (74, 18), (74, 19), (74, 20), (74, 21), (74, 22), (74, 23), (75, 1)], [76, 77]))
set_option maxRecDepth 1000000 in
theorem vx_356 : ai_valid ai_Tb cx_356 := ai_chk_ok (n := 56) (D := []) ai_TbK ai_D0 (by decide +kernel)
-- X5_take
def cx_357 : ai_C := (75, [.r 68, .r 1, .r 5, .r 17, .r 6], [(27, [.r 68, .r 1, .r 5, .r 17, .r 6, .i 0 6], [], (.v 5 6, .n 8000000000, .n 8000000000))], none, ([(68, 0), (68, 1), (68, 2), (68, 6), (68, 7), (69, 0), (69, 1), (69, 2), (69, 3), (69, 4), (69, 5), (69, 6), (69, 7), (69, 8), (69, 9), (69, 10), (69, 11), (69, 12), (69, 13), (69, 14), (69, 15), (69, 16), (69, 17), (69, 18), (69, 19), (69, 20), (69, 21), (69, 22), (69, 23), (70, 1)], [71, 72]))
set_option maxRecDepth 1000000 in
theorem vx_357 : ai_valid ai_Tb cx_357 := ai_chk_ok (n := 56) (D := []) ai_TbK ai_D0 (by decide +kernel)
-- X10_image
def cx_358 : ai_C := (125, [.r 0, .i (-2147483648) 2147483647], [], some [.i (-1) 60], ([(68, 0), (68, 1), (68, 2), (68, 6), (68, 7), (69, 0), (69, 1), (69, 2), (69, 3), (69, 4), (69, 5), (69, 6), (69, 7), (69, 8), (69, 9), (69, 10), (69, 11), (69, 12), (69, 13), (69, 14), (69, 15), (69, 16), (69, 17), (69, 18), (69, 19), (69, 20), (69, 21), (69, 22), (69, 23), (70, 1), (73, 0), (73, 1), (73, 2), (73, 6), (73, 7), (74, 0), (74, 1), (74, 2), (74, 3), (74, 4), (74, 5), (74, 6), (74, 7), (74, 8), (74, 9), (74, 10), (74, 11), (74, 12), (74, 13), (74, 14), (74, 15), (74, 16), (74, 17), (74, 18), (74, 19), (74, 20), (74, 21), (74, 22), (74, 23), (75, 1), (78, 1), (79, 0)], [27, 71, 72, 76, 77]))
set_option maxRecDepth 1000000 in
theorem vx_358 : ai_valid ai_Tb cx_358 := ai_chk_ok (n := 53) (D := [cx_356, cx_357]) ai_TbK (ai_D1 vx_356 (ai_D1 vx_357 ai_D0)) (by decide +kernel)
-- X1_reopen
def cx_359 : ai_C := (22, [.r 6, .r 1, .r 77, .i (-2147483648) 2147483647, .i (-2147483648) 2147483647], [(35, [.r 6, .r 1, .r 77, .i (-2147483648) 2147483647, .i (-2147483648) 2147483647, .i 0 60], [], (.v 5 60, .n 8000000000, .n 8000000000))], none, ([(6, 3), (6, 4), (6, 5), (6, 6), (6, 12), (6, 13), (6, 14), (1013, 0), (1013, 1), (1013, 2), (1013, 3), (1014, 0), (1014, 1), (1014, 2), (1014, 3), (1015, 0), (1015, 1), (1015, 2), (1015, 3), (1016, 0), (1016, 1), (1016, 2), (1016, 3)], [7, 8, 1003, 1010, 1012]))
set_option maxRecDepth 1000000 in
theorem vx_359 : ai_valid ai_Tb cx_359 := ai_chk_ok (n := 100) (D := [cx_338, cx_299, cx_302]) ai_TbK (ai_D1 vx_338 (ai_D1 vx_299 (ai_D1 vx_302 ai_D0))) (by decide +kernel)
-- X5_restore
def cx_360 : ai_C := (76, [.r 73, .r 1, .r 5, .r 17, .r 6], [(19, [.r 73, .r 1, .r 5, .r 17, .r 6, .i 0 6], [], (.v 5 6, .n 8000000000, .n 8000000000))], none, ([(1, 0), (1, 1), (1, 2), (6, 3), (6, 4), (6, 5), (6, 6), (6, 12), (6, 13), (6, 14), (17, 1), (1013, 0), (1013, 1), (1013, 2), (1013, 3), (1014, 0), (1014, 1), (1014, 2), (1014, 3), (1015, 0), (1015, 1), (1015, 2), (1015, 3), (1016, 0), (1016, 1), (1016, 2), (1016, 3), (1102, 0), (1102, 1), (1102, 2), (1102, 3), (1103, 0), (1103, 1), (1103, 2), (1103, 3), (1104, 0), (1104, 1), (1104, 2), (1104, 3), (1105, 0), (1105, 1), (1105, 2), (1105, 3), (1106, 0), (1106, 1), (1106, 2), (1106, 3), (1107, 0), (1107, 1), (1107, 2), (1107, 3)], [7, 8, 18, 1003, 1010, 1012]))
set_option maxRecDepth 1000000 in
theorem vx_360 : ai_valid ai_Tb cx_360 := ai_chk_ok (n := 56) (D := [cx_359]) ai_TbK (ai_D1 vx_359 ai_D0) (by decide +kernel)
-- X1_reopen
def cx_361 : ai_C := (22, [.r 6, .r 1, .r 72, .i (-2147483648) 2147483647, .i (-2147483648) 2147483647], [(35, [.r 6, .r 1, .r 72, .i (-2147483648) 2147483647, .i (-2147483648) 2147483647, .i 0 60], [], (.v 5 60, .n 8000000000, .n 8000000000))], none, ([(6, 3), (6, 4), (6, 5), (6, 6), (6, 12), (6, 13), (6, 14), (1013, 0), (1013, 1), (1013, 2), (1013, 3), (1014, 0), (1014, 1), (1014, 2), (1014, 3), (1015, 0), (1015, 1), (1015, 2), (1015, 3), (1016, 0), (1016, 1), (1016, 2), (1016, 3)], [7, 8, 1003, 1010, 1012]))
set_option maxRecDepth 1000000 in
theorem vx_361 : ai_valid ai_Tb cx_361 := ai_chk_ok (n := 100) (D := [cx_338, cx_299, cx_302]) ai_TbK (ai_D1 vx_338 (ai_D1 vx_299 (ai_D1 vx_302 ai_D0))) (by decide +kernel)
-- X5_restore
def cx_362 : ai_C := (76, [.r 68, .r 1, .r 5, .r 17, .r 6], [(19, [.r 68, .r 1, .r 5, .r 17, .r 6, .i 0 6], [], (.v 5 6, .n 8000000000, .n 8000000000))], none, ([(1, 0), (1, 1), (1, 2), (6, 3), (6, 4), (6, 5), (6, 6), (6, 12), (6, 13), (6, 14), (17, 1), (1013, 0), (1013, 1), (1013, 2), (1013, 3), (1014, 0), (1014, 1), (1014, 2), (1014, 3), (1015, 0), (1015, 1), (1015, 2), (1015, 3), (1016, 0), (1016, 1), (1016, 2), (1016, 3), (1102, 0), (1102, 1), (1102, 2), (1102, 3), (1103, 0), (1103, 1), (1103, 2), (1103, 3), (1104, 0), (1104, 1), (1104, 2), (1104, 3), (1105, 0), (1105, 1), (1105, 2), (1105, 3), (1106, 0), (1106, 1), (1106, 2), (1106, 3), (1107, 0), (1107, 1), (1107, 2), (1107, 3)], [7, 8, 18, 1003, 1010, 1012]))
set_option maxRecDepth 1000000 in
theorem vx_362 : ai_valid ai_Tb cx_362 := ai_chk_ok (n := 56) (D := [cx_361]) ai_TbK (ai_D1 vx_361 ai_D0) (by decide +kernel)
-- X10_back
def cx_363 : ai_C := (126, [.r 0, .i (-2147483648) 2147483647], [], some [.i (-2) 60], ([(1, 0), (1, 1), (1, 2), (6, 3), (6, 4), (6, 5), (6, 6), (6, 12), (6, 13), (6, 14), (17, 1), (23, 5), (78, 1), (79, 0), (79, 1), (1013, 0), (1013, 1), (1013, 2), (1013, 3), (1014, 0), (1014, 1), (1014, 2), (1014, 3), (1015, 0), (1015, 1), (1015, 2), (1015, 3), (1016, 0), (1016, 1), (1016, 2), (1016, 3), (1102, 0), (1102, 1), (1102, 2), (1102, 3), (1103, 0), (1103, 1), (1103, 2), (1103, 3), (1104, 0), (1104, 1), (1104, 2), (1104, 3), (1105, 0), (1105, 1), (1105, 2), (1105, 3), (1106, 0), (1106, 1), (1106, 2), (1106, 3), (1107, 0), (1107, 1), (1107, 2), (1107, 3)], [7, 8, 18, 1003, 1010, 1012]))
set_option maxRecDepth 1000000 in
theorem vx_363 : ai_valid ai_Tb cx_363 := ai_chk_ok (n := 60) (D := [cx_360, cx_362]) ai_TbK (ai_D1 vx_360 (ai_D1 vx_362 ai_D0)) (by decide +kernel)
-- X10_value
def cx_364 : ai_C := (127, [.r 0, .i (-2147483648) 2147483647, .i (-2147483648) 2147483647], [], some [.i (-2147483648) 2147483647], ([], []))
set_option maxRecDepth 1000000 in
theorem vx_364 : ai_valid ai_Tb cx_364 := ai_chk_ok (n := 41) (D := [cx_195, cx_200, cx_204, cx_208, cx_212, cx_216, cx_24, cx_26, cx_28, cx_30, cx_32, cx_34]) ai_TbK (ai_D1 vx_195 (ai_D1 vx_200 (ai_D1 vx_204 (ai_D1 vx_208 (ai_D1 vx_212 (ai_D1 vx_216 (ai_D1 vx_24 (ai_D1 vx_26 (ai_D1 vx_28 (ai_D1 vx_30 (ai_D1 vx_32 (ai_D1 vx_34 ai_D0)))))))))))) (by decide +kernel)
-- X10_matrix
def cx_365 : ai_C := (128, [.r 0, .i (-2147483648) 2147483647, .i (-2147483648) 2147483647, .i (-2147483648) 2147483647], [], some [.l (-9223372036854775808) 9223372036854775807], ([], [1003]))
set_option maxRecDepth 1000000 in
theorem vx_365 : ai_valid ai_Tb cx_365 := ai_chk_ok (n := 54) (D := [cx_41, cx_42]) ai_TbK (ai_D1 vx_41 (ai_D1 vx_42 ai_D0)) (by decide +kernel)
-- X10_lowest
def cx_366 : ai_C := (164, [.l (-9223372036854775808) 9223372036854775807, .l (-9223372036854775808) 9223372036854775807, .i (-2147483648) 2147483647], [], some [.l (-9223372036854775808) 9223372036854775807], ([], []))
set_option maxRecDepth 1000000 in
theorem vx_366 : ai_valid ai_Tb cx_366 := ai_chk_ok (n := 16) (D := [cx_12]) ai_TbK (ai_D1 vx_12 ai_D0) (by decide +kernel)
-- X10_norm
def cx_367 : ai_C := (129, [.r 0, .i (-2147483648) 2147483647, .i (-2147483648) 2147483647, .i (-2147483648) 2147483647], [], some [.l (-9223372036854775808) 9223372036854775807], ([], [1003]))
set_option maxRecDepth 1000000 in
theorem vx_367 : ai_valid ai_Tb cx_367 := ai_chk_ok (n := 62) (D := [cx_41, cx_46, cx_366]) ai_TbK (ai_D1 vx_41 (ai_D1 vx_46 (ai_D1 vx_366 ai_D0))) (by decide +kernel)
-- X2_signOfDifference
def cx_368 : ai_C := (48, [.r 1, .r 107, .r 107], [], some [.i (-1) 1], ([], []))
set_option maxRecDepth 1000000 in
theorem vx_368 : ai_valid ai_Tb cx_368 := ai_chk_ok (n := 37) (D := [cx_22]) ai_TbK (ai_D1 vx_22 ai_D0) (by decide +kernel)
-- X2_signOfDifference
def cx_369 : ai_C := (48, [.r 1, .r 107, .r 106], [], some [.i (-1) 1], ([], []))
set_option maxRecDepth 1000000 in
theorem vx_369 : ai_valid ai_Tb cx_369 := ai_chk_ok (n := 37) (D := [cx_22]) ai_TbK (ai_D1 vx_22 ai_D0) (by decide +kernel)
-- X2_signOfDifference
def cx_370 : ai_C := (48, [.r 1, .r 107, .r 105], [], some [.i (-1) 1], ([], []))
set_option maxRecDepth 1000000 in
theorem vx_370 : ai_valid ai_Tb cx_370 := ai_chk_ok (n := 37) (D := [cx_22]) ai_TbK (ai_D1 vx_22 ai_D0) (by decide +kernel)
-- X2_signOfDifference
def cx_371 : ai_C := (48, [.r 1, .r 107, .r 104], [], some [.i (-1) 1], ([], []))
set_option maxRecDepth 1000000 in
theorem vx_371 : ai_valid ai_Tb cx_371 := ai_chk_ok (n := 37) (D := [cx_22]) ai_TbK (ai_D1 vx_22 ai_D0) (by decide +kernel)
-- X2_signOfDifference
def cx_372 : ai_C := (48, [.r 1, .r 107, .r 103], [], some [.i (-1) 1], ([], []))
set_option maxRecDepth 1000000 in
theorem vx_372 : ai_valid ai_Tb cx_372 := ai_chk_ok (n := 37) (D := [cx_22]) ai_TbK (ai_D1 vx_22 ai_D0) (by decide +kernel)
-- X2_signOfDifference
def cx_373 : ai_C := (48, [.r 1, .r 107, .r 102], [], some [.i (-1) 1], ([], []))
set_option maxRecDepth 1000000 in
theorem vx_373 : ai_valid ai_Tb cx_373 := ai_chk_ok (n := 37) (D := [cx_22]) ai_TbK (ai_D1 vx_22 ai_D0) (by decide +kernel)
-- X2_signOfDifference
def cx_374 : ai_C := (48, [.r 1, .r 106, .r 107], [], some [.i (-1) 1], ([], []))
set_option maxRecDepth 1000000 in
theorem vx_374 : ai_valid ai_Tb cx_374 := ai_chk_ok (n := 37) (D := [cx_22]) ai_TbK (ai_D1 vx_22 ai_D0) (by decide +kernel)
-- X2_signOfDifference
def cx_375 : ai_C := (48, [.r 1, .r 106, .r 106], [], some [.i (-1) 1], ([], []))
set_option maxRecDepth 1000000 in
theorem vx_375 : ai_valid ai_Tb cx_375 := ai_chk_ok (n := 37) (D := [cx_22]) ai_TbK (ai_D1 vx_22 ai_D0) (by decide +kernel)
-- X2_signOfDifference
def cx_376 : ai_C := (48, [.r 1, .r 106, .r 105], [], some [.i (-1) 1], ([], []))
set_option maxRecDepth 1000000 in
theorem vx_376 : ai_valid ai_Tb cx_376 := ai_chk_ok (n := 37) (D := [cx_22]) ai_TbK (ai_D1 vx_22 ai_D0) (by decide +kernel)
-- X2_signOfDifference
def cx_377 : ai_C := (48, [.r 1, .r 106, .r 104], [], some [.i (-1) 1], ([], []))
set_option maxRecDepth 1000000 in
theorem vx_377 : ai_valid ai_Tb cx_377 := ai_chk_ok (n := 37) (D := [cx_22]) ai_TbK (ai_D1 vx_22 ai_D0) (by decide +kernel)
-- X2_signOfDifference
def cx_378 : ai_C := (48, [.r 1, .r 106, .r 103], [], some [.i (-1) 1], ([], []))
set_option maxRecDepth 1000000 in
theorem vx_378 : ai_valid ai_Tb cx_378 := ai_chk_ok (n := 37) (D := [cx_22]) ai_TbK (ai_D1 vx_22 ai_D0) (by decide +kernel)
-- X2_signOfDifference
def cx_379 : ai_C := (48, [.r 1, .r 106, .r 102], [], some [.i (-1) 1], ([], []))
set_option maxRecDepth 1000000 in
theorem vx_379 : ai_valid ai_Tb cx_379 := ai_chk_ok (n := 37) (D := [cx_22]) ai_TbK (ai_D1 vx_22 ai_D0) (by decide +kernel)
-- X2_signOfDifference
def cx_380 : ai_C := (48, [.r 1, .r 105, .r 107], [], some [.i (-1) 1], ([], []))
set_option maxRecDepth 1000000 in
theorem vx_380 : ai_valid ai_Tb cx_380 := ai_chk_ok (n := 37) (D := [cx_22]) ai_TbK (ai_D1 vx_22 ai_D0) (by decide +kernel)
-- X2_signOfDifference
def cx_381 : ai_C := (48, [.r 1, .r 105, .r 106], [], some [.i (-1) 1], ([], []))
set_option maxRecDepth 1000000 in
theorem vx_381 : ai_valid ai_Tb cx_381 := ai_chk_ok (n := 37) (D := [cx_22]) ai_TbK (ai_D1 vx_22 ai_D0) (by decide +kernel)
-- X2_signOfDifference
def cx_382 : ai_C := (48, [.r 1, .r 105, .r 105], [], some [.i (-1) 1], ([], []))
set_option maxRecDepth 1000000 in
theorem vx_382 : ai_valid ai_Tb cx_382 := ai_chk_ok (n := 37) (D := [cx_22]) ai_TbK (ai_D1 vx_22 ai_D0) (by decide +kernel)
-- X2_signOfDifference
def cx_383 : ai_C := (48, [.r 1, .r 105, .r 104], [], some [.i (-1) 1], ([], []))
set_option maxRecDepth 1000000 in
theorem vx_383 : ai_valid ai_Tb cx_383 := ai_chk_ok (n := 37) (D := [cx_22]) ai_TbK (ai_D1 vx_22 ai_D0) (by decide +kernel)
-- X2_signOfDifference
def cx_384 : ai_C := (48, [.r 1, .r 105, .r 103], [], some [.i (-1) 1], ([], []))
set_option maxRecDepth 1000000 in
theorem vx_384 : ai_valid ai_Tb cx_384 := ai_chk_ok (n := 37) (D := [cx_22]) ai_TbK (ai_D1 vx_22 ai_D0) (by decide +kernel)
-- X2_signOfDifference
def cx_385 : ai_C := (48, [.r 1, .r 105, .r 102], [], some [.i (-1) 1], ([], []))
set_option maxRecDepth 1000000 in
theorem vx_385 : ai_valid ai_Tb cx_385 := ai_chk_ok (n := 37) (D := [cx_22]) ai_TbK (ai_D1 vx_22 ai_D0) (by decide +kernel)
-- X2_signOfDifference
def cx_386 : ai_C := (48, [.r 1, .r 104, .r 107], [], some [.i (-1) 1], ([], []))
set_option maxRecDepth 1000000 in
theorem vx_386 : ai_valid ai_Tb cx_386 := ai_chk_ok (n := 37) (D := [cx_22]) ai_TbK (ai_D1 vx_22 ai_D0) (by decide +kernel)
-- X2_signOfDifference
def cx_387 : ai_C := (48, [.r 1, .r 104, .r 106], [], some [.i (-1) 1], ([], []))
set_option maxRecDepth 1000000 in
theorem vx_387 : ai_valid ai_Tb cx_387 := ai_chk_ok (n := 37) (D := [cx_22]) ai_TbK (ai_D1 vx_22 ai_D0) (by decide +kernel)
-- X2_signOfDifference
def cx_388 : ai_C := (48, [.r 1, .r 104, .r 105], [], some [.i (-1) 1], ([], []))
set_option maxRecDepth 1000000 in
theorem vx_388 : ai_valid ai_Tb cx_388 := ai_chk_ok (n := 37) (D := [cx_22]) ai_TbK (ai_D1 vx_22 ai_D0) (by decide +kernel)
-- X2_signOfDifference
def cx_389 : ai_C := (48, [.r 1, .r 104, .r 104], [], some [.i (-1) 1], ([], []))
set_option maxRecDepth 1000000 in
theorem vx_389 : ai_valid ai_Tb cx_389 := ai_chk_ok (n := 37) (D := [cx_22]) ai_TbK (ai_D1 vx_22 ai_D0) (by decide +kernel)
-- X2_signOfDifference
def cx_390 : ai_C := (48, [.r 1, .r 104, .r 103], [], some [.i (-1) 1], ([], []))
set_option maxRecDepth 1000000 in
theorem vx_390 : ai_valid ai_Tb cx_390 := ai_chk_ok (n := 37) (D := [cx_22]) ai_TbK (ai_D1 vx_22 ai_D0) (by decide +kernel)
-- X2_signOfDifference
def cx_391 : ai_C := (48, [.r 1, .r 104, .r 102], [], some [.i (-1) 1], ([], []))
set_option maxRecDepth 1000000 in
theorem vx_391 : ai_valid ai_Tb cx_391 := ai_chk_ok (n := 37) (D := [cx_22]) ai_TbK (ai_D1 vx_22 ai_D0) (by decide +kernel)
-- X2_signOfDifference
def cx_392 : ai_C := (48, [.r 1, .r 103, .r 107], [], some [.i (-1) 1], ([], []))
set_option maxRecDepth 1000000 in
theorem vx_392 : ai_valid ai_Tb cx_392 := ai_chk_ok (n := 37) (D := [cx_22]) ai_TbK (ai_D1 vx_22 ai_D0) (by decide +kernel)
-- X2_signOfDifference
def cx_393 : ai_C := (48, [.r 1, .r 103, .r 106], [], some [.i (-1) 1], ([], []))
set_option maxRecDepth 1000000 in
theorem vx_393 : ai_valid ai_Tb cx_393 := ai_chk_ok (n := 37) (D := [cx_22]) ai_TbK (ai_D1 vx_22 ai_D0) (by decide +kernel)
-- X2_signOfDifference
def cx_394 : ai_C := (48, [.r 1, .r 103, .r 105], [], some [.i (-1) 1], ([], []))
set_option maxRecDepth 1000000 in
theorem vx_394 : ai_valid ai_Tb cx_394 := ai_chk_ok (n := 37) (D := [cx_22]) ai_TbK (ai_D1 vx_22 ai_D0) (by decide +kernel)
-- X2_signOfDifference
def cx_395 : ai_C := (48, [.r 1, .r 103, .r 104], [], some [.i (-1) 1], ([], []))
set_option maxRecDepth 1000000 in
theorem vx_395 : ai_valid ai_Tb cx_395 := ai_chk_ok (n := 37) (D := [cx_22]) ai_TbK (ai_D1 vx_22 ai_D0) (by decide +kernel)
-- X2_signOfDifference
def cx_396 : ai_C := (48, [.r 1, .r 103, .r 103], [], some [.i (-1) 1], ([], []))
set_option maxRecDepth 1000000 in
theorem vx_396 : ai_valid ai_Tb cx_396 := ai_chk_ok (n := 37) (D := [cx_22]) ai_TbK (ai_D1 vx_22 ai_D0) (by decide +kernel)
-- X2_signOfDifference
def cx_397 : ai_C := (48, [.r 1, .r 103, .r 102], [], some [.i (-1) 1], ([], []))
set_option maxRecDepth 1000000 in
theorem vx_397 : ai_valid ai_Tb cx_397 := ai_chk_ok (n := 37) (D := [cx_22]) ai_TbK (ai_D1 vx_22 ai_D0) (by decide +kernel)
-- X2_signOfDifference
def cx_398 : ai_C := (48, [.r 1, .r 102, .r 107], [], some [.i (-1) 1], ([], []))
set_option maxRecDepth 1000000 in
theorem vx_398 : ai_valid ai_Tb cx_398 := ai_chk_ok (n := 37) (D := [cx_22]) ai_TbK (ai_D1 vx_22 ai_D0) (by decide +kernel)
-- X2_signOfDifference
def cx_399 : ai_C := (48, [.r 1, .r 102, .r 106], [], some [.i (-1) 1], ([], []))
set_option maxRecDepth 1000000 in
theorem vx_399 : ai_valid ai_Tb cx_399 := ai_chk_ok (n := 37) (D := [cx_22]) ai_TbK (ai_D1 vx_22 ai_D0) (by decide +kernel)
-- X2_signOfDifference
def cx_400 : ai_C := (48, [.r 1, .r 102, .r 105], [], some [.i (-1) 1], ([], []))
set_option maxRecDepth 1000000 in
theorem vx_400 : ai_valid ai_Tb cx_400 := ai_chk_ok (n := 37) (D := [cx_22]) ai_TbK (ai_D1 vx_22 ai_D0) (by decide +kernel)
-- X2_signOfDifference
def cx_401 : ai_C := (48, [.r 1, .r 102, .r 104], [], some [.i (-1) 1], ([], []))
set_option maxRecDepth 1000000 in
theorem vx_401 : ai_valid ai_Tb cx_401 := ai_chk_ok (n := 37) (D := [cx_22]) ai_TbK (ai_D1 vx_22 ai_D0) (by decide +kernel)
-- X2_signOfDifference
def cx_402 : ai_C := (48, [.r 1, .r 102, .r 103], [], some [.i (-1) 1], ([], []))
set_option maxRecDepth 1000000 in
theorem vx_402 : ai_valid ai_Tb cx_402 := ai_chk_ok (n := 37) (D := [cx_22]) ai_TbK (ai_D1 vx_22 ai_D0) (by decide +kernel)
-- X2_signOfDifference
def cx_403 : ai_C := (48, [.r 1, .r 102, .r 102], [], some [.i (-1) 1], ([], []))
set_option maxRecDepth 1000000 in
theorem vx_403 : ai_valid ai_Tb cx_403 := ai_chk_ok (n := 37) (D := [cx_22]) ai_TbK (ai_D1 vx_22 ai_D0) (by decide +kernel)
-- X10_compare
def cx_404 : ai_C := (130, [.r 0, .i (-2147483648) 2147483647, .i (-2147483648) 2147483647], [], some [.i (-2) 1], ([], []))
set_option maxRecDepth 1000000 in
theorem vx_404 : ai_valid ai_Tb cx_404 := ai_chk_ok (n := 35) (D := [cx_368, cx_369, cx_370, cx_371, cx_372, cx_373, cx_374, cx_375, cx_376, cx_377, cx_378, cx_379, cx_380, cx_381, cx_382, cx_383, cx_384, cx_385, cx_386, cx_387, cx_388, cx_389, cx_390, cx_391, cx_392, cx_393, cx_394, cx_395, cx_396, cx_397, cx_398, cx_399, cx_400, cx_401, cx_402, cx_403]) ai_TbK (ai_D1 vx_368 (ai_D1 vx_369 (ai_D1 vx_370 (ai_D1 vx_371 (ai_D1 vx_372 (ai_D1 vx_373 (ai_D1 vx_374 (ai_D1 vx_375 (ai_D1 vx_376 (ai_D1 vx_377 (ai_D1 vx_378 (ai_D1 vx_379 (ai_D1 vx_380 (ai_D1 vx_381 (ai_D1 vx_382 (ai_D1 vx_383 (ai_D1 vx_384 (ai_D1 vx_385 (ai_D1 vx_386 (ai_D1 vx_387 (ai_D1 vx_388 (ai_D1 vx_389 (ai_D1 vx_390 (ai_D1 vx_391 (ai_D1 vx_392 (ai_D1 vx_393 (ai_D1 vx_394 (ai_D1 vx_395 (ai_D1 vx_396 (ai_D1 vx_397 (ai_D1 vx_398 (ai_D1 vx_399 (ai_D1 vx_400 (ai_D1 vx_401 (ai_D1 vx_402 (ai_D1 vx_403 ai_D0)))))))))))))))))))))))))))))))))))) (by decide +kernel)
-- X10_state
def cx_405 : ai_C := (131, [.r 0, .i (-2147483648) 2147483647, .i (-2147483648) 2147483647, .i (-2147483648) 2147483647], [], some [.i (-2147483648) 2147483647], ([], []))
set_option maxRecDepth 1000000 in
theorem vx_405 : ai_valid ai_Tb cx_405 := ai_chk_ok (n := 65) (D := []) ai_TbK ai_D0 (by decide +kernel)
-- X1_digitOf
def cx_406 : ai_C := (17, [.r 6, .i (-2147483648) 2147483647, .i (-2147483648) 2147483647], [], some [.i (-2147483648) 2147483647], ([], []))
set_option maxRecDepth 1000000 in
theorem vx_406 : ai_valid ai_Tb cx_406 := ai_chk_ok (n := 44) (D := []) ai_TbK ai_D0 (by decide +kernel)
-- X10_digit
def cx_407 : ai_C := (132, [.r 0, .i (-2147483648) 2147483647, .i (-2147483648) 2147483647], [], some [.i (-2147483648) 2147483647], ([], []))
set_option maxRecDepth 1000000 in
theorem vx_407 : ai_valid ai_Tb cx_407 := ai_chk_ok (n := 26) (D := [cx_406]) ai_TbK (ai_D1 vx_406 ai_D0) (by decide +kernel)
-- X4_cell
def cx_408 : ai_C := (62, [.r 9, .i (-2147483648) 2147483647, .i (-2147483648) 2147483647], [], some [.l (-9223372036854775808) 9223372036854775807], ([], []))
set_option maxRecDepth 1000000 in
theorem vx_408 : ai_valid ai_Tb cx_408 := ai_chk_ok (n := 28) (D := []) ai_TbK ai_D0 (by decide +kernel)
-- X10_product
def cx_409 : ai_C := (133, [.r 0, .i (-2147483648) 2147483647, .i (-2147483648) 2147483647], [], some [.l (-9223372036854775808) 9223372036854775807], ([], []))
set_option maxRecDepth 1000000 in
theorem vx_409 : ai_valid ai_Tb cx_409 := ai_chk_ok (n := 36) (D := [cx_408]) ai_TbK (ai_D1 vx_408 ai_D0) (by decide +kernel)
-- X4_cofactor
def cx_410 : ai_C := (71, [.r 9, .i (-2147483648) 2147483647, .i (-2147483648) 2147483647], [], some [.l (-9223372036854775808) 9223372036854775807], ([], []))
set_option maxRecDepth 1000000 in
theorem vx_410 : ai_valid ai_Tb cx_410 := ai_chk_ok (n := 74) (D := []) ai_TbK ai_D0 (by decide +kernel)
-- X4_equate
def cx_411 : ai_C := (72, [.r 9, .i (-2147483648) 2147483647], [], some [.l (-9223372036854775808) 9223372036854775807], ([], []))
set_option maxRecDepth 1000000 in
theorem vx_411 : ai_valid ai_Tb cx_411 := ai_chk_ok (n := 36) (D := [cx_410]) ai_TbK (ai_D1 vx_410 ai_D0) (by decide +kernel)
-- X10_determinant
def cx_412 : ai_C := (134, [.r 0], [], some [.i (-2147483648) 2147483647], ([], []))
set_option maxRecDepth 1000000 in
theorem vx_412 : ai_valid ai_Tb cx_412 := ai_chk_ok (n := 20) (D := [cx_411]) ai_TbK (ai_D1 vx_411 ai_D0) (by decide +kernel)
-- X0_order
def cx_413 : ai_C := (3, [.r 9, .i (-2147483648) 2147483647, .i (-2147483648) 2147483647, .i (-2147483648) 2147483647], [(38, [.r 9, .i (-2147483648) 2147483647, .i (-2147483648) 2147483647, .i (-2147483648) 2147483647, .l (-9223372036854775808) 9223372036854775807, .u, .l (-9223372036854775808) 9223372036854775807, .u, .l (-9223372036854775808) 9223372036854775807, .u, .l (-9223372036854775808) 9223372036854775807, .u, .i (-1) 1, .i 0 200, .u, .u, .u, .u], [], (.v 13 200, .n 8000000000, .n 8000000000))], some [.i (-1) 1], ([], []))
set_option maxRecDepth 1000000 in
theorem vx_413 : ai_valid ai_Tb cx_413 := ai_chk_ok (n := 50) (D := [cx_408]) ai_TbK (ai_D1 vx_408 ai_D0) (by decide +kernel)
-- X0_layPart
def cx_414 : ai_C := (2, [.r 97, .r 9, .i 0 0], [(13, [.r 97, .r 9, .i 0 0, .i 1 1, .i 0 2, .i 0 2, .i 1 3, .u], [], (.n 2, .v 6 3, .n 8000000000)), (82, [.r 97, .r 9, .i 0 0, .i 1 1, .i 0 2, .i 0 2, .i 0 2, .u], [(99, 0, 0, 2), (99, 1, 0, 2)], (.n 1, .v 6 2, .n 8000000000))], none, ([(99, 0), (99, 1)], [1098]))
set_option maxRecDepth 1000000 in
theorem vx_414 : ai_valid ai_Tb cx_414 := ai_chk_ok (n := 58) (D := [cx_413, cx_408, cx_366]) ai_TbK (ai_D1 vx_413 (ai_D1 vx_408 (ai_D1 vx_366 ai_D0))) (by decide +kernel)
-- X0_layPart
def cx_415 : ai_C := (2, [.r 97, .r 9, .i 1 1], [(13, [.r 97, .r 9, .i 1 1, .i 2 2, .i 0 2, .i 0 2, .i 1 3, .u], [], (.n 2, .v 6 3, .n 8000000000)), (82, [.r 97, .r 9, .i 1 1, .i 2 2, .i 0 2, .i 0 2, .i 0 2, .u], [(99, 2, 0, 2), (99, 3, 0, 2)], (.n 1, .v 6 2, .n 8000000000))], none, ([(99, 2), (99, 3)], [1098]))
set_option maxRecDepth 1000000 in
theorem vx_415 : ai_valid ai_Tb cx_415 := ai_chk_ok (n := 58) (D := [cx_413, cx_408, cx_366]) ai_TbK (ai_D1 vx_413 (ai_D1 vx_408 (ai_D1 vx_366 ai_D0))) (by decide +kernel)
-- X0_lay
def cx_416 : ai_C := (1, [.r 97, .r 9], [(2, [.r 97, .r 9, .i 0 3], [], (.v 2 3, .n 8000000000, .n 8000000000))], some [.i 0 1], ([(99, 0), (99, 1), (99, 2), (99, 3)], [1098]))
set_option maxRecDepth 1000000 in
theorem vx_416 : ai_valid ai_Tb cx_416 := ai_chk_ok (n := 14) (D := [cx_414, cx_415, cx_408]) ai_TbK (ai_D1 vx_414 (ai_D1 vx_415 (ai_D1 vx_408 ai_D0))) (by decide +kernel)
-- X10_hasBounds
def cx_417 : ai_C := (160, [.r 0], [], some [.i 0 1], ([(99, 0), (99, 1), (99, 2), (99, 3)], [1098]))
set_option maxRecDepth 1000000 in
theorem vx_417 : ai_valid ai_Tb cx_417 := ai_chk_ok (n := 22) (D := [cx_416]) ai_TbK (ai_D1 vx_416 ai_D0) (by decide +kernel)
-- X0_endOf
def cx_418 : ai_C := (4, [.r 97, .i (-2147483648) 2147483647, .i (-2147483648) 2147483647], [], some [.l (-9223372036854775808) 9223372036854775807], ([], []))
set_option maxRecDepth 1000000 in
theorem vx_418 : ai_valid ai_Tb cx_418 := ai_chk_ok (n := 20) (D := []) ai_TbK ai_D0 (by decide +kernel)
-- X10_bounds
def cx_419 : ai_C := (135, [.r 0, .i (-2147483648) 2147483647, .i (-2147483648) 2147483647], [], some [.l (-9223372036854775808) 9223372036854775807], ([(99, 0), (99, 1), (99, 2), (99, 3)], [1098]))
set_option maxRecDepth 1000000 in
theorem vx_419 : ai_valid ai_Tb cx_419 := ai_chk_ok (n := 18) (D := [cx_418, cx_417]) ai_TbK (ai_D1 vx_418 (ai_D1 vx_417 ai_D0)) (by decide +kernel)
-- X10_outer
def cx_420 : ai_C := (136, [.r 0, .i (-2147483648) 2147483647, .i (-2147483648) 2147483647], [], some [.i (-2147483648) 2147483647], ([(99, 0), (99, 1), (99, 2), (99, 3)], [1098]))
set_option maxRecDepth 1000000 in
theorem vx_420 : ai_valid ai_Tb cx_420 := ai_chk_ok (n := 37) (D := [cx_417]) ai_TbK (ai_D1 vx_417 ai_D0) (by decide +kernel)
-- X4_isAbove
def cx_421 : ai_C := (70, [.r 9, .l (-9223372036854775808) 9223372036854775807], [(2, [.r 9, .l (-9223372036854775808) 9223372036854775807, .u, .i 0 9], [], (.v 3 9, .n 8000000000, .n 8000000000))], some [.i 0 1], ([], []))
set_option maxRecDepth 1000000 in
theorem vx_421 : ai_valid ai_Tb cx_421 := ai_chk_ok (n := 14) (D := []) ai_TbK ai_D0 (by decide +kernel)
-- X10_inverse
def cx_422 : ai_C := (137, [.r 0, .i (-2147483648) 2147483647, .i (-2147483648) 2147483647], [], some [.l (-9223372036854775808) 9223372036854775807], ([], []))
set_option maxRecDepth 1000000 in
theorem vx_422 : ai_valid ai_Tb cx_422 := ai_chk_ok (n := 48) (D := [cx_421, cx_410, cx_411]) ai_TbK (ai_D1 vx_421 (ai_D1 vx_410 (ai_D1 vx_411 ai_D0))) (by decide +kernel)
-- X2_signLess
def cx_423 : ai_C := (47, [.r 1, .r 100, .l (-9223372036854775808) 9223372036854775807, .l (-9223372036854775808) 9223372036854775807], [], some [.i (-1) 1], ([], []))
set_option maxRecDepth 1000000 in
theorem vx_423 : ai_valid ai_Tb cx_423 := ai_chk_ok (n := 21) (D := [cx_22]) ai_TbK (ai_D1 vx_22 ai_D0) (by decide +kernel)
-- X10_side
def cx_424 : ai_C := (138, [.r 0, .i (-2147483648) 2147483647, .i (-2147483648) 2147483647, .i (-2147483648) 2147483647], [], some [.i (-2) 1], ([(1100, 0), (1100, 1), (1100, 2), (1100, 3)], []))
set_option maxRecDepth 1000000 in
theorem vx_424 : ai_valid ai_Tb cx_424 := ai_chk_ok (n := 103) (D := [cx_423]) ai_TbK (ai_D1 vx_423 ai_D0) (by decide +kernel)
-- X0_simplestOf
def cx_425 : ai_C := (7, [.r 97, .i (-2147483648) 2147483647, .i (-2147483648) 2147483647], [(51, [.r 97, .i (-2147483648) 2147483647, .i (-2147483648) 2147483647, .l (-9223372036854775808) 9223372036854775807, .u, .l (-9223372036854775808) 9223372036854775807, .u, .l (-9223372036854775808) 9223372036854775807, .u, .l (-9223372036854775808) 9223372036854775807, .u, .l (-9223372036854775808) 9223372036854775807, .u, .l (-9223372036854775808) 9223372036854775807, .u, .i 0 200, .u, .u, .u, .u, .u, .u, .u, .u], [], (.v 15 200, .n 8000000000, .n 8000000000))], some [.l (-9223372036854775808) 9223372036854775807], ([], []))
set_option maxRecDepth 1000000 in
theorem vx_425 : ai_valid ai_Tb cx_425 := ai_chk_ok (n := 57) (D := [cx_418]) ai_TbK (ai_D1 vx_418 ai_D0) (by decide +kernel)
-- X10_simplest
def cx_426 : ai_C := (139, [.r 0, .i (-2147483648) 2147483647, .i (-2147483648) 2147483647], [], some [.l (-9223372036854775808) 9223372036854775807], ([(99, 0), (99, 1), (99, 2), (99, 3)], [1098]))
set_option maxRecDepth 1000000 in
theorem vx_426 : ai_valid ai_Tb cx_426 := ai_chk_ok (n := 18) (D := [cx_425, cx_417]) ai_TbK (ai_D1 vx_425 (ai_D1 vx_417 ai_D0)) (by decide +kernel)
-- X0_isAbove
def cx_427 : ai_C := (6, [.r 97, .l (-9223372036854775808) 9223372036854775807], [(2, [.r 97, .l (-9223372036854775808) 9223372036854775807, .u, .i 0 8], [], (.v 3 8, .n 8000000000, .n 8000000000))], some [.i 0 1], ([], []))
set_option maxRecDepth 1000000 in
theorem vx_427 : ai_valid ai_Tb cx_427 := ai_chk_ok (n := 14) (D := []) ai_TbK ai_D0 (by decide +kernel)
-- X0_leastWhole
def cx_428 : ai_C := (9, [.r 97, .i (-2147483648) 2147483647, .i (-2147483648) 2147483647], [], some [.l (-9223372036854775808) 9223372036854775807], ([], []))
set_option maxRecDepth 1000000 in
theorem vx_428 : ai_valid ai_Tb cx_428 := ai_chk_ok (n := 48) (D := [cx_418]) ai_TbK (ai_D1 vx_418 ai_D0) (by decide +kernel)
-- X0_sharedBy
def cx_429 : ai_C := (8, [.r 97, .i (-2147483648) 2147483647], [(2, [.r 97, .i (-2147483648) 2147483647, .i 1 10000, .u, .u, .u, .u], [], (.v 2 10000, .n 8000000000, .n 8000000000))], some [.l (-9223372036854775808) 9223372036854775807], ([], []))
set_option maxRecDepth 1000000 in
theorem vx_429 : ai_valid ai_Tb cx_429 := ai_chk_ok (n := 30) (D := [cx_428]) ai_TbK (ai_D1 vx_428 ai_D0) (by decide +kernel)
-- X10_shared
def cx_430 : ai_C := (140, [.r 0, .i (-2147483648) 2147483647], [], some [.l (-9223372036854775808) 9223372036854775807], ([(99, 0), (99, 1), (99, 2), (99, 3)], [1098]))
set_option maxRecDepth 1000000 in
theorem vx_430 : ai_valid ai_Tb cx_430 := ai_chk_ok (n := 19) (D := [cx_427, cx_429, cx_417]) ai_TbK (ai_D1 vx_427 (ai_D1 vx_429 (ai_D1 vx_417 ai_D0))) (by decide +kernel)
-- X10_period
def cx_431 : ai_C := (141, [.r 0, .i (-2147483648) 2147483647], [], some [.i (-1) 61], ([], []))
set_option maxRecDepth 1000000 in
theorem vx_431 : ai_valid ai_Tb cx_431 := ai_chk_ok (n := 34) (D := []) ai_TbK ai_D0 (by decide +kernel)
-- X1_layRound
def cx_432 : ai_C := (33, [.r 6, .r 95], [(11, [.r 6, .r 95, .i 0 61], [], (.v 2 61, .n 8000000000, .n 8000000000))], none, ([], [1096]))
set_option maxRecDepth 1000000 in
theorem vx_432 : ai_valid ai_Tb cx_432 := ai_chk_ok (n := 157) (D := [cx_406, cx_316]) ai_TbK (ai_D1 vx_406 (ai_D1 vx_316 ai_D0)) (by decide +kernel)
-- X10_round
def cx_433 : ai_C := (142, [.r 0, .i (-2147483648) 2147483647, .i (-2147483648) 2147483647], [], some [.l (-9223372036854775808) 9223372036854775807], ([], [1096]))
set_option maxRecDepth 1000000 in
theorem vx_433 : ai_valid ai_Tb cx_433 := ai_chk_ok (n := 57) (D := [cx_432, cx_322]) ai_TbK (ai_D1 vx_432 (ai_D1 vx_322 ai_D0)) (by decide +kernel)
-- J9_floorDiv_f86c9
def cx_434 : ai_C := (290, [.l (-9223372036854775808) 9223372036854775807, .l 2147483648 2147483648], [], some [.l (-9223372036854775808) 9223372036854775807], ([], []))
set_option maxRecDepth 1000000 in
theorem vx_434 : ai_valid ai_Tb cx_434 := ai_chk_ok (n := 21) (D := []) ai_TbK ai_D0 (by decide +kernel)
-- J9_floorMod_f86c9
def cx_435 : ai_C := (292, [.l (-9223372036854775808) 9223372036854775807, .l 2147483648 2147483648], [], some [.l (-9223372036854775808) 9223372036854775807], ([], []))
set_option maxRecDepth 1000000 in
theorem vx_435 : ai_valid ai_Tb cx_435 := ai_chk_ok (n := 19) (D := []) ai_TbK ai_D0 (by decide +kernel)
-- X1_together
def cx_436 : ai_C := (35, [.r 95, .l (-9223372036854775808) 9223372036854775807, .l (-9223372036854775808) 9223372036854775807, .l (-9223372036854775808) 9223372036854775807], [], some [.l (-9223372036854775808) 9223372036854775807], ([], []))
set_option maxRecDepth 1000000 in
theorem vx_436 : ai_valid ai_Tb cx_436 := ai_chk_ok (n := 75) (D := [cx_322, cx_434, cx_435]) ai_TbK (ai_D1 vx_322 (ai_D1 vx_434 (ai_D1 vx_435 ai_D0))) (by decide +kernel)
-- X1_layUnit
def cx_437 : ai_C := (34, [.r 6, .r 95, .r 100], [], some [.i 0 1], ([(1015, 0), (1015, 1), (1015, 2), (1015, 3), (1016, 0), (1016, 1), (1016, 2), (1016, 3), (1100, 0), (1100, 1), (1100, 2), (1100, 3)], []))
set_option maxRecDepth 1000000 in
theorem vx_437 : ai_valid ai_Tb cx_437 := ai_chk_ok (n := 204) (D := [cx_436, cx_36, cx_37]) ai_TbK (ai_D1 vx_436 (ai_D1 vx_36 (ai_D1 vx_37 ai_D0))) (by decide +kernel)
-- X10_unit
def cx_438 : ai_C := (143, [.r 0, .i (-2147483648) 2147483647], [], some [.i (-2147483648) 2147483647], ([(1015, 0), (1015, 1), (1015, 2), (1015, 3), (1016, 0), (1016, 1), (1016, 2), (1016, 3), (1100, 0), (1100, 1), (1100, 2), (1100, 3)], [1096]))
set_option maxRecDepth 1000000 in
theorem vx_438 : ai_valid ai_Tb cx_438 := ai_chk_ok (n := 60) (D := [cx_432, cx_437, cx_318]) ai_TbK (ai_D1 vx_432 (ai_D1 vx_437 (ai_D1 vx_318 ai_D0))) (by decide +kernel)
-- X10_equation
def cx_439 : ai_C := (144, [.r 0, .i (-2147483648) 2147483647], [], some [.l (-9223372036854775808) 9223372036854775807], ([], [1096]))
set_option maxRecDepth 1000000 in
theorem vx_439 : ai_valid ai_Tb cx_439 := ai_chk_ok (n := 46) (D := [cx_432, cx_318, cx_319, cx_321]) ai_TbK (ai_D1 vx_432 (ai_D1 vx_318 (ai_D1 vx_319 (ai_D1 vx_321 ai_D0)))) (by decide +kernel)
-- X1_relates
def cx_440 : ai_C := (37, [.r 6, .i (-2147483648) 2147483647, .i (-2147483648) 2147483647, .i (-2147483648) 2147483647], [(20, [.r 6, .i (-2147483648) 2147483647, .i (-2147483648) 2147483647, .i (-2147483648) 2147483647, .i (-2147483648) 2147483647, .i (-2147483648) 2147483647, .i (-1) 2, .u], [], (.w 6 (-1), .n 8000000000, .n 8000000000))], some [.i 0 1], ([], []))
set_option maxRecDepth 1000000 in
theorem vx_440 : ai_valid ai_Tb cx_440 := ai_chk_ok (n := 38) (D := []) ai_TbK ai_D0 (by decide +kernel)
-- X10_isRelation
def cx_441 : ai_C := (145, [.r 0, .i (-2147483648) 2147483647, .i (-2147483648) 2147483647, .i (-2147483648) 2147483647], [], some [.i 0 1], ([], []))
set_option maxRecDepth 1000000 in
theorem vx_441 : ai_valid ai_Tb cx_441 := ai_chk_ok (n := 64) (D := [cx_440]) ai_TbK (ai_D1 vx_440 ai_D0) (by decide +kernel)
-- X1_thirdOf
def cx_442 : ai_C := (36, [.r 6, .i (-2147483648) 2147483647, .i (-2147483648) 2147483647], [], some [.i (-2147483648) 2147483647], ([], []))
set_option maxRecDepth 1000000 in
theorem vx_442 : ai_valid ai_Tb cx_442 := ai_chk_ok (n := 71) (D := [cx_440]) ai_TbK (ai_D1 vx_440 ai_D0) (by decide +kernel)
-- X10_leastRelation
def cx_443 : ai_C := (161, [.r 0, .i 1 9, .i 0 2], [(15, [.r 0, .i 1 9, .i 0 2, .i (-2147483648) 9, .i 1 28, .i (-9) 18, .u, .u, .u], [], (.v 5 18, .n 8000000000, .n 8000000000)), (25, [.r 0, .i 1 9, .i 0 2, .i (-2147483648) 9, .i 1 28, .i (-9) 9, .i (-9) 18, .u, .u], [], (.v 5 18, .v 6 18, .n 8000000000))], some [.i (-2147483648) 9], ([], []))
set_option maxRecDepth 1000000 in
theorem vx_443 : ai_valid ai_Tb cx_443 := ai_chk_ok (n := 69) (D := [cx_442]) ai_TbK (ai_D1 vx_442 ai_D0) (by decide +kernel)
-- X10_relation
def cx_444 : ai_C := (146, [.r 0, .i (-2147483648) 2147483647, .i (-2147483648) 2147483647], [], some [.i (-2147483648) 9], ([], []))
set_option maxRecDepth 1000000 in
theorem vx_444 : ai_valid ai_Tb cx_444 := ai_chk_ok (n := 28) (D := [cx_443]) ai_TbK (ai_D1 vx_443 ai_D0) (by decide +kernel)
-- X10_word
def cx_445 : ai_C := (147, [.r 0, .i (-2147483648) 2147483647, .i (-2147483648) 2147483647], [], some [.i (-128) 127], ([], []))
set_option maxRecDepth 1000000 in
theorem vx_445 : ai_valid ai_Tb cx_445 := ai_chk_ok (n := 38) (D := []) ai_TbK ai_D0 (by decide +kernel)
-- X10_spelt
def cx_446 : ai_C := (148, [.r 0, .i (-2147483648) 2147483647, .i (-2147483648) 2147483647], [], some [.l (-9223372036854775808) 9223372036854775807], ([], [1096]))
set_option maxRecDepth 1000000 in
theorem vx_446 : ai_valid ai_Tb cx_446 := ai_chk_ok (n := 40) (D := [cx_322, cx_317]) ai_TbK (ai_D1 vx_322 (ai_D1 vx_317 ai_D0)) (by decide +kernel)
