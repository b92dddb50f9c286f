noncomputable section
-- PART b52.cx
-- contexts of the class, checked by the kernel
-- X4_cofactor
def cx_2057 : ai_C := (71, [.r 2, .i (-2147483648) 2147483647, .i (-2147483648) 2147483647], [], some [.l (-9223372036854775808) 9223372036854775807], ([], []))
set_option maxRecDepth 1000000 in
theorem vx_2057 : ai_valid ai_Tb cx_2057 := ai_chkH_ok (n := 74) (D := []) ai_TbK ai_D0 (by decide +kernel)
-- X4_equate
def cx_2058 : ai_C := (72, [.r 2, .i (-2147483648) 2147483647], [], some [.l (-9223372036854775808) 9223372036854775807], ([], []))
set_option maxRecDepth 1000000 in
theorem vx_2058 : ai_valid ai_Tb cx_2058 := ai_chkH_ok (n := 36) (D := [cx_2057]) ai_TbK (ai_D1 vx_2057 ai_D0) (by decide +kernel)
-- X2_divide
def cx_2059 : ai_C := (52, [.r 1, .r 107, .r 107, .r 100], [], none, ([(1100, 0), (1100, 1), (1100, 2), (1100, 3)], [1003]))
set_option maxRecDepth 1000000 in
theorem vx_2059 : ai_valid ai_Tb cx_2059 := ai_chkH_ok (n := 62) (D := [cx_2053, cx_2057, cx_2058, cx_2055, cx_2039]) ai_TbK (ai_D1 vx_2053 (ai_D1 vx_2057 (ai_D1 vx_2058 (ai_D1 vx_2055 (ai_D1 vx_2039 ai_D0))))) (by decide +kernel)
-- X10_join
def cx_2060 : ai_C := (158, [.r 0, .i (-2147483648) 2147483647, .r 107, .r 107], [], none, ([(1100, 0), (1100, 1), (1100, 2), (1100, 3)], [1003]))
set_option maxRecDepth 1000000 in
theorem vx_2060 : ai_valid ai_Tb cx_2060 := ai_chkH_ok (n := 21) (D := [cx_2051, cx_2056, cx_2059]) ai_TbK (ai_D1 vx_2051 (ai_D1 vx_2056 (ai_D1 vx_2059 ai_D0))) (by decide +kernel)
-- X2_add
def cx_2061 : ai_C := (50, [.r 1, .r 106, .r 107, .i (-2147483648) 2147483647, .r 100], [], none, ([(1100, 0), (1100, 1), (1100, 2), (1100, 3)], []))
set_option maxRecDepth 1000000 in
theorem vx_2061 : ai_valid ai_Tb cx_2061 := ai_chkH_ok (n := 45) (D := [cx_2039]) ai_TbK (ai_D1 vx_2039 ai_D0) (by decide +kernel)
-- X4_under
def cx_2062 : ai_C := (73, [.r 2, .r 106, .i (-2147483648) 2147483647], [], some [.l (-9223372036854775808) 9223372036854775807], ([], []))
set_option maxRecDepth 1000000 in
theorem vx_2062 : ai_valid ai_Tb cx_2062 := ai_chkH_ok (n := 25) (D := [cx_2054]) ai_TbK (ai_D1 vx_2054 ai_D0) (by decide +kernel)
-- X2_multiply
def cx_2063 : ai_C := (51, [.r 1, .r 106, .r 107, .r 100], [], none, ([(1100, 0), (1100, 1), (1100, 2), (1100, 3)], [1003]))
set_option maxRecDepth 1000000 in
theorem vx_2063 : ai_valid ai_Tb cx_2063 := ai_chkH_ok (n := 32) (D := [cx_2053, cx_2062, cx_2039]) ai_TbK (ai_D1 vx_2053 (ai_D1 vx_2062 (ai_D1 vx_2039 ai_D0))) (by decide +kernel)
-- X2_divide
def cx_2064 : ai_C := (52, [.r 1, .r 106, .r 107, .r 100], [], none, ([(1100, 0), (1100, 1), (1100, 2), (1100, 3)], [1003]))
set_option maxRecDepth 1000000 in
theorem vx_2064 : ai_valid ai_Tb cx_2064 := ai_chkH_ok (n := 62) (D := [cx_2053, cx_2057, cx_2058, cx_2062, cx_2039]) ai_TbK (ai_D1 vx_2053 (ai_D1 vx_2057 (ai_D1 vx_2058 (ai_D1 vx_2062 (ai_D1 vx_2039 ai_D0))))) (by decide +kernel)
-- X10_join
def cx_2065 : ai_C := (158, [.r 0, .i (-2147483648) 2147483647, .r 106, .r 107], [], none, ([(1100, 0), (1100, 1), (1100, 2), (1100, 3)], [1003]))
set_option maxRecDepth 1000000 in
theorem vx_2065 : ai_valid ai_Tb cx_2065 := ai_chkH_ok (n := 21) (D := [cx_2061, cx_2063, cx_2064]) ai_TbK (ai_D1 vx_2061 (ai_D1 vx_2063 (ai_D1 vx_2064 ai_D0))) (by decide +kernel)
-- X2_add
def cx_2066 : ai_C := (50, [.r 1, .r 105, .r 107, .i (-2147483648) 2147483647, .r 100], [], none, ([(1100, 0), (1100, 1), (1100, 2), (1100, 3)], []))
set_option maxRecDepth 1000000 in
theorem vx_2066 : ai_valid ai_Tb cx_2066 := ai_chkH_ok (n := 45) (D := [cx_2039]) ai_TbK (ai_D1 vx_2039 ai_D0) (by decide +kernel)
-- X4_under
def cx_2067 : ai_C := (73, [.r 2, .r 105, .i (-2147483648) 2147483647], [], some [.l (-9223372036854775808) 9223372036854775807], ([], []))
set_option maxRecDepth 1000000 in
theorem vx_2067 : ai_valid ai_Tb cx_2067 := ai_chkH_ok (n := 25) (D := [cx_2054]) ai_TbK (ai_D1 vx_2054 ai_D0) (by decide +kernel)
-- X2_multiply
def cx_2068 : ai_C := (51, [.r 1, .r 105, .r 107, .r 100], [], none, ([(1100, 0), (1100, 1), (1100, 2), (1100, 3)], [1003]))
set_option maxRecDepth 1000000 in
theorem vx_2068 : ai_valid ai_Tb cx_2068 := ai_chkH_ok (n := 32) (D := [cx_2053, cx_2067, cx_2039]) ai_TbK (ai_D1 vx_2053 (ai_D1 vx_2067 (ai_D1 vx_2039 ai_D0))) (by decide +kernel)
-- X2_divide
def cx_2069 : ai_C := (52, [.r 1, .r 105, .r 107, .r 100], [], none, ([(1100, 0), (1100, 1), (1100, 2), (1100, 3)], [1003]))
set_option maxRecDepth 1000000 in
theorem vx_2069 : ai_valid ai_Tb cx_2069 := ai_chkH_ok (n := 62) (D := [cx_2053, cx_2057, cx_2058, cx_2067, cx_2039]) ai_TbK (ai_D1 vx_2053 (ai_D1 vx_2057 (ai_D1 vx_2058 (ai_D1 vx_2067 (ai_D1 vx_2039 ai_D0))))) (by decide +kernel)
-- X10_join
def cx_2070 : ai_C := (158, [.r 0, .i (-2147483648) 2147483647, .r 105, .r 107], [], none, ([(1100, 0), (1100, 1), (1100, 2), (1100, 3)], [1003]))
set_option maxRecDepth 1000000 in
theorem vx_2070 : ai_valid ai_Tb cx_2070 := ai_chkH_ok (n := 21) (D := [cx_2066, cx_2068, cx_2069]) ai_TbK (ai_D1 vx_2066 (ai_D1 vx_2068 (ai_D1 vx_2069 ai_D0))) (by decide +kernel)
-- X2_add
def cx_2071 : ai_C := (50, [.r 1, .r 104, .r 107, .i (-2147483648) 2147483647, .r 100], [], none, ([(1100, 0), (1100, 1), (1100, 2), (1100, 3)], []))
set_option maxRecDepth 1000000 in
theorem vx_2071 : ai_valid ai_Tb cx_2071 := ai_chkH_ok (n := 45) (D := [cx_2039]) ai_TbK (ai_D1 vx_2039 ai_D0) (by decide +kernel)
-- X4_under
def cx_2072 : ai_C := (73, [.r 2, .r 104, .i (-2147483648) 2147483647], [], some [.l (-9223372036854775808) 9223372036854775807], ([], []))
set_option maxRecDepth 1000000 in
theorem vx_2072 : ai_valid ai_Tb cx_2072 := ai_chkH_ok (n := 25) (D := [cx_2054]) ai_TbK (ai_D1 vx_2054 ai_D0) (by decide +kernel)
-- X2_multiply
def cx_2073 : ai_C := (51, [.r 1, .r 104, .r 107, .r 100], [], none, ([(1100, 0), (1100, 1), (1100, 2), (1100, 3)], [1003]))
set_option maxRecDepth 1000000 in
theorem vx_2073 : ai_valid ai_Tb cx_2073 := ai_chkH_ok (n := 32) (D := [cx_2053, cx_2072, cx_2039]) ai_TbK (ai_D1 vx_2053 (ai_D1 vx_2072 (ai_D1 vx_2039 ai_D0))) (by decide +kernel)
-- X2_divide
def cx_2074 : ai_C := (52, [.r 1, .r 104, .r 107, .r 100], [], none, ([(1100, 0), (1100, 1), (1100, 2), (1100, 3)], [1003]))
set_option maxRecDepth 1000000 in
theorem vx_2074 : ai_valid ai_Tb cx_2074 := ai_chkH_ok (n := 62) (D := [cx_2053, cx_2057, cx_2058, cx_2072, cx_2039]) ai_TbK (ai_D1 vx_2053 (ai_D1 vx_2057 (ai_D1 vx_2058 (ai_D1 vx_2072 (ai_D1 vx_2039 ai_D0))))) (by decide +kernel)
-- X10_join
def cx_2075 : ai_C := (158, [.r 0, .i (-2147483648) 2147483647, .r 104, .r 107], [], none, ([(1100, 0), (1100, 1), (1100, 2), (1100, 3)], [1003]))
set_option maxRecDepth 1000000 in
theorem vx_2075 : ai_valid ai_Tb cx_2075 := ai_chkH_ok (n := 21) (D := [cx_2071, cx_2073, cx_2074]) ai_TbK (ai_D1 vx_2071 (ai_D1 vx_2073 (ai_D1 vx_2074 ai_D0))) (by decide +kernel)
-- X2_add
def cx_2076 : ai_C := (50, [.r 1, .r 103, .r 107, .i (-2147483648) 2147483647, .r 100], [], none, ([(1100, 0), (1100, 1), (1100, 2), (1100, 3)], []))
set_option maxRecDepth 1000000 in
theorem vx_2076 : ai_valid ai_Tb cx_2076 := ai_chkH_ok (n := 45) (D := [cx_2039]) ai_TbK (ai_D1 vx_2039 ai_D0) (by decide +kernel)
-- X4_under
def cx_2077 : ai_C := (73, [.r 2, .r 103, .i (-2147483648) 2147483647], [], some [.l (-9223372036854775808) 9223372036854775807], ([], []))
set_option maxRecDepth 1000000 in
theorem vx_2077 : ai_valid ai_Tb cx_2077 := ai_chkH_ok (n := 25) (D := [cx_2054]) ai_TbK (ai_D1 vx_2054 ai_D0) (by decide +kernel)
-- X2_multiply
def cx_2078 : ai_C := (51, [.r 1, .r 103, .r 107, .r 100], [], none, ([(1100, 0), (1100, 1), (1100, 2), (1100, 3)], [1003]))
set_option maxRecDepth 1000000 in
theorem vx_2078 : ai_valid ai_Tb cx_2078 := ai_chkH_ok (n := 32) (D := [cx_2053, cx_2077, cx_2039]) ai_TbK (ai_D1 vx_2053 (ai_D1 vx_2077 (ai_D1 vx_2039 ai_D0))) (by decide +kernel)
-- X2_divide
def cx_2079 : ai_C := (52, [.r 1, .r 103, .r 107, .r 100], [], none, ([(1100, 0), (1100, 1), (1100, 2), (1100, 3)], [1003]))
set_option maxRecDepth 1000000 in
theorem vx_2079 : ai_valid ai_Tb cx_2079 := ai_chkH_ok (n := 62) (D := [cx_2053, cx_2057, cx_2058, cx_2077, cx_2039]) ai_TbK (ai_D1 vx_2053 (ai_D1 vx_2057 (ai_D1 vx_2058 (ai_D1 vx_2077 (ai_D1 vx_2039 ai_D0))))) (by decide +kernel)
-- X10_join
def cx_2080 : ai_C := (158, [.r 0, .i (-2147483648) 2147483647, .r 103, .r 107], [], none, ([(1100, 0), (1100, 1), (1100, 2), (1100, 3)], [1003]))
set_option maxRecDepth 1000000 in
theorem vx_2080 : ai_valid ai_Tb cx_2080 := ai_chkH_ok (n := 21) (D := [cx_2076, cx_2078, cx_2079]) ai_TbK (ai_D1 vx_2076 (ai_D1 vx_2078 (ai_D1 vx_2079 ai_D0))) (by decide +kernel)
-- X2_add
def cx_2081 : ai_C := (50, [.r 1, .r 102, .r 107, .i (-2147483648) 2147483647, .r 100], [], none, ([(1100, 0), (1100, 1), (1100, 2), (1100, 3)], []))
set_option maxRecDepth 1000000 in
theorem vx_2081 : ai_valid ai_Tb cx_2081 := ai_chkH_ok (n := 45) (D := [cx_2039]) ai_TbK (ai_D1 vx_2039 ai_D0) (by decide +kernel)
-- X4_under
def cx_2082 : ai_C := (73, [.r 2, .r 102, .i (-2147483648) 2147483647], [], some [.l (-9223372036854775808) 9223372036854775807], ([], []))
set_option maxRecDepth 1000000 in
theorem vx_2082 : ai_valid ai_Tb cx_2082 := ai_chkH_ok (n := 25) (D := [cx_2054]) ai_TbK (ai_D1 vx_2054 ai_D0) (by decide +kernel)
-- X2_multiply
def cx_2083 : ai_C := (51, [.r 1, .r 102, .r 107, .r 100], [], none, ([(1100, 0), (1100, 1), (1100, 2), (1100, 3)], [1003]))
set_option maxRecDepth 1000000 in
theorem vx_2083 : ai_valid ai_Tb cx_2083 := ai_chkH_ok (n := 32) (D := [cx_2053, cx_2082, cx_2039]) ai_TbK (ai_D1 vx_2053 (ai_D1 vx_2082 (ai_D1 vx_2039 ai_D0))) (by decide +kernel)
-- X2_divide
def cx_2084 : ai_C := (52, [.r 1, .r 102, .r 107, .r 100], [], none, ([(1100, 0), (1100, 1), (1100, 2), (1100, 3)], [1003]))
set_option maxRecDepth 1000000 in
theorem vx_2084 : ai_valid ai_Tb cx_2084 := ai_chkH_ok (n := 62) (D := [cx_2053, cx_2057, cx_2058, cx_2082, cx_2039]) ai_TbK (ai_D1 vx_2053 (ai_D1 vx_2057 (ai_D1 vx_2058 (ai_D1 vx_2082 (ai_D1 vx_2039 ai_D0))))) (by decide +kernel)
-- X10_join
def cx_2085 : ai_C := (158, [.r 0, .i (-2147483648) 2147483647, .r 102, .r 107], [], none, ([(1100, 0), (1100, 1), (1100, 2), (1100, 3)], [1003]))
set_option maxRecDepth 1000000 in
theorem vx_2085 : ai_valid ai_Tb cx_2085 := ai_chkH_ok (n := 21) (D := [cx_2081, cx_2083, cx_2084]) ai_TbK (ai_D1 vx_2081 (ai_D1 vx_2083 (ai_D1 vx_2084 ai_D0))) (by decide +kernel)
-- X8_isZero
def cx_2086 : ai_C := (101, [.r 106], [], some [.i 0 1], ([], []))
set_option maxRecDepth 1000000 in
theorem vx_2086 : ai_valid ai_Tb cx_2086 := ai_chkH_ok (n := 19) (D := []) ai_TbK ai_D0 (by decide +kernel)
-- X2_add
def cx_2087 : ai_C := (50, [.r 1, .r 107, .r 106, .i (-2147483648) 2147483647, .r 100], [], none, ([(1100, 0), (1100, 1), (1100, 2), (1100, 3)], []))
set_option maxRecDepth 1000000 in
theorem vx_2087 : ai_valid ai_Tb cx_2087 := ai_chkH_ok (n := 45) (D := [cx_2039]) ai_TbK (ai_D1 vx_2039 ai_D0) (by decide +kernel)
-- X2_multiply
def cx_2088 : ai_C := (51, [.r 1, .r 107, .r 106, .r 100], [], none, ([(1100, 0), (1100, 1), (1100, 2), (1100, 3)], [1003]))
set_option maxRecDepth 1000000 in
theorem vx_2088 : ai_valid ai_Tb cx_2088 := ai_chkH_ok (n := 32) (D := [cx_2053, cx_2055, cx_2039]) ai_TbK (ai_D1 vx_2053 (ai_D1 vx_2055 (ai_D1 vx_2039 ai_D0))) (by decide +kernel)
-- X2_divide
def cx_2089 : ai_C := (52, [.r 1, .r 107, .r 106, .r 100], [], none, ([(1100, 0), (1100, 1), (1100, 2), (1100, 3)], [1003]))
set_option maxRecDepth 1000000 in
theorem vx_2089 : ai_valid ai_Tb cx_2089 := ai_chkH_ok (n := 62) (D := [cx_2053, cx_2057, cx_2058, cx_2055, cx_2039]) ai_TbK (ai_D1 vx_2053 (ai_D1 vx_2057 (ai_D1 vx_2058 (ai_D1 vx_2055 (ai_D1 vx_2039 ai_D0))))) (by decide +kernel)
-- X10_join
def cx_2090 : ai_C := (158, [.r 0, .i (-2147483648) 2147483647, .r 107, .r 106], [], none, ([(1100, 0), (1100, 1), (1100, 2), (1100, 3)], [1003]))
set_option maxRecDepth 1000000 in
theorem vx_2090 : ai_valid ai_Tb cx_2090 := ai_chkH_ok (n := 21) (D := [cx_2087, cx_2088, cx_2089]) ai_TbK (ai_D1 vx_2087 (ai_D1 vx_2088 (ai_D1 vx_2089 ai_D0))) (by decide +kernel)
-- X2_add
def cx_2091 : ai_C := (50, [.r 1, .r 106, .r 106, .i (-2147483648) 2147483647, .r 100], [], none, ([(1100, 0), (1100, 1), (1100, 2), (1100, 3)], []))
set_option maxRecDepth 1000000 in
theorem vx_2091 : ai_valid ai_Tb cx_2091 := ai_chkH_ok (n := 45) (D := [cx_2039]) ai_TbK (ai_D1 vx_2039 ai_D0) (by decide +kernel)
-- X2_multiply
def cx_2092 : ai_C := (51, [.r 1, .r 106, .r 106, .r 100], [], none, ([(1100, 0), (1100, 1), (1100, 2), (1100, 3)], [1003]))
set_option maxRecDepth 1000000 in
theorem vx_2092 : ai_valid ai_Tb cx_2092 := ai_chkH_ok (n := 32) (D := [cx_2053, cx_2062, cx_2039]) ai_TbK (ai_D1 vx_2053 (ai_D1 vx_2062 (ai_D1 vx_2039 ai_D0))) (by decide +kernel)
-- X2_divide
def cx_2093 : ai_C := (52, [.r 1, .r 106, .r 106, .r 100], [], none, ([(1100, 0), (1100, 1), (1100, 2), (1100, 3)], [1003]))
set_option maxRecDepth 1000000 in
theorem vx_2093 : ai_valid ai_Tb cx_2093 := ai_chkH_ok (n := 62) (D := [cx_2053, cx_2057, cx_2058, cx_2062, cx_2039]) ai_TbK (ai_D1 vx_2053 (ai_D1 vx_2057 (ai_D1 vx_2058 (ai_D1 vx_2062 (ai_D1 vx_2039 ai_D0))))) (by decide +kernel)
-- X10_join
def cx_2094 : ai_C := (158, [.r 0, .i (-2147483648) 2147483647, .r 106, .r 106], [], none, ([(1100, 0), (1100, 1), (1100, 2), (1100, 3)], [1003]))
set_option maxRecDepth 1000000 in
theorem vx_2094 : ai_valid ai_Tb cx_2094 := ai_chkH_ok (n := 21) (D := [cx_2091, cx_2092, cx_2093]) ai_TbK (ai_D1 vx_2091 (ai_D1 vx_2092 (ai_D1 vx_2093 ai_D0))) (by decide +kernel)
-- X2_add
def cx_2095 : ai_C := (50, [.r 1, .r 105, .r 106, .i (-2147483648) 2147483647, .r 100], [], none, ([(1100, 0), (1100, 1), (1100, 2), (1100, 3)], []))
set_option maxRecDepth 1000000 in
theorem vx_2095 : ai_valid ai_Tb cx_2095 := ai_chkH_ok (n := 45) (D := [cx_2039]) ai_TbK (ai_D1 vx_2039 ai_D0) (by decide +kernel)
-- X2_multiply
def cx_2096 : ai_C := (51, [.r 1, .r 105, .r 106, .r 100], [], none, ([(1100, 0), (1100, 1), (1100, 2), (1100, 3)], [1003]))
set_option maxRecDepth 1000000 in
theorem vx_2096 : ai_valid ai_Tb cx_2096 := ai_chkH_ok (n := 32) (D := [cx_2053, cx_2067, cx_2039]) ai_TbK (ai_D1 vx_2053 (ai_D1 vx_2067 (ai_D1 vx_2039 ai_D0))) (by decide +kernel)
-- X2_divide
def cx_2097 : ai_C := (52, [.r 1, .r 105, .r 106, .r 100], [], none, ([(1100, 0), (1100, 1), (1100, 2), (1100, 3)], [1003]))
set_option maxRecDepth 1000000 in
theorem vx_2097 : ai_valid ai_Tb cx_2097 := ai_chkH_ok (n := 62) (D := [cx_2053, cx_2057, cx_2058, cx_2067, cx_2039]) ai_TbK (ai_D1 vx_2053 (ai_D1 vx_2057 (ai_D1 vx_2058 (ai_D1 vx_2067 (ai_D1 vx_2039 ai_D0))))) (by decide +kernel)
-- X10_join
def cx_2098 : ai_C := (158, [.r 0, .i (-2147483648) 2147483647, .r 105, .r 106], [], none, ([(1100, 0), (1100, 1), (1100, 2), (1100, 3)], [1003]))
set_option maxRecDepth 1000000 in
theorem vx_2098 : ai_valid ai_Tb cx_2098 := ai_chkH_ok (n := 21) (D := [cx_2095, cx_2096, cx_2097]) ai_TbK (ai_D1 vx_2095 (ai_D1 vx_2096 (ai_D1 vx_2097 ai_D0))) (by decide +kernel)
-- X2_add
def cx_2099 : ai_C := (50, [.r 1, .r 104, .r 106, .i (-2147483648) 2147483647, .r 100], [], none, ([(1100, 0), (1100, 1), (1100, 2), (1100, 3)], []))
set_option maxRecDepth 1000000 in
theorem vx_2099 : ai_valid ai_Tb cx_2099 := ai_chkH_ok (n := 45) (D := [cx_2039]) ai_TbK (ai_D1 vx_2039 ai_D0) (by decide +kernel)
-- X2_multiply
def cx_2100 : ai_C := (51, [.r 1, .r 104, .r 106, .r 100], [], none, ([(1100, 0), (1100, 1), (1100, 2), (1100, 3)], [1003]))
set_option maxRecDepth 1000000 in
theorem vx_2100 : ai_valid ai_Tb cx_2100 := ai_chkH_ok (n := 32) (D := [cx_2053, cx_2072, cx_2039]) ai_TbK (ai_D1 vx_2053 (ai_D1 vx_2072 (ai_D1 vx_2039 ai_D0))) (by decide +kernel)
-- X2_divide
def cx_2101 : ai_C := (52, [.r 1, .r 104, .r 106, .r 100], [], none, ([(1100, 0), (1100, 1), (1100, 2), (1100, 3)], [1003]))
set_option maxRecDepth 1000000 in
theorem vx_2101 : ai_valid ai_Tb cx_2101 := ai_chkH_ok (n := 62) (D := [cx_2053, cx_2057, cx_2058, cx_2072, cx_2039]) ai_TbK (ai_D1 vx_2053 (ai_D1 vx_2057 (ai_D1 vx_2058 (ai_D1 vx_2072 (ai_D1 vx_2039 ai_D0))))) (by decide +kernel)
-- X10_join
def cx_2102 : ai_C := (158, [.r 0, .i (-2147483648) 2147483647, .r 104, .r 106], [], none, ([(1100, 0), (1100, 1), (1100, 2), (1100, 3)], [1003]))
set_option maxRecDepth 1000000 in
theorem vx_2102 : ai_valid ai_Tb cx_2102 := ai_chkH_ok (n := 21) (D := [cx_2099, cx_2100, cx_2101]) ai_TbK (ai_D1 vx_2099 (ai_D1 vx_2100 (ai_D1 vx_2101 ai_D0))) (by decide +kernel)
-- X2_add
def cx_2103 : ai_C := (50, [.r 1, .r 103, .r 106, .i (-2147483648) 2147483647, .r 100], [], none, ([(1100, 0), (1100, 1), (1100, 2), (1100, 3)], []))
set_option maxRecDepth 1000000 in
theorem vx_2103 : ai_valid ai_Tb cx_2103 := ai_chkH_ok (n := 45) (D := [cx_2039]) ai_TbK (ai_D1 vx_2039 ai_D0) (by decide +kernel)
-- X2_multiply
def cx_2104 : ai_C := (51, [.r 1, .r 103, .r 106, .r 100], [], none, ([(1100, 0), (1100, 1), (1100, 2), (1100, 3)], [1003]))
set_option maxRecDepth 1000000 in
theorem vx_2104 : ai_valid ai_Tb cx_2104 := ai_chkH_ok (n := 32) (D := [cx_2053, cx_2077, cx_2039]) ai_TbK (ai_D1 vx_2053 (ai_D1 vx_2077 (ai_D1 vx_2039 ai_D0))) (by decide +kernel)
-- X2_divide
def cx_2105 : ai_C := (52, [.r 1, .r 103, .r 106, .r 100], [], none, ([(1100, 0), (1100, 1), (1100, 2), (1100, 3)], [1003]))
set_option maxRecDepth 1000000 in
theorem vx_2105 : ai_valid ai_Tb cx_2105 := ai_chkH_ok (n := 62) (D := [cx_2053, cx_2057, cx_2058, cx_2077, cx_2039]) ai_TbK (ai_D1 vx_2053 (ai_D1 vx_2057 (ai_D1 vx_2058 (ai_D1 vx_2077 (ai_D1 vx_2039 ai_D0))))) (by decide +kernel)
-- X10_join
def cx_2106 : ai_C := (158, [.r 0, .i (-2147483648) 2147483647, .r 103, .r 106], [], none, ([(1100, 0), (1100, 1), (1100, 2), (1100, 3)], [1003]))
set_option maxRecDepth 1000000 in
theorem vx_2106 : ai_valid ai_Tb cx_2106 := ai_chkH_ok (n := 21) (D := [cx_2103, cx_2104, cx_2105]) ai_TbK (ai_D1 vx_2103 (ai_D1 vx_2104 (ai_D1 vx_2105 ai_D0))) (by decide +kernel)
-- X2_add
def cx_2107 : ai_C := (50, [.r 1, .r 102, .r 106, .i (-2147483648) 2147483647, .r 100], [], none, ([(1100, 0), (1100, 1), (1100, 2), (1100, 3)], []))
set_option maxRecDepth 1000000 in
theorem vx_2107 : ai_valid ai_Tb cx_2107 := ai_chkH_ok (n := 45) (D := [cx_2039]) ai_TbK (ai_D1 vx_2039 ai_D0) (by decide +kernel)
-- X2_multiply
def cx_2108 : ai_C := (51, [.r 1, .r 102, .r 106, .r 100], [], none, ([(1100, 0), (1100, 1), (1100, 2), (1100, 3)], [1003]))
set_option maxRecDepth 1000000 in
theorem vx_2108 : ai_valid ai_Tb cx_2108 := ai_chkH_ok (n := 32) (D := [cx_2053, cx_2082, cx_2039]) ai_TbK (ai_D1 vx_2053 (ai_D1 vx_2082 (ai_D1 vx_2039 ai_D0))) (by decide +kernel)
-- X2_divide
def cx_2109 : ai_C := (52, [.r 1, .r 102, .r 106, .r 100], [], none, ([(1100, 0), (1100, 1), (1100, 2), (1100, 3)], [1003]))
set_option maxRecDepth 1000000 in
theorem vx_2109 : ai_valid ai_Tb cx_2109 := ai_chkH_ok (n := 62) (D := [cx_2053, cx_2057, cx_2058, cx_2082, cx_2039]) ai_TbK (ai_D1 vx_2053 (ai_D1 vx_2057 (ai_D1 vx_2058 (ai_D1 vx_2082 (ai_D1 vx_2039 ai_D0))))) (by decide +kernel)
-- X10_join
def cx_2110 : ai_C := (158, [.r 0, .i (-2147483648) 2147483647, .r 102, .r 106], [], none, ([(1100, 0), (1100, 1), (1100, 2), (1100, 3)], [1003]))
set_option maxRecDepth 1000000 in
theorem vx_2110 : ai_valid ai_Tb cx_2110 := ai_chkH_ok (n := 21) (D := [cx_2107, cx_2108, cx_2109]) ai_TbK (ai_D1 vx_2107 (ai_D1 vx_2108 (ai_D1 vx_2109 ai_D0))) (by decide +kernel)
-- X8_isZero
def cx_2111 : ai_C := (101, [.r 105], [], some [.i 0 1], ([], []))
set_option maxRecDepth 1000000 in
theorem vx_2111 : ai_valid ai_Tb cx_2111 := ai_chkH_ok (n := 19) (D := []) ai_TbK ai_D0 (by decide +kernel)
-- X2_add
def cx_2112 : ai_C := (50, [.r 1, .r 107, .r 105, .i (-2147483648) 2147483647, .r 100], [], none, ([(1100, 0), (1100, 1), (1100, 2), (1100, 3)], []))
set_option maxRecDepth 1000000 in
theorem vx_2112 : ai_valid ai_Tb cx_2112 := ai_chkH_ok (n := 45) (D := [cx_2039]) ai_TbK (ai_D1 vx_2039 ai_D0) (by decide +kernel)
-- X2_multiply
def cx_2113 : ai_C := (51, [.r 1, .r 107, .r 105, .r 100], [], none, ([(1100, 0), (1100, 1), (1100, 2), (1100, 3)], [1003]))
set_option maxRecDepth 1000000 in
theorem vx_2113 : ai_valid ai_Tb cx_2113 := ai_chkH_ok (n := 32) (D := [cx_2053, cx_2055, cx_2039]) ai_TbK (ai_D1 vx_2053 (ai_D1 vx_2055 (ai_D1 vx_2039 ai_D0))) (by decide +kernel)
-- X2_divide
def cx_2114 : ai_C := (52, [.r 1, .r 107, .r 105, .r 100], [], none, ([(1100, 0), (1100, 1), (1100, 2), (1100, 3)], [1003]))
set_option maxRecDepth 1000000 in
theorem vx_2114 : ai_valid ai_Tb cx_2114 := ai_chkH_ok (n := 62) (D := [cx_2053, cx_2057, cx_2058, cx_2055, cx_2039]) ai_TbK (ai_D1 vx_2053 (ai_D1 vx_2057 (ai_D1 vx_2058 (ai_D1 vx_2055 (ai_D1 vx_2039 ai_D0))))) (by decide +kernel)
-- X10_join
def cx_2115 : ai_C := (158, [.r 0, .i (-2147483648) 2147483647, .r 107, .r 105], [], none, ([(1100, 0), (1100, 1), (1100, 2), (1100, 3)], [1003]))
set_option maxRecDepth 1000000 in
theorem vx_2115 : ai_valid ai_Tb cx_2115 := ai_chkH_ok (n := 21) (D := [cx_2112, cx_2113, cx_2114]) ai_TbK (ai_D1 vx_2112 (ai_D1 vx_2113 (ai_D1 vx_2114 ai_D0))) (by decide +kernel)
-- X2_add
def cx_2116 : ai_C := (50, [.r 1, .r 106, .r 105, .i (-2147483648) 2147483647, .r 100], [], none, ([(1100, 0), (1100, 1), (1100, 2), (1100, 3)], []))
set_option maxRecDepth 1000000 in
theorem vx_2116 : ai_valid ai_Tb cx_2116 := ai_chkH_ok (n := 45) (D := [cx_2039]) ai_TbK (ai_D1 vx_2039 ai_D0) (by decide +kernel)
-- X2_multiply
def cx_2117 : ai_C := (51, [.r 1, .r 106, .r 105, .r 100], [], none, ([(1100, 0), (1100, 1), (1100, 2), (1100, 3)], [1003]))
set_option maxRecDepth 1000000 in
theorem vx_2117 : ai_valid ai_Tb cx_2117 := ai_chkH_ok (n := 32) (D := [cx_2053, cx_2062, cx_2039]) ai_TbK (ai_D1 vx_2053 (ai_D1 vx_2062 (ai_D1 vx_2039 ai_D0))) (by decide +kernel)
-- X2_divide
def cx_2118 : ai_C := (52, [.r 1, .r 106, .r 105, .r 100], [], none, ([(1100, 0), (1100, 1), (1100, 2), (1100, 3)], [1003]))
set_option maxRecDepth 1000000 in
theorem vx_2118 : ai_valid ai_Tb cx_2118 := ai_chkH_ok (n := 62) (D := [cx_2053, cx_2057, cx_2058, cx_2062, cx_2039]) ai_TbK (ai_D1 vx_2053 (ai_D1 vx_2057 (ai_D1 vx_2058 (ai_D1 vx_2062 (ai_D1 vx_2039 ai_D0))))) (by decide +kernel)
-- X10_join
def cx_2119 : ai_C := (158, [.r 0, .i (-2147483648) 2147483647, .r 106, .r 105], [], none, ([(1100, 0), (1100, 1), (1100, 2), (1100, 3)], [1003]))
set_option maxRecDepth 1000000 in
theorem vx_2119 : ai_valid ai_Tb cx_2119 := ai_chkH_ok (n := 21) (D := [cx_2116, cx_2117, cx_2118]) ai_TbK (ai_D1 vx_2116 (ai_D1 vx_2117 (ai_D1 vx_2118 ai_D0))) (by decide +kernel)
-- X2_add
def cx_2120 : ai_C := (50, [.r 1, .r 105, .r 105, .i (-2147483648) 2147483647, .r 100], [], none, ([(1100, 0), (1100, 1), (1100, 2), (1100, 3)], []))
set_option maxRecDepth 1000000 in
theorem vx_2120 : ai_valid ai_Tb cx_2120 := ai_chkH_ok (n := 45) (D := [cx_2039]) ai_TbK (ai_D1 vx_2039 ai_D0) (by decide +kernel)
-- X2_multiply
def cx_2121 : ai_C := (51, [.r 1, .r 105, .r 105, .r 100], [], none, ([(1100, 0), (1100, 1), (1100, 2), (1100, 3)], [1003]))
set_option maxRecDepth 1000000 in
theorem vx_2121 : ai_valid ai_Tb cx_2121 := ai_chkH_ok (n := 32) (D := [cx_2053, cx_2067, cx_2039]) ai_TbK (ai_D1 vx_2053 (ai_D1 vx_2067 (ai_D1 vx_2039 ai_D0))) (by decide +kernel)
-- X2_divide
def cx_2122 : ai_C := (52, [.r 1, .r 105, .r 105, .r 100], [], none, ([(1100, 0), (1100, 1), (1100, 2), (1100, 3)], [1003]))
set_option maxRecDepth 1000000 in
theorem vx_2122 : ai_valid ai_Tb cx_2122 := ai_chkH_ok (n := 62) (D := [cx_2053, cx_2057, cx_2058, cx_2067, cx_2039]) ai_TbK (ai_D1 vx_2053 (ai_D1 vx_2057 (ai_D1 vx_2058 (ai_D1 vx_2067 (ai_D1 vx_2039 ai_D0))))) (by decide +kernel)
-- X10_join
def cx_2123 : ai_C := (158, [.r 0, .i (-2147483648) 2147483647, .r 105, .r 105], [], none, ([(1100, 0), (1100, 1), (1100, 2), (1100, 3)], [1003]))
set_option maxRecDepth 1000000 in
theorem vx_2123 : ai_valid ai_Tb cx_2123 := ai_chkH_ok (n := 21) (D := [cx_2120, cx_2121, cx_2122]) ai_TbK (ai_D1 vx_2120 (ai_D1 vx_2121 (ai_D1 vx_2122 ai_D0))) (by decide +kernel)
-- X2_add
def cx_2124 : ai_C := (50, [.r 1, .r 104, .r 105, .i (-2147483648) 2147483647, .r 100], [], none, ([(1100, 0), (1100, 1), (1100, 2), (1100, 3)], []))
set_option maxRecDepth 1000000 in
theorem vx_2124 : ai_valid ai_Tb cx_2124 := ai_chkH_ok (n := 45) (D := [cx_2039]) ai_TbK (ai_D1 vx_2039 ai_D0) (by decide +kernel)
-- X2_multiply
def cx_2125 : ai_C := (51, [.r 1, .r 104, .r 105, .r 100], [], none, ([(1100, 0), (1100, 1), (1100, 2), (1100, 3)], [1003]))
set_option maxRecDepth 1000000 in
theorem vx_2125 : ai_valid ai_Tb cx_2125 := ai_chkH_ok (n := 32) (D := [cx_2053, cx_2072, cx_2039]) ai_TbK (ai_D1 vx_2053 (ai_D1 vx_2072 (ai_D1 vx_2039 ai_D0))) (by decide +kernel)
-- X2_divide
def cx_2126 : ai_C := (52, [.r 1, .r 104, .r 105, .r 100], [], none, ([(1100, 0), (1100, 1), (1100, 2), (1100, 3)], [1003]))
set_option maxRecDepth 1000000 in
theorem vx_2126 : ai_valid ai_Tb cx_2126 := ai_chkH_ok (n := 62) (D := [cx_2053, cx_2057, cx_2058, cx_2072, cx_2039]) ai_TbK (ai_D1 vx_2053 (ai_D1 vx_2057 (ai_D1 vx_2058 (ai_D1 vx_2072 (ai_D1 vx_2039 ai_D0))))) (by decide +kernel)
-- X10_join
def cx_2127 : ai_C := (158, [.r 0, .i (-2147483648) 2147483647, .r 104, .r 105], [], none, ([(1100, 0), (1100, 1), (1100, 2), (1100, 3)], [1003]))
set_option maxRecDepth 1000000 in
theorem vx_2127 : ai_valid ai_Tb cx_2127 := ai_chkH_ok (n := 21) (D := [cx_2124, cx_2125, cx_2126]) ai_TbK (ai_D1 vx_2124 (ai_D1 vx_2125 (ai_D1 vx_2126 ai_D0))) (by decide +kernel)
-- X2_add
def cx_2128 : ai_C := (50, [.r 1, .r 103, .r 105, .i (-2147483648) 2147483647, .r 100], [], none, ([(1100, 0), (1100, 1), (1100, 2), (1100, 3)], []))
set_option maxRecDepth 1000000 in
theorem vx_2128 : ai_valid ai_Tb cx_2128 := ai_chkH_ok (n := 45) (D := [cx_2039]) ai_TbK (ai_D1 vx_2039 ai_D0) (by decide +kernel)
-- X2_multiply
def cx_2129 : ai_C := (51, [.r 1, .r 103, .r 105, .r 100], [], none, ([(1100, 0), (1100, 1), (1100, 2), (1100, 3)], [1003]))
set_option maxRecDepth 1000000 in
theorem vx_2129 : ai_valid ai_Tb cx_2129 := ai_chkH_ok (n := 32) (D := [cx_2053, cx_2077, cx_2039]) ai_TbK (ai_D1 vx_2053 (ai_D1 vx_2077 (ai_D1 vx_2039 ai_D0))) (by decide +kernel)
-- X2_divide
def cx_2130 : ai_C := (52, [.r 1, .r 103, .r 105, .r 100], [], none, ([(1100, 0), (1100, 1), (1100, 2), (1100, 3)], [1003]))
set_option maxRecDepth 1000000 in
theorem vx_2130 : ai_valid ai_Tb cx_2130 := ai_chkH_ok (n := 62) (D := [cx_2053, cx_2057, cx_2058, cx_2077, cx_2039]) ai_TbK (ai_D1 vx_2053 (ai_D1 vx_2057 (ai_D1 vx_2058 (ai_D1 vx_2077 (ai_D1 vx_2039 ai_D0))))) (by decide +kernel)
-- X10_join
def cx_2131 : ai_C := (158, [.r 0, .i (-2147483648) 2147483647, .r 103, .r 105], [], none, ([(1100, 0), (1100, 1), (1100, 2), (1100, 3)], [1003]))
set_option maxRecDepth 1000000 in
theorem vx_2131 : ai_valid ai_Tb cx_2131 := ai_chkH_ok (n := 21) (D := [cx_2128, cx_2129, cx_2130]) ai_TbK (ai_D1 vx_2128 (ai_D1 vx_2129 (ai_D1 vx_2130 ai_D0))) (by decide +kernel)
-- X2_add
def cx_2132 : ai_C := (50, [.r 1, .r 102, .r 105, .i (-2147483648) 2147483647, .r 100], [], none, ([(1100, 0), (1100, 1), (1100, 2), (1100, 3)], []))
set_option maxRecDepth 1000000 in
theorem vx_2132 : ai_valid ai_Tb cx_2132 := ai_chkH_ok (n := 45) (D := [cx_2039]) ai_TbK (ai_D1 vx_2039 ai_D0) (by decide +kernel)
-- X2_multiply
def cx_2133 : ai_C := (51, [.r 1, .r 102, .r 105, .r 100], [], none, ([(1100, 0), (1100, 1), (1100, 2), (1100, 3)], [1003]))
set_option maxRecDepth 1000000 in
theorem vx_2133 : ai_valid ai_Tb cx_2133 := ai_chkH_ok (n := 32) (D := [cx_2053, cx_2082, cx_2039]) ai_TbK (ai_D1 vx_2053 (ai_D1 vx_2082 (ai_D1 vx_2039 ai_D0))) (by decide +kernel)
-- X2_divide
def cx_2134 : ai_C := (52, [.r 1, .r 102, .r 105, .r 100], [], none, ([(1100, 0), (1100, 1), (1100, 2), (1100, 3)], [1003]))
set_option maxRecDepth 1000000 in
theorem vx_2134 : ai_valid ai_Tb cx_2134 := ai_chkH_ok (n := 62) (D := [cx_2053, cx_2057, cx_2058, cx_2082, cx_2039]) ai_TbK (ai_D1 vx_2053 (ai_D1 vx_2057 (ai_D1 vx_2058 (ai_D1 vx_2082 (ai_D1 vx_2039 ai_D0))))) (by decide +kernel)
-- X10_join
def cx_2135 : ai_C := (158, [.r 0, .i (-2147483648) 2147483647, .r 102, .r 105], [], none, ([(1100, 0), (1100, 1), (1100, 2), (1100, 3)], [1003]))
set_option maxRecDepth 1000000 in
theorem vx_2135 : ai_valid ai_Tb cx_2135 := ai_chkH_ok (n := 21) (D := [cx_2132, cx_2133, cx_2134]) ai_TbK (ai_D1 vx_2132 (ai_D1 vx_2133 (ai_D1 vx_2134 ai_D0))) (by decide +kernel)
-- X8_isZero
def cx_2136 : ai_C := (101, [.r 104], [], some [.i 0 1], ([], []))
set_option maxRecDepth 1000000 in
theorem vx_2136 : ai_valid ai_Tb cx_2136 := ai_chkH_ok (n := 19) (D := []) ai_TbK ai_D0 (by decide +kernel)
-- X2_add
def cx_2137 : ai_C := (50, [.r 1, .r 107, .r 104, .i (-2147483648) 2147483647, .r 100], [], none, ([(1100, 0), (1100, 1), (1100, 2), (1100, 3)], []))
set_option maxRecDepth 1000000 in
theorem vx_2137 : ai_valid ai_Tb cx_2137 := ai_chkH_ok (n := 45) (D := [cx_2039]) ai_TbK (ai_D1 vx_2039 ai_D0) (by decide +kernel)
-- X2_multiply
def cx_2138 : ai_C := (51, [.r 1, .r 107, .r 104, .r 100], [], none, ([(1100, 0), (1100, 1), (1100, 2), (1100, 3)], [1003]))
set_option maxRecDepth 1000000 in
theorem vx_2138 : ai_valid ai_Tb cx_2138 := ai_chkH_ok (n := 32) (D := [cx_2053, cx_2055, cx_2039]) ai_TbK (ai_D1 vx_2053 (ai_D1 vx_2055 (ai_D1 vx_2039 ai_D0))) (by decide +kernel)
-- X2_divide
def cx_2139 : ai_C := (52, [.r 1, .r 107, .r 104, .r 100], [], none, ([(1100, 0), (1100, 1), (1100, 2), (1100, 3)], [1003]))
set_option maxRecDepth 1000000 in
theorem vx_2139 : ai_valid ai_Tb cx_2139 := ai_chkH_ok (n := 62) (D := [cx_2053, cx_2057, cx_2058, cx_2055, cx_2039]) ai_TbK (ai_D1 vx_2053 (ai_D1 vx_2057 (ai_D1 vx_2058 (ai_D1 vx_2055 (ai_D1 vx_2039 ai_D0))))) (by decide +kernel)
-- X10_join
def cx_2140 : ai_C := (158, [.r 0, .i (-2147483648) 2147483647, .r 107, .r 104], [], none, ([(1100, 0), (1100, 1), (1100, 2), (1100, 3)], [1003]))
set_option maxRecDepth 1000000 in
theorem vx_2140 : ai_valid ai_Tb cx_2140 := ai_chkH_ok (n := 21) (D := [cx_2137, cx_2138, cx_2139]) ai_TbK (ai_D1 vx_2137 (ai_D1 vx_2138 (ai_D1 vx_2139 ai_D0))) (by decide +kernel)
-- X2_add
def cx_2141 : ai_C := (50, [.r 1, .r 106, .r 104, .i (-2147483648) 2147483647, .r 100], [], none, ([(1100, 0), (1100, 1), (1100, 2), (1100, 3)], []))
set_option maxRecDepth 1000000 in
theorem vx_2141 : ai_valid ai_Tb cx_2141 := ai_chkH_ok (n := 45) (D := [cx_2039]) ai_TbK (ai_D1 vx_2039 ai_D0) (by decide +kernel)
-- X2_multiply
def cx_2142 : ai_C := (51, [.r 1, .r 106, .r 104, .r 100], [], none, ([(1100, 0), (1100, 1), (1100, 2), (1100, 3)], [1003]))
set_option maxRecDepth 1000000 in
theorem vx_2142 : ai_valid ai_Tb cx_2142 := ai_chkH_ok (n := 32) (D := [cx_2053, cx_2062, cx_2039]) ai_TbK (ai_D1 vx_2053 (ai_D1 vx_2062 (ai_D1 vx_2039 ai_D0))) (by decide +kernel)
-- X2_divide
def cx_2143 : ai_C := (52, [.r 1, .r 106, .r 104, .r 100], [], none, ([(1100, 0), (1100, 1), (1100, 2), (1100, 3)], [1003]))
set_option maxRecDepth 1000000 in
theorem vx_2143 : ai_valid ai_Tb cx_2143 := ai_chkH_ok (n := 62) (D := [cx_2053, cx_2057, cx_2058, cx_2062, cx_2039]) ai_TbK (ai_D1 vx_2053 (ai_D1 vx_2057 (ai_D1 vx_2058 (ai_D1 vx_2062 (ai_D1 vx_2039 ai_D0))))) (by decide +kernel)
-- X10_join
def cx_2144 : ai_C := (158, [.r 0, .i (-2147483648) 2147483647, .r 106, .r 104], [], none, ([(1100, 0), (1100, 1), (1100, 2), (1100, 3)], [1003]))
set_option maxRecDepth 1000000 in
theorem vx_2144 : ai_valid ai_Tb cx_2144 := ai_chkH_ok (n := 21) (D := [cx_2141, cx_2142, cx_2143]) ai_TbK (ai_D1 vx_2141 (ai_D1 vx_2142 (ai_D1 vx_2143 ai_D0))) (by decide +kernel)
-- X2_add
def cx_2145 : ai_C := (50, [.r 1, .r 105, .r 104, .i (-2147483648) 2147483647, .r 100], [], none, ([(1100, 0), (1100, 1), (1100, 2), (1100, 3)], []))
set_option maxRecDepth 1000000 in
theorem vx_2145 : ai_valid ai_Tb cx_2145 := ai_chkH_ok (n := 45) (D := [cx_2039]) ai_TbK (ai_D1 vx_2039 ai_D0) (by decide +kernel)
-- X2_multiply
def cx_2146 : ai_C := (51, [.r 1, .r 105, .r 104, .r 100], [], none, ([(1100, 0), (1100, 1), (1100, 2), (1100, 3)], [1003]))
set_option maxRecDepth 1000000 in
theorem vx_2146 : ai_valid ai_Tb cx_2146 := ai_chkH_ok (n := 32) (D := [cx_2053, cx_2067, cx_2039]) ai_TbK (ai_D1 vx_2053 (ai_D1 vx_2067 (ai_D1 vx_2039 ai_D0))) (by decide +kernel)
-- X2_divide
def cx_2147 : ai_C := (52, [.r 1, .r 105, .r 104, .r 100], [], none, ([(1100, 0), (1100, 1), (1100, 2), (1100, 3)], [1003]))
set_option maxRecDepth 1000000 in
theorem vx_2147 : ai_valid ai_Tb cx_2147 := ai_chkH_ok (n := 62) (D := [cx_2053, cx_2057, cx_2058, cx_2067, cx_2039]) ai_TbK (ai_D1 vx_2053 (ai_D1 vx_2057 (ai_D1 vx_2058 (ai_D1 vx_2067 (ai_D1 vx_2039 ai_D0))))) (by decide +kernel)
-- X10_join
def cx_2148 : ai_C := (158, [.r 0, .i (-2147483648) 2147483647, .r 105, .r 104], [], none, ([(1100, 0), (1100, 1), (1100, 2), (1100, 3)], [1003]))
set_option maxRecDepth 1000000 in
theorem vx_2148 : ai_valid ai_Tb cx_2148 := ai_chkH_ok (n := 21) (D := [cx_2145, cx_2146, cx_2147]) ai_TbK (ai_D1 vx_2145 (ai_D1 vx_2146 (ai_D1 vx_2147 ai_D0))) (by decide +kernel)
-- X2_add
def cx_2149 : ai_C := (50, [.r 1, .r 104, .r 104, .i (-2147483648) 2147483647, .r 100], [], none, ([(1100, 0), (1100, 1), (1100, 2), (1100, 3)], []))
set_option maxRecDepth 1000000 in
theorem vx_2149 : ai_valid ai_Tb cx_2149 := ai_chkH_ok (n := 45) (D := [cx_2039]) ai_TbK (ai_D1 vx_2039 ai_D0) (by decide +kernel)
-- X2_multiply
def cx_2150 : ai_C := (51, [.r 1, .r 104, .r 104, .r 100], [], none, ([(1100, 0), (1100, 1), (1100, 2), (1100, 3)], [1003]))
set_option maxRecDepth 1000000 in
theorem vx_2150 : ai_valid ai_Tb cx_2150 := ai_chkH_ok (n := 32) (D := [cx_2053, cx_2072, cx_2039]) ai_TbK (ai_D1 vx_2053 (ai_D1 vx_2072 (ai_D1 vx_2039 ai_D0))) (by decide +kernel)
-- X2_divide
def cx_2151 : ai_C := (52, [.r 1, .r 104, .r 104, .r 100], [], none, ([(1100, 0), (1100, 1), (1100, 2), (1100, 3)], [1003]))
set_option maxRecDepth 1000000 in
theorem vx_2151 : ai_valid ai_Tb cx_2151 := ai_chkH_ok (n := 62) (D := [cx_2053, cx_2057, cx_2058, cx_2072, cx_2039]) ai_TbK (ai_D1 vx_2053 (ai_D1 vx_2057 (ai_D1 vx_2058 (ai_D1 vx_2072 (ai_D1 vx_2039 ai_D0))))) (by decide +kernel)
-- X10_join
def cx_2152 : ai_C := (158, [.r 0, .i (-2147483648) 2147483647, .r 104, .r 104], [], none, ([(1100, 0), (1100, 1), (1100, 2), (1100, 3)], [1003]))
set_option maxRecDepth 1000000 in
theorem vx_2152 : ai_valid ai_Tb cx_2152 := ai_chkH_ok (n := 21) (D := [cx_2149, cx_2150, cx_2151]) ai_TbK (ai_D1 vx_2149 (ai_D1 vx_2150 (ai_D1 vx_2151 ai_D0))) (by decide +kernel)
-- X2_add
def cx_2153 : ai_C := (50, [.r 1, .r 103, .r 104, .i (-2147483648) 2147483647, .r 100], [], none, ([(1100, 0), (1100, 1), (1100, 2), (1100, 3)], []))
set_option maxRecDepth 1000000 in
theorem vx_2153 : ai_valid ai_Tb cx_2153 := ai_chkH_ok (n := 45) (D := [cx_2039]) ai_TbK (ai_D1 vx_2039 ai_D0) (by decide +kernel)
-- X2_multiply
def cx_2154 : ai_C := (51, [.r 1, .r 103, .r 104, .r 100], [], none, ([(1100, 0), (1100, 1), (1100, 2), (1100, 3)], [1003]))
set_option maxRecDepth 1000000 in
theorem vx_2154 : ai_valid ai_Tb cx_2154 := ai_chkH_ok (n := 32) (D := [cx_2053, cx_2077, cx_2039]) ai_TbK (ai_D1 vx_2053 (ai_D1 vx_2077 (ai_D1 vx_2039 ai_D0))) (by decide +kernel)
-- X2_divide
def cx_2155 : ai_C := (52, [.r 1, .r 103, .r 104, .r 100], [], none, ([(1100, 0), (1100, 1), (1100, 2), (1100, 3)], [1003]))
set_option maxRecDepth 1000000 in
theorem vx_2155 : ai_valid ai_Tb cx_2155 := ai_chkH_ok (n := 62) (D := [cx_2053, cx_2057, cx_2058, cx_2077, cx_2039]) ai_TbK (ai_D1 vx_2053 (ai_D1 vx_2057 (ai_D1 vx_2058 (ai_D1 vx_2077 (ai_D1 vx_2039 ai_D0))))) (by decide +kernel)
-- X10_join
def cx_2156 : ai_C := (158, [.r 0, .i (-2147483648) 2147483647, .r 103, .r 104], [], none, ([(1100, 0), (1100, 1), (1100, 2), (1100, 3)], [1003]))
set_option maxRecDepth 1000000 in
theorem vx_2156 : ai_valid ai_Tb cx_2156 := ai_chkH_ok (n := 21) (D := [cx_2153, cx_2154, cx_2155]) ai_TbK (ai_D1 vx_2153 (ai_D1 vx_2154 (ai_D1 vx_2155 ai_D0))) (by decide +kernel)
-- X2_add
def cx_2157 : ai_C := (50, [.r 1, .r 102, .r 104, .i (-2147483648) 2147483647, .r 100], [], none, ([(1100, 0), (1100, 1), (1100, 2), (1100, 3)], []))
set_option maxRecDepth 1000000 in
theorem vx_2157 : ai_valid ai_Tb cx_2157 := ai_chkH_ok (n := 45) (D := [cx_2039]) ai_TbK (ai_D1 vx_2039 ai_D0) (by decide +kernel)
-- X2_multiply
def cx_2158 : ai_C := (51, [.r 1, .r 102, .r 104, .r 100], [], none, ([(1100, 0), (1100, 1), (1100, 2), (1100, 3)], [1003]))
set_option maxRecDepth 1000000 in
theorem vx_2158 : ai_valid ai_Tb cx_2158 := ai_chkH_ok (n := 32) (D := [cx_2053, cx_2082, cx_2039]) ai_TbK (ai_D1 vx_2053 (ai_D1 vx_2082 (ai_D1 vx_2039 ai_D0))) (by decide +kernel)
-- X2_divide
def cx_2159 : ai_C := (52, [.r 1, .r 102, .r 104, .r 100], [], none, ([(1100, 0), (1100, 1), (1100, 2), (1100, 3)], [1003]))
set_option maxRecDepth 1000000 in
theorem vx_2159 : ai_valid ai_Tb cx_2159 := ai_chkH_ok (n := 62) (D := [cx_2053, cx_2057, cx_2058, cx_2082, cx_2039]) ai_TbK (ai_D1 vx_2053 (ai_D1 vx_2057 (ai_D1 vx_2058 (ai_D1 vx_2082 (ai_D1 vx_2039 ai_D0))))) (by decide +kernel)
-- X10_join
def cx_2160 : ai_C := (158, [.r 0, .i (-2147483648) 2147483647, .r 102, .r 104], [], none, ([(1100, 0), (1100, 1), (1100, 2), (1100, 3)], [1003]))
set_option maxRecDepth 1000000 in
theorem vx_2160 : ai_valid ai_Tb cx_2160 := ai_chkH_ok (n := 21) (D := [cx_2157, cx_2158, cx_2159]) ai_TbK (ai_D1 vx_2157 (ai_D1 vx_2158 (ai_D1 vx_2159 ai_D0))) (by decide +kernel)
-- X8_isZero
def cx_2161 : ai_C := (101, [.r 103], [], some [.i 0 1], ([], []))
set_option maxRecDepth 1000000 in
theorem vx_2161 : ai_valid ai_Tb cx_2161 := ai_chkH_ok (n := 19) (D := []) ai_TbK ai_D0 (by decide +kernel)
-- X2_add
def cx_2162 : ai_C := (50, [.r 1, .r 107, .r 103, .i (-2147483648) 2147483647, .r 100], [], none, ([(1100, 0), (1100, 1), (1100, 2), (1100, 3)], []))
set_option maxRecDepth 1000000 in
theorem vx_2162 : ai_valid ai_Tb cx_2162 := ai_chkH_ok (n := 45) (D := [cx_2039]) ai_TbK (ai_D1 vx_2039 ai_D0) (by decide +kernel)
-- X2_multiply
def cx_2163 : ai_C := (51, [.r 1, .r 107, .r 103, .r 100], [], none, ([(1100, 0), (1100, 1), (1100, 2), (1100, 3)], [1003]))
set_option maxRecDepth 1000000 in
theorem vx_2163 : ai_valid ai_Tb cx_2163 := ai_chkH_ok (n := 32) (D := [cx_2053, cx_2055, cx_2039]) ai_TbK (ai_D1 vx_2053 (ai_D1 vx_2055 (ai_D1 vx_2039 ai_D0))) (by decide +kernel)
-- X2_divide
def cx_2164 : ai_C := (52, [.r 1, .r 107, .r 103, .r 100], [], none, ([(1100, 0), (1100, 1), (1100, 2), (1100, 3)], [1003]))
set_option maxRecDepth 1000000 in
theorem vx_2164 : ai_valid ai_Tb cx_2164 := ai_chkH_ok (n := 62) (D := [cx_2053, cx_2057, cx_2058, cx_2055, cx_2039]) ai_TbK (ai_D1 vx_2053 (ai_D1 vx_2057 (ai_D1 vx_2058 (ai_D1 vx_2055 (ai_D1 vx_2039 ai_D0))))) (by decide +kernel)
-- X10_join
def cx_2165 : ai_C := (158, [.r 0, .i (-2147483648) 2147483647, .r 107, .r 103], [], none, ([(1100, 0), (1100, 1), (1100, 2), (1100, 3)], [1003]))
set_option maxRecDepth 1000000 in
theorem vx_2165 : ai_valid ai_Tb cx_2165 := ai_chkH_ok (n := 21) (D := [cx_2162, cx_2163, cx_2164]) ai_TbK (ai_D1 vx_2162 (ai_D1 vx_2163 (ai_D1 vx_2164 ai_D0))) (by decide +kernel)
-- X2_add
def cx_2166 : ai_C := (50, [.r 1, .r 106, .r 103, .i (-2147483648) 2147483647, .r 100], [], none, ([(1100, 0), (1100, 1), (1100, 2), (1100, 3)], []))
set_option maxRecDepth 1000000 in
theorem vx_2166 : ai_valid ai_Tb cx_2166 := ai_chkH_ok (n := 45) (D := [cx_2039]) ai_TbK (ai_D1 vx_2039 ai_D0) (by decide +kernel)
-- X2_multiply
def cx_2167 : ai_C := (51, [.r 1, .r 106, .r 103, .r 100], [], none, ([(1100, 0), (1100, 1), (1100, 2), (1100, 3)], [1003]))
set_option maxRecDepth 1000000 in
theorem vx_2167 : ai_valid ai_Tb cx_2167 := ai_chkH_ok (n := 32) (D := [cx_2053, cx_2062, cx_2039]) ai_TbK (ai_D1 vx_2053 (ai_D1 vx_2062 (ai_D1 vx_2039 ai_D0))) (by decide +kernel)
-- X2_divide
def cx_2168 : ai_C := (52, [.r 1, .r 106, .r 103, .r 100], [], none, ([(1100, 0), (1100, 1), (1100, 2), (1100, 3)], [1003]))
set_option maxRecDepth 1000000 in
theorem vx_2168 : ai_valid ai_Tb cx_2168 := ai_chkH_ok (n := 62) (D := [cx_2053, cx_2057, cx_2058, cx_2062, cx_2039]) ai_TbK (ai_D1 vx_2053 (ai_D1 vx_2057 (ai_D1 vx_2058 (ai_D1 vx_2062 (ai_D1 vx_2039 ai_D0))))) (by decide +kernel)
-- X10_join
def cx_2169 : ai_C := (158, [.r 0, .i (-2147483648) 2147483647, .r 106, .r 103], [], none, ([(1100, 0), (1100, 1), (1100, 2), (1100, 3)], [1003]))
set_option maxRecDepth 1000000 in
theorem vx_2169 : ai_valid ai_Tb cx_2169 := ai_chkH_ok (n := 21) (D := [cx_2166, cx_2167, cx_2168]) ai_TbK (ai_D1 vx_2166 (ai_D1 vx_2167 (ai_D1 vx_2168 ai_D0))) (by decide +kernel)
-- X2_add
def cx_2170 : ai_C := (50, [.r 1, .r 105, .r 103, .i (-2147483648) 2147483647, .r 100], [], none, ([(1100, 0), (1100, 1), (1100, 2), (1100, 3)], []))
set_option maxRecDepth 1000000 in
theorem vx_2170 : ai_valid ai_Tb cx_2170 := ai_chkH_ok (n := 45) (D := [cx_2039]) ai_TbK (ai_D1 vx_2039 ai_D0) (by decide +kernel)
-- X2_multiply
def cx_2171 : ai_C := (51, [.r 1, .r 105, .r 103, .r 100], [], none, ([(1100, 0), (1100, 1), (1100, 2), (1100, 3)], [1003]))
set_option maxRecDepth 1000000 in
theorem vx_2171 : ai_valid ai_Tb cx_2171 := ai_chkH_ok (n := 32) (D := [cx_2053, cx_2067, cx_2039]) ai_TbK (ai_D1 vx_2053 (ai_D1 vx_2067 (ai_D1 vx_2039 ai_D0))) (by decide +kernel)
-- X2_divide
def cx_2172 : ai_C := (52, [.r 1, .r 105, .r 103, .r 100], [], none, ([(1100, 0), (1100, 1), (1100, 2), (1100, 3)], [1003]))
set_option maxRecDepth 1000000 in
theorem vx_2172 : ai_valid ai_Tb cx_2172 := ai_chkH_ok (n := 62) (D := [cx_2053, cx_2057, cx_2058, cx_2067, cx_2039]) ai_TbK (ai_D1 vx_2053 (ai_D1 vx_2057 (ai_D1 vx_2058 (ai_D1 vx_2067 (ai_D1 vx_2039 ai_D0))))) (by decide +kernel)
-- X10_join
def cx_2173 : ai_C := (158, [.r 0, .i (-2147483648) 2147483647, .r 105, .r 103], [], none, ([(1100, 0), (1100, 1), (1100, 2), (1100, 3)], [1003]))
set_option maxRecDepth 1000000 in
theorem vx_2173 : ai_valid ai_Tb cx_2173 := ai_chkH_ok (n := 21) (D := [cx_2170, cx_2171, cx_2172]) ai_TbK (ai_D1 vx_2170 (ai_D1 vx_2171 (ai_D1 vx_2172 ai_D0))) (by decide +kernel)
-- X2_add
def cx_2174 : ai_C := (50, [.r 1, .r 104, .r 103, .i (-2147483648) 2147483647, .r 100], [], none, ([(1100, 0), (1100, 1), (1100, 2), (1100, 3)], []))
set_option maxRecDepth 1000000 in
theorem vx_2174 : ai_valid ai_Tb cx_2174 := ai_chkH_ok (n := 45) (D := [cx_2039]) ai_TbK (ai_D1 vx_2039 ai_D0) (by decide +kernel)
-- X2_multiply
def cx_2175 : ai_C := (51, [.r 1, .r 104, .r 103, .r 100], [], none, ([(1100, 0), (1100, 1), (1100, 2), (1100, 3)], [1003]))
set_option maxRecDepth 1000000 in
theorem vx_2175 : ai_valid ai_Tb cx_2175 := ai_chkH_ok (n := 32) (D := [cx_2053, cx_2072, cx_2039]) ai_TbK (ai_D1 vx_2053 (ai_D1 vx_2072 (ai_D1 vx_2039 ai_D0))) (by decide +kernel)
-- X2_divide
def cx_2176 : ai_C := (52, [.r 1, .r 104, .r 103, .r 100], [], none, ([(1100, 0), (1100, 1), (1100, 2), (1100, 3)], [1003]))
set_option maxRecDepth 1000000 in
theorem vx_2176 : ai_valid ai_Tb cx_2176 := ai_chkH_ok (n := 62) (D := [cx_2053, cx_2057, cx_2058, cx_2072, cx_2039]) ai_TbK (ai_D1 vx_2053 (ai_D1 vx_2057 (ai_D1 vx_2058 (ai_D1 vx_2072 (ai_D1 vx_2039 ai_D0))))) (by decide +kernel)
-- X10_join
def cx_2177 : ai_C := (158, [.r 0, .i (-2147483648) 2147483647, .r 104, .r 103], [], none, ([(1100, 0), (1100, 1), (1100, 2), (1100, 3)], [1003]))
set_option maxRecDepth 1000000 in
theorem vx_2177 : ai_valid ai_Tb cx_2177 := ai_chkH_ok (n := 21) (D := [cx_2174, cx_2175, cx_2176]) ai_TbK (ai_D1 vx_2174 (ai_D1 vx_2175 (ai_D1 vx_2176 ai_D0))) (by decide +kernel)
-- X2_add
def cx_2178 : ai_C := (50, [.r 1, .r 103, .r 103, .i (-2147483648) 2147483647, .r 100], [], none, ([(1100, 0), (1100, 1), (1100, 2), (1100, 3)], []))
set_option maxRecDepth 1000000 in
theorem vx_2178 : ai_valid ai_Tb cx_2178 := ai_chkH_ok (n := 45) (D := [cx_2039]) ai_TbK (ai_D1 vx_2039 ai_D0) (by decide +kernel)
-- X2_multiply
def cx_2179 : ai_C := (51, [.r 1, .r 103, .r 103, .r 100], [], none, ([(1100, 0), (1100, 1), (1100, 2), (1100, 3)], [1003]))
set_option maxRecDepth 1000000 in
theorem vx_2179 : ai_valid ai_Tb cx_2179 := ai_chkH_ok (n := 32) (D := [cx_2053, cx_2077, cx_2039]) ai_TbK (ai_D1 vx_2053 (ai_D1 vx_2077 (ai_D1 vx_2039 ai_D0))) (by decide +kernel)
-- X2_divide
def cx_2180 : ai_C := (52, [.r 1, .r 103, .r 103, .r 100], [], none, ([(1100, 0), (1100, 1), (1100, 2), (1100, 3)], [1003]))
set_option maxRecDepth 1000000 in
theorem vx_2180 : ai_valid ai_Tb cx_2180 := ai_chkH_ok (n := 62) (D := [cx_2053, cx_2057, cx_2058, cx_2077, cx_2039]) ai_TbK (ai_D1 vx_2053 (ai_D1 vx_2057 (ai_D1 vx_2058 (ai_D1 vx_2077 (ai_D1 vx_2039 ai_D0))))) (by decide +kernel)
-- X10_join
def cx_2181 : ai_C := (158, [.r 0, .i (-2147483648) 2147483647, .r 103, .r 103], [], none, ([(1100, 0), (1100, 1), (1100, 2), (1100, 3)], [1003]))
set_option maxRecDepth 1000000 in
theorem vx_2181 : ai_valid ai_Tb cx_2181 := ai_chkH_ok (n := 21) (D := [cx_2178, cx_2179, cx_2180]) ai_TbK (ai_D1 vx_2178 (ai_D1 vx_2179 (ai_D1 vx_2180 ai_D0))) (by decide +kernel)
-- X2_add
def cx_2182 : ai_C := (50, [.r 1, .r 102, .r 103, .i (-2147483648) 2147483647, .r 100], [], none, ([(1100, 0), (1100, 1), (1100, 2), (1100, 3)], []))
set_option maxRecDepth 1000000 in
theorem vx_2182 : ai_valid ai_Tb cx_2182 := ai_chkH_ok (n := 45) (D := [cx_2039]) ai_TbK (ai_D1 vx_2039 ai_D0) (by decide +kernel)
-- X2_multiply
def cx_2183 : ai_C := (51, [.r 1, .r 102, .r 103, .r 100], [], none, ([(1100, 0), (1100, 1), (1100, 2), (1100, 3)], [1003]))
set_option maxRecDepth 1000000 in
theorem vx_2183 : ai_valid ai_Tb cx_2183 := ai_chkH_ok (n := 32) (D := [cx_2053, cx_2082, cx_2039]) ai_TbK (ai_D1 vx_2053 (ai_D1 vx_2082 (ai_D1 vx_2039 ai_D0))) (by decide +kernel)
-- X2_divide
def cx_2184 : ai_C := (52, [.r 1, .r 102, .r 103, .r 100], [], none, ([(1100, 0), (1100, 1), (1100, 2), (1100, 3)], [1003]))
set_option maxRecDepth 1000000 in
theorem vx_2184 : ai_valid ai_Tb cx_2184 := ai_chkH_ok (n := 62) (D := [cx_2053, cx_2057, cx_2058, cx_2082, cx_2039]) ai_TbK (ai_D1 vx_2053 (ai_D1 vx_2057 (ai_D1 vx_2058 (ai_D1 vx_2082 (ai_D1 vx_2039 ai_D0))))) (by decide +kernel)
-- X10_join
def cx_2185 : ai_C := (158, [.r 0, .i (-2147483648) 2147483647, .r 102, .r 103], [], none, ([(1100, 0), (1100, 1), (1100, 2), (1100, 3)], [1003]))
set_option maxRecDepth 1000000 in
theorem vx_2185 : ai_valid ai_Tb cx_2185 := ai_chkH_ok (n := 21) (D := [cx_2182, cx_2183, cx_2184]) ai_TbK (ai_D1 vx_2182 (ai_D1 vx_2183 (ai_D1 vx_2184 ai_D0))) (by decide +kernel)
-- X8_isZero
def cx_2186 : ai_C := (101, [.r 102], [], some [.i 0 1], ([], []))
set_option maxRecDepth 1000000 in
theorem vx_2186 : ai_valid ai_Tb cx_2186 := ai_chkH_ok (n := 19) (D := []) ai_TbK ai_D0 (by decide +kernel)
-- X2_add
def cx_2187 : ai_C := (50, [.r 1, .r 107, .r 102, .i (-2147483648) 2147483647, .r 100], [], none, ([(1100, 0), (1100, 1), (1100, 2), (1100, 3)], []))
set_option maxRecDepth 1000000 in
theorem vx_2187 : ai_valid ai_Tb cx_2187 := ai_chkH_ok (n := 45) (D := [cx_2039]) ai_TbK (ai_D1 vx_2039 ai_D0) (by decide +kernel)
-- X2_multiply
def cx_2188 : ai_C := (51, [.r 1, .r 107, .r 102, .r 100], [], none, ([(1100, 0), (1100, 1), (1100, 2), (1100, 3)], [1003]))
set_option maxRecDepth 1000000 in
theorem vx_2188 : ai_valid ai_Tb cx_2188 := ai_chkH_ok (n := 32) (D := [cx_2053, cx_2055, cx_2039]) ai_TbK (ai_D1 vx_2053 (ai_D1 vx_2055 (ai_D1 vx_2039 ai_D0))) (by decide +kernel)
-- X2_divide
def cx_2189 : ai_C := (52, [.r 1, .r 107, .r 102, .r 100], [], none, ([(1100, 0), (1100, 1), (1100, 2), (1100, 3)], [1003]))
set_option maxRecDepth 1000000 in
theorem vx_2189 : ai_valid ai_Tb cx_2189 := ai_chkH_ok (n := 62) (D := [cx_2053, cx_2057, cx_2058, cx_2055, cx_2039]) ai_TbK (ai_D1 vx_2053 (ai_D1 vx_2057 (ai_D1 vx_2058 (ai_D1 vx_2055 (ai_D1 vx_2039 ai_D0))))) (by decide +kernel)
-- X10_join
def cx_2190 : ai_C := (158, [.r 0, .i (-2147483648) 2147483647, .r 107, .r 102], [], none, ([(1100, 0), (1100, 1), (1100, 2), (1100, 3)], [1003]))
set_option maxRecDepth 1000000 in
theorem vx_2190 : ai_valid ai_Tb cx_2190 := ai_chkH_ok (n := 21) (D := [cx_2187, cx_2188, cx_2189]) ai_TbK (ai_D1 vx_2187 (ai_D1 vx_2188 (ai_D1 vx_2189 ai_D0))) (by decide +kernel)
-- X2_add
def cx_2191 : ai_C := (50, [.r 1, .r 106, .r 102, .i (-2147483648) 2147483647, .r 100], [], none, ([(1100, 0), (1100, 1), (1100, 2), (1100, 3)], []))
set_option maxRecDepth 1000000 in
theorem vx_2191 : ai_valid ai_Tb cx_2191 := ai_chkH_ok (n := 45) (D := [cx_2039]) ai_TbK (ai_D1 vx_2039 ai_D0) (by decide +kernel)
-- X2_multiply
def cx_2192 : ai_C := (51, [.r 1, .r 106, .r 102, .r 100], [], none, ([(1100, 0), (1100, 1), (1100, 2), (1100, 3)], [1003]))
set_option maxRecDepth 1000000 in
theorem vx_2192 : ai_valid ai_Tb cx_2192 := ai_chkH_ok (n := 32) (D := [cx_2053, cx_2062, cx_2039]) ai_TbK (ai_D1 vx_2053 (ai_D1 vx_2062 (ai_D1 vx_2039 ai_D0))) (by decide +kernel)
-- X2_divide
def cx_2193 : ai_C := (52, [.r 1, .r 106, .r 102, .r 100], [], none, ([(1100, 0), (1100, 1), (1100, 2), (1100, 3)], [1003]))
set_option maxRecDepth 1000000 in
theorem vx_2193 : ai_valid ai_Tb cx_2193 := ai_chkH_ok (n := 62) (D := [cx_2053, cx_2057, cx_2058, cx_2062, cx_2039]) ai_TbK (ai_D1 vx_2053 (ai_D1 vx_2057 (ai_D1 vx_2058 (ai_D1 vx_2062 (ai_D1 vx_2039 ai_D0))))) (by decide +kernel)
-- X10_join
def cx_2194 : ai_C := (158, [.r 0, .i (-2147483648) 2147483647, .r 106, .r 102], [], none, ([(1100, 0), (1100, 1), (1100, 2), (1100, 3)], [1003]))
set_option maxRecDepth 1000000 in
theorem vx_2194 : ai_valid ai_Tb cx_2194 := ai_chkH_ok (n := 21) (D := [cx_2191, cx_2192, cx_2193]) ai_TbK (ai_D1 vx_2191 (ai_D1 vx_2192 (ai_D1 vx_2193 ai_D0))) (by decide +kernel)
-- X2_add
def cx_2195 : ai_C := (50, [.r 1, .r 105, .r 102, .i (-2147483648) 2147483647, .r 100], [], none, ([(1100, 0), (1100, 1), (1100, 2), (1100, 3)], []))
set_option maxRecDepth 1000000 in
theorem vx_2195 : ai_valid ai_Tb cx_2195 := ai_chkH_ok (n := 45) (D := [cx_2039]) ai_TbK (ai_D1 vx_2039 ai_D0) (by decide +kernel)
-- X2_multiply
def cx_2196 : ai_C := (51, [.r 1, .r 105, .r 102, .r 100], [], none, ([(1100, 0), (1100, 1), (1100, 2), (1100, 3)], [1003]))
set_option maxRecDepth 1000000 in
theorem vx_2196 : ai_valid ai_Tb cx_2196 := ai_chkH_ok (n := 32) (D := [cx_2053, cx_2067, cx_2039]) ai_TbK (ai_D1 vx_2053 (ai_D1 vx_2067 (ai_D1 vx_2039 ai_D0))) (by decide +kernel)
-- X2_divide
def cx_2197 : ai_C := (52, [.r 1, .r 105, .r 102, .r 100], [], none, ([(1100, 0), (1100, 1), (1100, 2), (1100, 3)], [1003]))
set_option maxRecDepth 1000000 in
theorem vx_2197 : ai_valid ai_Tb cx_2197 := ai_chkH_ok (n := 62) (D := [cx_2053, cx_2057, cx_2058, cx_2067, cx_2039]) ai_TbK (ai_D1 vx_2053 (ai_D1 vx_2057 (ai_D1 vx_2058 (ai_D1 vx_2067 (ai_D1 vx_2039 ai_D0))))) (by decide +kernel)
-- X10_join
def cx_2198 : ai_C := (158, [.r 0, .i (-2147483648) 2147483647, .r 105, .r 102], [], none, ([(1100, 0), (1100, 1), (1100, 2), (1100, 3)], [1003]))
set_option maxRecDepth 1000000 in
theorem vx_2198 : ai_valid ai_Tb cx_2198 := ai_chkH_ok (n := 21) (D := [cx_2195, cx_2196, cx_2197]) ai_TbK (ai_D1 vx_2195 (ai_D1 vx_2196 (ai_D1 vx_2197 ai_D0))) (by decide +kernel)
-- X2_add
def cx_2199 : ai_C := (50, [.r 1, .r 104, .r 102, .i (-2147483648) 2147483647, .r 100], [], none, ([(1100, 0), (1100, 1), (1100, 2), (1100, 3)], []))
set_option maxRecDepth 1000000 in
theorem vx_2199 : ai_valid ai_Tb cx_2199 := ai_chkH_ok (n := 45) (D := [cx_2039]) ai_TbK (ai_D1 vx_2039 ai_D0) (by decide +kernel)
-- X2_multiply
def cx_2200 : ai_C := (51, [.r 1, .r 104, .r 102, .r 100], [], none, ([(1100, 0), (1100, 1), (1100, 2), (1100, 3)], [1003]))
set_option maxRecDepth 1000000 in
theorem vx_2200 : ai_valid ai_Tb cx_2200 := ai_chkH_ok (n := 32) (D := [cx_2053, cx_2072, cx_2039]) ai_TbK (ai_D1 vx_2053 (ai_D1 vx_2072 (ai_D1 vx_2039 ai_D0))) (by decide +kernel)
-- X2_divide
def cx_2201 : ai_C := (52, [.r 1, .r 104, .r 102, .r 100], [], none, ([(1100, 0), (1100, 1), (1100, 2), (1100, 3)], [1003]))
set_option maxRecDepth 1000000 in
theorem vx_2201 : ai_valid ai_Tb cx_2201 := ai_chkH_ok (n := 62) (D := [cx_2053, cx_2057, cx_2058, cx_2072, cx_2039]) ai_TbK (ai_D1 vx_2053 (ai_D1 vx_2057 (ai_D1 vx_2058 (ai_D1 vx_2072 (ai_D1 vx_2039 ai_D0))))) (by decide +kernel)
-- X10_join
def cx_2202 : ai_C := (158, [.r 0, .i (-2147483648) 2147483647, .r 104, .r 102], [], none, ([(1100, 0), (1100, 1), (1100, 2), (1100, 3)], [1003]))
set_option maxRecDepth 1000000 in
theorem vx_2202 : ai_valid ai_Tb cx_2202 := ai_chkH_ok (n := 21) (D := [cx_2199, cx_2200, cx_2201]) ai_TbK (ai_D1 vx_2199 (ai_D1 vx_2200 (ai_D1 vx_2201 ai_D0))) (by decide +kernel)
-- X2_add
def cx_2203 : ai_C := (50, [.r 1, .r 103, .r 102, .i (-2147483648) 2147483647, .r 100], [], none, ([(1100, 0), (1100, 1), (1100, 2), (1100, 3)], []))
set_option maxRecDepth 1000000 in
theorem vx_2203 : ai_valid ai_Tb cx_2203 := ai_chkH_ok (n := 45) (D := [cx_2039]) ai_TbK (ai_D1 vx_2039 ai_D0) (by decide +kernel)
-- X2_multiply
def cx_2204 : ai_C := (51, [.r 1, .r 103, .r 102, .r 100], [], none, ([(1100, 0), (1100, 1), (1100, 2), (1100, 3)], [1003]))
set_option maxRecDepth 1000000 in
theorem vx_2204 : ai_valid ai_Tb cx_2204 := ai_chkH_ok (n := 32) (D := [cx_2053, cx_2077, cx_2039]) ai_TbK (ai_D1 vx_2053 (ai_D1 vx_2077 (ai_D1 vx_2039 ai_D0))) (by decide +kernel)
end
