noncomputable section
-- PART b53.cx
-- contexts of the class, checked by the kernel
-- X2_divide
def cx_2205 : ai_C := (52, [.r 1, .r 103, .r 102, .r 100], [], none, ([(1100, 0), (1100, 1), (1100, 2), (1100, 3)], [1003]))
set_option maxRecDepth 1000000 in
theorem vx_2205 : ai_valid ai_Tb cx_2205 := ai_chkH_ok (n := 62) (D := [cx_2053, cx_2057, cx_2058, cx_2077, cx_2039]) ai_TbK (ai_D1 vx_2053 (ai_D1 vx_2057 (ai_D1 vx_2058 (ai_D1 vx_2077 (ai_D1 vx_2039 ai_D0))))) (by decide +kernel)
-- X10_join
def cx_2206 : ai_C := (158, [.r 0, .i (-2147483648) 2147483647, .r 103, .r 102], [], none, ([(1100, 0), (1100, 1), (1100, 2), (1100, 3)], [1003]))
set_option maxRecDepth 1000000 in
theorem vx_2206 : ai_valid ai_Tb cx_2206 := ai_chkH_ok (n := 21) (D := [cx_2203, cx_2204, cx_2205]) ai_TbK (ai_D1 vx_2203 (ai_D1 vx_2204 (ai_D1 vx_2205 ai_D0))) (by decide +kernel)
-- X2_add
def cx_2207 : ai_C := (50, [.r 1, .r 102, .r 102, .i (-2147483648) 2147483647, .r 100], [], none, ([(1100, 0), (1100, 1), (1100, 2), (1100, 3)], []))
set_option maxRecDepth 1000000 in
theorem vx_2207 : ai_valid ai_Tb cx_2207 := ai_chkH_ok (n := 45) (D := [cx_2039]) ai_TbK (ai_D1 vx_2039 ai_D0) (by decide +kernel)
-- X2_multiply
def cx_2208 : ai_C := (51, [.r 1, .r 102, .r 102, .r 100], [], none, ([(1100, 0), (1100, 1), (1100, 2), (1100, 3)], [1003]))
set_option maxRecDepth 1000000 in
theorem vx_2208 : ai_valid ai_Tb cx_2208 := ai_chkH_ok (n := 32) (D := [cx_2053, cx_2082, cx_2039]) ai_TbK (ai_D1 vx_2053 (ai_D1 vx_2082 (ai_D1 vx_2039 ai_D0))) (by decide +kernel)
-- X2_divide
def cx_2209 : ai_C := (52, [.r 1, .r 102, .r 102, .r 100], [], none, ([(1100, 0), (1100, 1), (1100, 2), (1100, 3)], [1003]))
set_option maxRecDepth 1000000 in
theorem vx_2209 : ai_valid ai_Tb cx_2209 := ai_chkH_ok (n := 62) (D := [cx_2053, cx_2057, cx_2058, cx_2082, cx_2039]) ai_TbK (ai_D1 vx_2053 (ai_D1 vx_2057 (ai_D1 vx_2058 (ai_D1 vx_2082 (ai_D1 vx_2039 ai_D0))))) (by decide +kernel)
-- X10_join
def cx_2210 : ai_C := (158, [.r 0, .i (-2147483648) 2147483647, .r 102, .r 102], [], none, ([(1100, 0), (1100, 1), (1100, 2), (1100, 3)], [1003]))
set_option maxRecDepth 1000000 in
theorem vx_2210 : ai_valid ai_Tb cx_2210 := ai_chkH_ok (n := 21) (D := [cx_2207, cx_2208, cx_2209]) ai_TbK (ai_D1 vx_2207 (ai_D1 vx_2208 (ai_D1 vx_2209 ai_D0))) (by decide +kernel)
-- X10_combine
def cx_2211 : ai_C := (114, [.r 0, .i (-2147483648) 2147483647, .i (-2147483648) 2147483647, .i (-2147483648) 2147483647, .i (-2147483648) 2147483647], [(94, [.r 0, .i 0 3, .i 0 5, .i 0 5, .i 0 5], [], (.n 4, .n 0, .n 8000000000)), (104, [.r 0, .i 0 3, .i 0 5, .i 0 5, .i 0 5], [], (.n 3, .n 0, .n 8000000000)), (114, [.r 0, .i 0 3, .i 0 5, .i 0 5, .i 0 5], [], (.n 2, .n 0, .n 8000000000)), (119, [.r 0, .i 0 3, .i 0 5, .i 0 5, .i 0 5], [], (.n 1, .n 0, .n 8000000000))], some [.i (-2147483648) 2147483647], ([(23, 4), (23, 5), (28, 0), (28, 1), (28, 2), (28, 6), (28, 7), (29, 0), (29, 1), (29, 2), (29, 3), (29, 4), (29, 5), (29, 6), (29, 7), (29, 8), (29, 9), (29, 10), (29, 11), (29, 12), (29, 13), (29, 14), (29, 15), (29, 16), (29, 17), (29, 18), (29, 19), (29, 20), (29, 21), (29, 22), (29, 23), (30, 1), (33, 0), (33, 1), (33, 2), (33, 6), (33, 7), (34, 0), (34, 1), (34, 2), (34, 3), (34, 4), (34, 5), (34, 6), (34, 7), (34, 8), (34, 9), (34, 10), (34, 11), (34, 12), (34, 13), (34, 14), (34, 15), (34, 16), (34, 17), (34, 18), (34, 19), (34, 20), (34, 21), (34, 22), (34, 23), (35, 1), (38, 0), (38, 1), (38, 2), (38, 6), (38, 7), (39, 0), (39, 1), (39, 2), (39, 3), (39, 4), (39, 5), (39, 6), (39, 7), (39, 8), (39, 9), (39, 10), (39, 11), (39, 12), (39, 13), (39, 14), (39, 15), (39, 16), (39, 17), (39, 18), (39, 19), (39, 20), (39, 21), (39, 22), (39, 23), (40, 1), (43, 0), (43, 1), (43, 2), (43, 6), (43, 7), (44, 0), (44, 1), (44, 2), (44, 3), (44, 4), (44, 5), (44, 6), (44, 7), (44, 8), (44, 9), (44, 10), (44, 11), (44, 12), (44, 13), (44, 14), (44, 15), (44, 16), (44, 17), (44, 18), (44, 19), (44, 20), (44, 21), (44, 22), (44, 23), (45, 1), (48, 0), (48, 1), (48, 2), (48, 6), (48, 7), (49, 0), (49, 1), (49, 2), (49, 3), (49, 4), (49, 5), (49, 6), (49, 7), (49, 8), (49, 9), (49, 10), (49, 11), (49, 12), (49, 13), (49, 14), (49, 15), (49, 16), (49, 17), (49, 18), (49, 19), (49, 20), (49, 21), (49, 22), (49, 23), (50, 1), (53, 0), (53, 1), (53, 2), (53, 6), (53, 7), (54, 0), (54, 1), (54, 2), (54, 3), (54, 4), (54, 5), (54, 6), (54, 7), (54, 8), (54, 9), (54, 10), (54, 11), (54, 12), (54, 13), (54, 14), (54, 15), (54, 16), (54, 17), (54, 18), (54, 19), (54, 20), (54, 21), (54, 22), (54, 23), (55, 1), (58, 0), (58, 1), (58, 2), (58, 6), (58, 7), (59, 0), (59, 1), (59, 2), (59, 3), (59, 4), (59, 5), (59, 6), (59, 7), (59, 8), (59, 9), (59, 10), (59, 11), (59, 12), (59, 13), (59, 14), (59, 15), (59, 16), (59, 17), (59, 18), (59, 19), (59, 20), (59, 21), (59, 22), (59, 23), (60, 1), (63, 0), (63, 1), (63, 2), (63, 6), (63, 7), (64, 0), (64, 1), (64, 2), (64, 3), (64, 4), (64, 5), (64, 6), (64, 7), (64, 8), (64, 9), (64, 10), (64, 11), (64, 12), (64, 13), (64, 14), (64, 15), (64, 16), (64, 17), (64, 18), (64, 19), (64, 20), (64, 21), (64, 22), (64, 23), (65, 1), (78, 1), (79, 0), (79, 1), (79, 3), (79, 4), (1100, 0), (1100, 1), (1100, 2), (1100, 3), (1102, 0), (1102, 1), (1102, 2), (1102, 3), (1103, 0), (1103, 1), (1103, 2), (1103, 3), (1104, 0), (1104, 1), (1104, 2), (1104, 3), (1105, 0), (1105, 1), (1105, 2), (1105, 3), (1106, 0), (1106, 1), (1106, 2), (1106, 3), (1107, 0), (1107, 1), (1107, 2), (1107, 3)], [25, 31, 32, 36, 37, 41, 42, 46, 47, 51, 52, 56, 57, 61, 62, 66, 67, 1003]))
set_option maxRecDepth 1000000 in
theorem vx_2211 : ai_valid ai_Tb cx_2211 := ai_chkH_ok (n := 74) (D := [cx_2027, cx_2029, cx_2031, cx_2033, cx_2035, cx_2037, cx_2043, cx_2044, cx_2045, cx_2046, cx_2047, cx_2048, cx_2041, cx_2050, cx_2086, cx_2111, cx_2136, cx_2161, cx_2186, cx_2012, cx_2060, cx_2065, cx_2070, cx_2075, cx_2080, cx_2085, cx_2090, cx_2094, cx_2098, cx_2102, cx_2106, cx_2110, cx_2115, cx_2119, cx_2123, cx_2127, cx_2131, cx_2135, cx_2140, cx_2144, cx_2148, cx_2152, cx_2156, cx_2160, cx_2165, cx_2169, cx_2173, cx_2177, cx_2181, cx_2185, cx_2190, cx_2194, cx_2198, cx_2202, cx_2206, cx_2210]) ai_TbK (ai_D1 vx_2027 (ai_D1 vx_2029 (ai_D1 vx_2031 (ai_D1 vx_2033 (ai_D1 vx_2035 (ai_D1 vx_2037 (ai_D1 vx_2043 (ai_D1 vx_2044 (ai_D1 vx_2045 (ai_D1 vx_2046 (ai_D1 vx_2047 (ai_D1 vx_2048 (ai_D1 vx_2041 (ai_D1 vx_2050 (ai_D1 vx_2086 (ai_D1 vx_2111 (ai_D1 vx_2136 (ai_D1 vx_2161 (ai_D1 vx_2186 (ai_D1 vx_2012 (ai_D1 vx_2060 (ai_D1 vx_2065 (ai_D1 vx_2070 (ai_D1 vx_2075 (ai_D1 vx_2080 (ai_D1 vx_2085 (ai_D1 vx_2090 (ai_D1 vx_2094 (ai_D1 vx_2098 (ai_D1 vx_2102 (ai_D1 vx_2106 (ai_D1 vx_2110 (ai_D1 vx_2115 (ai_D1 vx_2119 (ai_D1 vx_2123 (ai_D1 vx_2127 (ai_D1 vx_2131 (ai_D1 vx_2135 (ai_D1 vx_2140 (ai_D1 vx_2144 (ai_D1 vx_2148 (ai_D1 vx_2152 (ai_D1 vx_2156 (ai_D1 vx_2160 (ai_D1 vx_2165 (ai_D1 vx_2169 (ai_D1 vx_2173 (ai_D1 vx_2177 (ai_D1 vx_2181 (ai_D1 vx_2185 (ai_D1 vx_2190 (ai_D1 vx_2194 (ai_D1 vx_2198 (ai_D1 vx_2202 (ai_D1 vx_2206 (ai_D1 vx_2210 ai_D0)))))))))))))))))))))))))))))))))))))))))))))))))))))))) (by decide +kernel)
-- X2_sign
def cx_2212 : ai_C := (46, [.r 1, .r 107], [], some [.i (-1) 1], ([], []))
set_option maxRecDepth 1000000 in
theorem vx_2212 : ai_valid ai_Tb cx_2212 := ai_chkH_ok (n := 10) (D := [cx_2025]) ai_TbK (ai_D1 vx_2025 ai_D0) (by decide +kernel)
-- X1_isFit
def cx_2213 : ai_C := (19, [.r 1, .r 107], [], some [.i 0 1], ([], []))
set_option maxRecDepth 1000000 in
theorem vx_2213 : ai_valid ai_Tb cx_2213 := ai_chkH_ok (n := 13) (D := [cx_2212, cx_2027]) ai_TbK (ai_D1 vx_2212 (ai_D1 vx_2027 ai_D0)) (by decide +kernel)
-- X1_canOpen
def cx_2214 : ai_C := (18, [.r 1, .r 107, .r 107], [], some [.i 0 1], ([], []))
set_option maxRecDepth 1000000 in
theorem vx_2214 : ai_valid ai_Tb cx_2214 := ai_chkH_ok (n := 12) (D := [cx_2213]) ai_TbK (ai_D1 vx_2213 ai_D0) (by decide +kernel)
-- X2_sign
def cx_2215 : ai_C := (46, [.r 1, .r 106], [], some [.i (-1) 1], ([], []))
set_option maxRecDepth 1000000 in
theorem vx_2215 : ai_valid ai_Tb cx_2215 := ai_chkH_ok (n := 10) (D := [cx_2025]) ai_TbK (ai_D1 vx_2025 ai_D0) (by decide +kernel)
-- X1_isFit
def cx_2216 : ai_C := (19, [.r 1, .r 106], [], some [.i 0 1], ([], []))
set_option maxRecDepth 1000000 in
theorem vx_2216 : ai_valid ai_Tb cx_2216 := ai_chkH_ok (n := 13) (D := [cx_2215, cx_2029]) ai_TbK (ai_D1 vx_2215 (ai_D1 vx_2029 ai_D0)) (by decide +kernel)
-- X1_canOpen
def cx_2217 : ai_C := (18, [.r 1, .r 107, .r 106], [], some [.i 0 1], ([], []))
set_option maxRecDepth 1000000 in
theorem vx_2217 : ai_valid ai_Tb cx_2217 := ai_chkH_ok (n := 12) (D := [cx_2213, cx_2216]) ai_TbK (ai_D1 vx_2213 (ai_D1 vx_2216 ai_D0)) (by decide +kernel)
-- X2_sign
def cx_2218 : ai_C := (46, [.r 1, .r 105], [], some [.i (-1) 1], ([], []))
set_option maxRecDepth 1000000 in
theorem vx_2218 : ai_valid ai_Tb cx_2218 := ai_chkH_ok (n := 10) (D := [cx_2025]) ai_TbK (ai_D1 vx_2025 ai_D0) (by decide +kernel)
-- X1_isFit
def cx_2219 : ai_C := (19, [.r 1, .r 105], [], some [.i 0 1], ([], []))
set_option maxRecDepth 1000000 in
theorem vx_2219 : ai_valid ai_Tb cx_2219 := ai_chkH_ok (n := 13) (D := [cx_2218, cx_2031]) ai_TbK (ai_D1 vx_2218 (ai_D1 vx_2031 ai_D0)) (by decide +kernel)
-- X1_canOpen
def cx_2220 : ai_C := (18, [.r 1, .r 107, .r 105], [], some [.i 0 1], ([], []))
set_option maxRecDepth 1000000 in
theorem vx_2220 : ai_valid ai_Tb cx_2220 := ai_chkH_ok (n := 12) (D := [cx_2213, cx_2219]) ai_TbK (ai_D1 vx_2213 (ai_D1 vx_2219 ai_D0)) (by decide +kernel)
-- X2_sign
def cx_2221 : ai_C := (46, [.r 1, .r 104], [], some [.i (-1) 1], ([], []))
set_option maxRecDepth 1000000 in
theorem vx_2221 : ai_valid ai_Tb cx_2221 := ai_chkH_ok (n := 10) (D := [cx_2025]) ai_TbK (ai_D1 vx_2025 ai_D0) (by decide +kernel)
-- X1_isFit
def cx_2222 : ai_C := (19, [.r 1, .r 104], [], some [.i 0 1], ([], []))
set_option maxRecDepth 1000000 in
theorem vx_2222 : ai_valid ai_Tb cx_2222 := ai_chkH_ok (n := 13) (D := [cx_2221, cx_2033]) ai_TbK (ai_D1 vx_2221 (ai_D1 vx_2033 ai_D0)) (by decide +kernel)
-- X1_canOpen
def cx_2223 : ai_C := (18, [.r 1, .r 107, .r 104], [], some [.i 0 1], ([], []))
set_option maxRecDepth 1000000 in
theorem vx_2223 : ai_valid ai_Tb cx_2223 := ai_chkH_ok (n := 12) (D := [cx_2213, cx_2222]) ai_TbK (ai_D1 vx_2213 (ai_D1 vx_2222 ai_D0)) (by decide +kernel)
-- X2_sign
def cx_2224 : ai_C := (46, [.r 1, .r 103], [], some [.i (-1) 1], ([], []))
set_option maxRecDepth 1000000 in
theorem vx_2224 : ai_valid ai_Tb cx_2224 := ai_chkH_ok (n := 10) (D := [cx_2025]) ai_TbK (ai_D1 vx_2025 ai_D0) (by decide +kernel)
-- X1_isFit
def cx_2225 : ai_C := (19, [.r 1, .r 103], [], some [.i 0 1], ([], []))
set_option maxRecDepth 1000000 in
theorem vx_2225 : ai_valid ai_Tb cx_2225 := ai_chkH_ok (n := 13) (D := [cx_2224, cx_2035]) ai_TbK (ai_D1 vx_2224 (ai_D1 vx_2035 ai_D0)) (by decide +kernel)
-- X1_canOpen
def cx_2226 : ai_C := (18, [.r 1, .r 107, .r 103], [], some [.i 0 1], ([], []))
set_option maxRecDepth 1000000 in
theorem vx_2226 : ai_valid ai_Tb cx_2226 := ai_chkH_ok (n := 12) (D := [cx_2213, cx_2225]) ai_TbK (ai_D1 vx_2213 (ai_D1 vx_2225 ai_D0)) (by decide +kernel)
-- X2_sign
def cx_2227 : ai_C := (46, [.r 1, .r 102], [], some [.i (-1) 1], ([], []))
set_option maxRecDepth 1000000 in
theorem vx_2227 : ai_valid ai_Tb cx_2227 := ai_chkH_ok (n := 10) (D := [cx_2025]) ai_TbK (ai_D1 vx_2025 ai_D0) (by decide +kernel)
-- X1_isFit
def cx_2228 : ai_C := (19, [.r 1, .r 102], [], some [.i 0 1], ([], []))
set_option maxRecDepth 1000000 in
theorem vx_2228 : ai_valid ai_Tb cx_2228 := ai_chkH_ok (n := 13) (D := [cx_2227, cx_2037]) ai_TbK (ai_D1 vx_2227 (ai_D1 vx_2037 ai_D0)) (by decide +kernel)
-- X1_canOpen
def cx_2229 : ai_C := (18, [.r 1, .r 107, .r 102], [], some [.i 0 1], ([], []))
set_option maxRecDepth 1000000 in
theorem vx_2229 : ai_valid ai_Tb cx_2229 := ai_chkH_ok (n := 12) (D := [cx_2213, cx_2228]) ai_TbK (ai_D1 vx_2213 (ai_D1 vx_2228 ai_D0)) (by decide +kernel)
-- X1_canOpen
def cx_2230 : ai_C := (18, [.r 1, .r 106, .r 107], [], some [.i 0 1], ([], []))
set_option maxRecDepth 1000000 in
theorem vx_2230 : ai_valid ai_Tb cx_2230 := ai_chkH_ok (n := 12) (D := [cx_2216, cx_2213]) ai_TbK (ai_D1 vx_2216 (ai_D1 vx_2213 ai_D0)) (by decide +kernel)
-- X1_canOpen
def cx_2231 : ai_C := (18, [.r 1, .r 106, .r 106], [], some [.i 0 1], ([], []))
set_option maxRecDepth 1000000 in
theorem vx_2231 : ai_valid ai_Tb cx_2231 := ai_chkH_ok (n := 12) (D := [cx_2216]) ai_TbK (ai_D1 vx_2216 ai_D0) (by decide +kernel)
-- X1_canOpen
def cx_2232 : ai_C := (18, [.r 1, .r 106, .r 105], [], some [.i 0 1], ([], []))
set_option maxRecDepth 1000000 in
theorem vx_2232 : ai_valid ai_Tb cx_2232 := ai_chkH_ok (n := 12) (D := [cx_2216, cx_2219]) ai_TbK (ai_D1 vx_2216 (ai_D1 vx_2219 ai_D0)) (by decide +kernel)
-- X1_canOpen
def cx_2233 : ai_C := (18, [.r 1, .r 106, .r 104], [], some [.i 0 1], ([], []))
set_option maxRecDepth 1000000 in
theorem vx_2233 : ai_valid ai_Tb cx_2233 := ai_chkH_ok (n := 12) (D := [cx_2216, cx_2222]) ai_TbK (ai_D1 vx_2216 (ai_D1 vx_2222 ai_D0)) (by decide +kernel)
-- X1_canOpen
def cx_2234 : ai_C := (18, [.r 1, .r 106, .r 103], [], some [.i 0 1], ([], []))
set_option maxRecDepth 1000000 in
theorem vx_2234 : ai_valid ai_Tb cx_2234 := ai_chkH_ok (n := 12) (D := [cx_2216, cx_2225]) ai_TbK (ai_D1 vx_2216 (ai_D1 vx_2225 ai_D0)) (by decide +kernel)
-- X1_canOpen
def cx_2235 : ai_C := (18, [.r 1, .r 106, .r 102], [], some [.i 0 1], ([], []))
set_option maxRecDepth 1000000 in
theorem vx_2235 : ai_valid ai_Tb cx_2235 := ai_chkH_ok (n := 12) (D := [cx_2216, cx_2228]) ai_TbK (ai_D1 vx_2216 (ai_D1 vx_2228 ai_D0)) (by decide +kernel)
-- X1_canOpen
def cx_2236 : ai_C := (18, [.r 1, .r 105, .r 107], [], some [.i 0 1], ([], []))
set_option maxRecDepth 1000000 in
theorem vx_2236 : ai_valid ai_Tb cx_2236 := ai_chkH_ok (n := 12) (D := [cx_2219, cx_2213]) ai_TbK (ai_D1 vx_2219 (ai_D1 vx_2213 ai_D0)) (by decide +kernel)
-- X1_canOpen
def cx_2237 : ai_C := (18, [.r 1, .r 105, .r 106], [], some [.i 0 1], ([], []))
set_option maxRecDepth 1000000 in
theorem vx_2237 : ai_valid ai_Tb cx_2237 := ai_chkH_ok (n := 12) (D := [cx_2219, cx_2216]) ai_TbK (ai_D1 vx_2219 (ai_D1 vx_2216 ai_D0)) (by decide +kernel)
-- X1_canOpen
def cx_2238 : ai_C := (18, [.r 1, .r 105, .r 105], [], some [.i 0 1], ([], []))
set_option maxRecDepth 1000000 in
theorem vx_2238 : ai_valid ai_Tb cx_2238 := ai_chkH_ok (n := 12) (D := [cx_2219]) ai_TbK (ai_D1 vx_2219 ai_D0) (by decide +kernel)
-- X1_canOpen
def cx_2239 : ai_C := (18, [.r 1, .r 105, .r 104], [], some [.i 0 1], ([], []))
set_option maxRecDepth 1000000 in
theorem vx_2239 : ai_valid ai_Tb cx_2239 := ai_chkH_ok (n := 12) (D := [cx_2219, cx_2222]) ai_TbK (ai_D1 vx_2219 (ai_D1 vx_2222 ai_D0)) (by decide +kernel)
-- X1_canOpen
def cx_2240 : ai_C := (18, [.r 1, .r 105, .r 103], [], some [.i 0 1], ([], []))
set_option maxRecDepth 1000000 in
theorem vx_2240 : ai_valid ai_Tb cx_2240 := ai_chkH_ok (n := 12) (D := [cx_2219, cx_2225]) ai_TbK (ai_D1 vx_2219 (ai_D1 vx_2225 ai_D0)) (by decide +kernel)
-- X1_canOpen
def cx_2241 : ai_C := (18, [.r 1, .r 105, .r 102], [], some [.i 0 1], ([], []))
set_option maxRecDepth 1000000 in
theorem vx_2241 : ai_valid ai_Tb cx_2241 := ai_chkH_ok (n := 12) (D := [cx_2219, cx_2228]) ai_TbK (ai_D1 vx_2219 (ai_D1 vx_2228 ai_D0)) (by decide +kernel)
-- X1_canOpen
def cx_2242 : ai_C := (18, [.r 1, .r 104, .r 107], [], some [.i 0 1], ([], []))
set_option maxRecDepth 1000000 in
theorem vx_2242 : ai_valid ai_Tb cx_2242 := ai_chkH_ok (n := 12) (D := [cx_2222, cx_2213]) ai_TbK (ai_D1 vx_2222 (ai_D1 vx_2213 ai_D0)) (by decide +kernel)
-- X1_canOpen
def cx_2243 : ai_C := (18, [.r 1, .r 104, .r 106], [], some [.i 0 1], ([], []))
set_option maxRecDepth 1000000 in
theorem vx_2243 : ai_valid ai_Tb cx_2243 := ai_chkH_ok (n := 12) (D := [cx_2222, cx_2216]) ai_TbK (ai_D1 vx_2222 (ai_D1 vx_2216 ai_D0)) (by decide +kernel)
-- X1_canOpen
def cx_2244 : ai_C := (18, [.r 1, .r 104, .r 105], [], some [.i 0 1], ([], []))
set_option maxRecDepth 1000000 in
theorem vx_2244 : ai_valid ai_Tb cx_2244 := ai_chkH_ok (n := 12) (D := [cx_2222, cx_2219]) ai_TbK (ai_D1 vx_2222 (ai_D1 vx_2219 ai_D0)) (by decide +kernel)
-- X1_canOpen
def cx_2245 : ai_C := (18, [.r 1, .r 104, .r 104], [], some [.i 0 1], ([], []))
set_option maxRecDepth 1000000 in
theorem vx_2245 : ai_valid ai_Tb cx_2245 := ai_chkH_ok (n := 12) (D := [cx_2222]) ai_TbK (ai_D1 vx_2222 ai_D0) (by decide +kernel)
-- X1_canOpen
def cx_2246 : ai_C := (18, [.r 1, .r 104, .r 103], [], some [.i 0 1], ([], []))
set_option maxRecDepth 1000000 in
theorem vx_2246 : ai_valid ai_Tb cx_2246 := ai_chkH_ok (n := 12) (D := [cx_2222, cx_2225]) ai_TbK (ai_D1 vx_2222 (ai_D1 vx_2225 ai_D0)) (by decide +kernel)
-- X1_canOpen
def cx_2247 : ai_C := (18, [.r 1, .r 104, .r 102], [], some [.i 0 1], ([], []))
set_option maxRecDepth 1000000 in
theorem vx_2247 : ai_valid ai_Tb cx_2247 := ai_chkH_ok (n := 12) (D := [cx_2222, cx_2228]) ai_TbK (ai_D1 vx_2222 (ai_D1 vx_2228 ai_D0)) (by decide +kernel)
-- X1_canOpen
def cx_2248 : ai_C := (18, [.r 1, .r 103, .r 107], [], some [.i 0 1], ([], []))
set_option maxRecDepth 1000000 in
theorem vx_2248 : ai_valid ai_Tb cx_2248 := ai_chkH_ok (n := 12) (D := [cx_2225, cx_2213]) ai_TbK (ai_D1 vx_2225 (ai_D1 vx_2213 ai_D0)) (by decide +kernel)
-- X1_canOpen
def cx_2249 : ai_C := (18, [.r 1, .r 103, .r 106], [], some [.i 0 1], ([], []))
set_option maxRecDepth 1000000 in
theorem vx_2249 : ai_valid ai_Tb cx_2249 := ai_chkH_ok (n := 12) (D := [cx_2225, cx_2216]) ai_TbK (ai_D1 vx_2225 (ai_D1 vx_2216 ai_D0)) (by decide +kernel)
-- X1_canOpen
def cx_2250 : ai_C := (18, [.r 1, .r 103, .r 105], [], some [.i 0 1], ([], []))
set_option maxRecDepth 1000000 in
theorem vx_2250 : ai_valid ai_Tb cx_2250 := ai_chkH_ok (n := 12) (D := [cx_2225, cx_2219]) ai_TbK (ai_D1 vx_2225 (ai_D1 vx_2219 ai_D0)) (by decide +kernel)
-- X1_canOpen
def cx_2251 : ai_C := (18, [.r 1, .r 103, .r 104], [], some [.i 0 1], ([], []))
set_option maxRecDepth 1000000 in
theorem vx_2251 : ai_valid ai_Tb cx_2251 := ai_chkH_ok (n := 12) (D := [cx_2225, cx_2222]) ai_TbK (ai_D1 vx_2225 (ai_D1 vx_2222 ai_D0)) (by decide +kernel)
-- X1_canOpen
def cx_2252 : ai_C := (18, [.r 1, .r 103, .r 103], [], some [.i 0 1], ([], []))
set_option maxRecDepth 1000000 in
theorem vx_2252 : ai_valid ai_Tb cx_2252 := ai_chkH_ok (n := 12) (D := [cx_2225]) ai_TbK (ai_D1 vx_2225 ai_D0) (by decide +kernel)
-- X1_canOpen
def cx_2253 : ai_C := (18, [.r 1, .r 103, .r 102], [], some [.i 0 1], ([], []))
set_option maxRecDepth 1000000 in
theorem vx_2253 : ai_valid ai_Tb cx_2253 := ai_chkH_ok (n := 12) (D := [cx_2225, cx_2228]) ai_TbK (ai_D1 vx_2225 (ai_D1 vx_2228 ai_D0)) (by decide +kernel)
-- X1_canOpen
def cx_2254 : ai_C := (18, [.r 1, .r 102, .r 107], [], some [.i 0 1], ([], []))
set_option maxRecDepth 1000000 in
theorem vx_2254 : ai_valid ai_Tb cx_2254 := ai_chkH_ok (n := 12) (D := [cx_2228, cx_2213]) ai_TbK (ai_D1 vx_2228 (ai_D1 vx_2213 ai_D0)) (by decide +kernel)
-- X1_canOpen
def cx_2255 : ai_C := (18, [.r 1, .r 102, .r 106], [], some [.i 0 1], ([], []))
set_option maxRecDepth 1000000 in
theorem vx_2255 : ai_valid ai_Tb cx_2255 := ai_chkH_ok (n := 12) (D := [cx_2228, cx_2216]) ai_TbK (ai_D1 vx_2228 (ai_D1 vx_2216 ai_D0)) (by decide +kernel)
-- X1_canOpen
def cx_2256 : ai_C := (18, [.r 1, .r 102, .r 105], [], some [.i 0 1], ([], []))
set_option maxRecDepth 1000000 in
theorem vx_2256 : ai_valid ai_Tb cx_2256 := ai_chkH_ok (n := 12) (D := [cx_2228, cx_2219]) ai_TbK (ai_D1 vx_2228 (ai_D1 vx_2219 ai_D0)) (by decide +kernel)
-- X1_canOpen
def cx_2257 : ai_C := (18, [.r 1, .r 102, .r 104], [], some [.i 0 1], ([], []))
set_option maxRecDepth 1000000 in
theorem vx_2257 : ai_valid ai_Tb cx_2257 := ai_chkH_ok (n := 12) (D := [cx_2228, cx_2222]) ai_TbK (ai_D1 vx_2228 (ai_D1 vx_2222 ai_D0)) (by decide +kernel)
-- X1_canOpen
def cx_2258 : ai_C := (18, [.r 1, .r 102, .r 103], [], some [.i 0 1], ([], []))
set_option maxRecDepth 1000000 in
theorem vx_2258 : ai_valid ai_Tb cx_2258 := ai_chkH_ok (n := 12) (D := [cx_2228, cx_2225]) ai_TbK (ai_D1 vx_2228 (ai_D1 vx_2225 ai_D0)) (by decide +kernel)
-- X1_canOpen
def cx_2259 : ai_C := (18, [.r 1, .r 102, .r 102], [], some [.i 0 1], ([], []))
set_option maxRecDepth 1000000 in
theorem vx_2259 : ai_valid ai_Tb cx_2259 := ai_chkH_ok (n := 12) (D := [cx_2228]) ai_TbK (ai_D1 vx_2228 ai_D0) (by decide +kernel)
-- X8_copy
def cx_2260 : ai_C := (95, [.r 15, .r 107], [], none, ([(1015, 0), (1015, 1), (1015, 2), (1015, 3)], []))
set_option maxRecDepth 1000000 in
theorem vx_2260 : ai_valid ai_Tb cx_2260 := ai_chkH_ok (n := 18) (D := []) ai_TbK ai_D0 (by decide +kernel)
-- X8_copy
def cx_2261 : ai_C := (95, [.r 16, .r 107], [], none, ([(1016, 0), (1016, 1), (1016, 2), (1016, 3)], []))
set_option maxRecDepth 1000000 in
theorem vx_2261 : ai_valid ai_Tb cx_2261 := ai_chkH_ok (n := 18) (D := []) ai_TbK ai_D0 (by decide +kernel)
-- X1_saveState
def cx_2262 : ai_C := (28, [.r 6], [], none, ([], [7]))
set_option maxRecDepth 1000000 in
theorem vx_2262 : ai_valid ai_Tb cx_2262 := ai_chkH_ok (n := 124) (D := []) ai_TbK ai_D0 (by decide +kernel)
-- X4_layRow
def cx_2263 : ai_C := (63, [.r 9, .i (-2147483648) 2147483647, .l (-9223372036854775808) 9223372036854775807, .l (-9223372036854775808) 9223372036854775807, .l (-9223372036854775808) 9223372036854775807], [], none, ([], [1010]))
set_option maxRecDepth 1000000 in
theorem vx_2263 : ai_valid ai_Tb cx_2263 := ai_chkH_ok (n := 44) (D := []) ai_TbK ai_D0 (by decide +kernel)
-- X4_layOne
def cx_2264 : ai_C := (64, [.r 9], [], none, ([], [1010]))
set_option maxRecDepth 1000000 in
theorem vx_2264 : ai_valid ai_Tb cx_2264 := ai_chkH_ok (n := 20) (D := [cx_2263]) ai_TbK (ai_D1 vx_2263 ai_D0) (by decide +kernel)
-- X1_open
def cx_2265 : ai_C := (20, [.r 6, .r 1, .r 107, .r 107, .i (-2147483648) 2147483647], [], none, ([(6, 3), (6, 4), (6, 5), (6, 6), (6, 12), (6, 13), (1015, 0), (1015, 1), (1015, 2), (1015, 3), (1016, 0), (1016, 1), (1016, 2), (1016, 3)], [7, 1010]))
set_option maxRecDepth 1000000 in
theorem vx_2265 : ai_valid ai_Tb cx_2265 := ai_chkH_ok (n := 30) (D := [cx_2020, cx_2262, cx_2027, cx_2264, cx_2260, cx_2261]) ai_TbK (ai_D1 vx_2020 (ai_D1 vx_2262 (ai_D1 vx_2027 (ai_D1 vx_2264 (ai_D1 vx_2260 (ai_D1 vx_2261 ai_D0)))))) (by decide +kernel)
-- X8_copy
def cx_2266 : ai_C := (95, [.r 16, .r 106], [], none, ([(1016, 0), (1016, 1), (1016, 2), (1016, 3)], []))
set_option maxRecDepth 1000000 in
theorem vx_2266 : ai_valid ai_Tb cx_2266 := ai_chkH_ok (n := 18) (D := []) ai_TbK ai_D0 (by decide +kernel)
-- X1_open
def cx_2267 : ai_C := (20, [.r 6, .r 1, .r 107, .r 106, .i (-2147483648) 2147483647], [], none, ([(6, 3), (6, 4), (6, 5), (6, 6), (6, 12), (6, 13), (1015, 0), (1015, 1), (1015, 2), (1015, 3), (1016, 0), (1016, 1), (1016, 2), (1016, 3)], [7, 1010]))
set_option maxRecDepth 1000000 in
theorem vx_2267 : ai_valid ai_Tb cx_2267 := ai_chkH_ok (n := 30) (D := [cx_2020, cx_2262, cx_2027, cx_2029, cx_2264, cx_2260, cx_2266]) ai_TbK (ai_D1 vx_2020 (ai_D1 vx_2262 (ai_D1 vx_2027 (ai_D1 vx_2029 (ai_D1 vx_2264 (ai_D1 vx_2260 (ai_D1 vx_2266 ai_D0))))))) (by decide +kernel)
-- X8_copy
def cx_2268 : ai_C := (95, [.r 16, .r 105], [], none, ([(1016, 0), (1016, 1), (1016, 2), (1016, 3)], []))
set_option maxRecDepth 1000000 in
theorem vx_2268 : ai_valid ai_Tb cx_2268 := ai_chkH_ok (n := 18) (D := []) ai_TbK ai_D0 (by decide +kernel)
-- X1_open
def cx_2269 : ai_C := (20, [.r 6, .r 1, .r 107, .r 105, .i (-2147483648) 2147483647], [], none, ([(6, 3), (6, 4), (6, 5), (6, 6), (6, 12), (6, 13), (1015, 0), (1015, 1), (1015, 2), (1015, 3), (1016, 0), (1016, 1), (1016, 2), (1016, 3)], [7, 1010]))
set_option maxRecDepth 1000000 in
theorem vx_2269 : ai_valid ai_Tb cx_2269 := ai_chkH_ok (n := 30) (D := [cx_2020, cx_2262, cx_2027, cx_2031, cx_2264, cx_2260, cx_2268]) ai_TbK (ai_D1 vx_2020 (ai_D1 vx_2262 (ai_D1 vx_2027 (ai_D1 vx_2031 (ai_D1 vx_2264 (ai_D1 vx_2260 (ai_D1 vx_2268 ai_D0))))))) (by decide +kernel)
-- X8_copy
def cx_2270 : ai_C := (95, [.r 16, .r 104], [], none, ([(1016, 0), (1016, 1), (1016, 2), (1016, 3)], []))
set_option maxRecDepth 1000000 in
theorem vx_2270 : ai_valid ai_Tb cx_2270 := ai_chkH_ok (n := 18) (D := []) ai_TbK ai_D0 (by decide +kernel)
-- X1_open
def cx_2271 : ai_C := (20, [.r 6, .r 1, .r 107, .r 104, .i (-2147483648) 2147483647], [], none, ([(6, 3), (6, 4), (6, 5), (6, 6), (6, 12), (6, 13), (1015, 0), (1015, 1), (1015, 2), (1015, 3), (1016, 0), (1016, 1), (1016, 2), (1016, 3)], [7, 1010]))
set_option maxRecDepth 1000000 in
theorem vx_2271 : ai_valid ai_Tb cx_2271 := ai_chkH_ok (n := 30) (D := [cx_2020, cx_2262, cx_2027, cx_2033, cx_2264, cx_2260, cx_2270]) ai_TbK (ai_D1 vx_2020 (ai_D1 vx_2262 (ai_D1 vx_2027 (ai_D1 vx_2033 (ai_D1 vx_2264 (ai_D1 vx_2260 (ai_D1 vx_2270 ai_D0))))))) (by decide +kernel)
-- X8_copy
def cx_2272 : ai_C := (95, [.r 16, .r 103], [], none, ([(1016, 0), (1016, 1), (1016, 2), (1016, 3)], []))
set_option maxRecDepth 1000000 in
theorem vx_2272 : ai_valid ai_Tb cx_2272 := ai_chkH_ok (n := 18) (D := []) ai_TbK ai_D0 (by decide +kernel)
-- X1_open
def cx_2273 : ai_C := (20, [.r 6, .r 1, .r 107, .r 103, .i (-2147483648) 2147483647], [], none, ([(6, 3), (6, 4), (6, 5), (6, 6), (6, 12), (6, 13), (1015, 0), (1015, 1), (1015, 2), (1015, 3), (1016, 0), (1016, 1), (1016, 2), (1016, 3)], [7, 1010]))
set_option maxRecDepth 1000000 in
theorem vx_2273 : ai_valid ai_Tb cx_2273 := ai_chkH_ok (n := 30) (D := [cx_2020, cx_2262, cx_2027, cx_2035, cx_2264, cx_2260, cx_2272]) ai_TbK (ai_D1 vx_2020 (ai_D1 vx_2262 (ai_D1 vx_2027 (ai_D1 vx_2035 (ai_D1 vx_2264 (ai_D1 vx_2260 (ai_D1 vx_2272 ai_D0))))))) (by decide +kernel)
-- X8_copy
def cx_2274 : ai_C := (95, [.r 16, .r 102], [], none, ([(1016, 0), (1016, 1), (1016, 2), (1016, 3)], []))
set_option maxRecDepth 1000000 in
theorem vx_2274 : ai_valid ai_Tb cx_2274 := ai_chkH_ok (n := 18) (D := []) ai_TbK ai_D0 (by decide +kernel)
-- X1_open
def cx_2275 : ai_C := (20, [.r 6, .r 1, .r 107, .r 102, .i (-2147483648) 2147483647], [], none, ([(6, 3), (6, 4), (6, 5), (6, 6), (6, 12), (6, 13), (1015, 0), (1015, 1), (1015, 2), (1015, 3), (1016, 0), (1016, 1), (1016, 2), (1016, 3)], [7, 1010]))
set_option maxRecDepth 1000000 in
theorem vx_2275 : ai_valid ai_Tb cx_2275 := ai_chkH_ok (n := 30) (D := [cx_2020, cx_2262, cx_2027, cx_2037, cx_2264, cx_2260, cx_2274]) ai_TbK (ai_D1 vx_2020 (ai_D1 vx_2262 (ai_D1 vx_2027 (ai_D1 vx_2037 (ai_D1 vx_2264 (ai_D1 vx_2260 (ai_D1 vx_2274 ai_D0))))))) (by decide +kernel)
-- X8_copy
def cx_2276 : ai_C := (95, [.r 15, .r 106], [], none, ([(1015, 0), (1015, 1), (1015, 2), (1015, 3)], []))
set_option maxRecDepth 1000000 in
theorem vx_2276 : ai_valid ai_Tb cx_2276 := ai_chkH_ok (n := 18) (D := []) ai_TbK ai_D0 (by decide +kernel)
-- X1_open
def cx_2277 : ai_C := (20, [.r 6, .r 1, .r 106, .r 107, .i (-2147483648) 2147483647], [], none, ([(6, 3), (6, 4), (6, 5), (6, 6), (6, 12), (6, 13), (1015, 0), (1015, 1), (1015, 2), (1015, 3), (1016, 0), (1016, 1), (1016, 2), (1016, 3)], [7, 1010]))
set_option maxRecDepth 1000000 in
theorem vx_2277 : ai_valid ai_Tb cx_2277 := ai_chkH_ok (n := 30) (D := [cx_2020, cx_2262, cx_2029, cx_2027, cx_2264, cx_2276, cx_2261]) ai_TbK (ai_D1 vx_2020 (ai_D1 vx_2262 (ai_D1 vx_2029 (ai_D1 vx_2027 (ai_D1 vx_2264 (ai_D1 vx_2276 (ai_D1 vx_2261 ai_D0))))))) (by decide +kernel)
-- X1_open
def cx_2278 : ai_C := (20, [.r 6, .r 1, .r 106, .r 106, .i (-2147483648) 2147483647], [], none, ([(6, 3), (6, 4), (6, 5), (6, 6), (6, 12), (6, 13), (1015, 0), (1015, 1), (1015, 2), (1015, 3), (1016, 0), (1016, 1), (1016, 2), (1016, 3)], [7, 1010]))
set_option maxRecDepth 1000000 in
theorem vx_2278 : ai_valid ai_Tb cx_2278 := ai_chkH_ok (n := 30) (D := [cx_2020, cx_2262, cx_2029, cx_2264, cx_2276, cx_2266]) ai_TbK (ai_D1 vx_2020 (ai_D1 vx_2262 (ai_D1 vx_2029 (ai_D1 vx_2264 (ai_D1 vx_2276 (ai_D1 vx_2266 ai_D0)))))) (by decide +kernel)
-- X1_open
def cx_2279 : ai_C := (20, [.r 6, .r 1, .r 106, .r 105, .i (-2147483648) 2147483647], [], none, ([(6, 3), (6, 4), (6, 5), (6, 6), (6, 12), (6, 13), (1015, 0), (1015, 1), (1015, 2), (1015, 3), (1016, 0), (1016, 1), (1016, 2), (1016, 3)], [7, 1010]))
set_option maxRecDepth 1000000 in
theorem vx_2279 : ai_valid ai_Tb cx_2279 := ai_chkH_ok (n := 30) (D := [cx_2020, cx_2262, cx_2029, cx_2031, cx_2264, cx_2276, cx_2268]) ai_TbK (ai_D1 vx_2020 (ai_D1 vx_2262 (ai_D1 vx_2029 (ai_D1 vx_2031 (ai_D1 vx_2264 (ai_D1 vx_2276 (ai_D1 vx_2268 ai_D0))))))) (by decide +kernel)
-- X1_open
def cx_2280 : ai_C := (20, [.r 6, .r 1, .r 106, .r 104, .i (-2147483648) 2147483647], [], none, ([(6, 3), (6, 4), (6, 5), (6, 6), (6, 12), (6, 13), (1015, 0), (1015, 1), (1015, 2), (1015, 3), (1016, 0), (1016, 1), (1016, 2), (1016, 3)], [7, 1010]))
set_option maxRecDepth 1000000 in
theorem vx_2280 : ai_valid ai_Tb cx_2280 := ai_chkH_ok (n := 30) (D := [cx_2020, cx_2262, cx_2029, cx_2033, cx_2264, cx_2276, cx_2270]) ai_TbK (ai_D1 vx_2020 (ai_D1 vx_2262 (ai_D1 vx_2029 (ai_D1 vx_2033 (ai_D1 vx_2264 (ai_D1 vx_2276 (ai_D1 vx_2270 ai_D0))))))) (by decide +kernel)
-- X1_open
def cx_2281 : ai_C := (20, [.r 6, .r 1, .r 106, .r 103, .i (-2147483648) 2147483647], [], none, ([(6, 3), (6, 4), (6, 5), (6, 6), (6, 12), (6, 13), (1015, 0), (1015, 1), (1015, 2), (1015, 3), (1016, 0), (1016, 1), (1016, 2), (1016, 3)], [7, 1010]))
set_option maxRecDepth 1000000 in
theorem vx_2281 : ai_valid ai_Tb cx_2281 := ai_chkH_ok (n := 30) (D := [cx_2020, cx_2262, cx_2029, cx_2035, cx_2264, cx_2276, cx_2272]) ai_TbK (ai_D1 vx_2020 (ai_D1 vx_2262 (ai_D1 vx_2029 (ai_D1 vx_2035 (ai_D1 vx_2264 (ai_D1 vx_2276 (ai_D1 vx_2272 ai_D0))))))) (by decide +kernel)
-- X1_open
def cx_2282 : ai_C := (20, [.r 6, .r 1, .r 106, .r 102, .i (-2147483648) 2147483647], [], none, ([(6, 3), (6, 4), (6, 5), (6, 6), (6, 12), (6, 13), (1015, 0), (1015, 1), (1015, 2), (1015, 3), (1016, 0), (1016, 1), (1016, 2), (1016, 3)], [7, 1010]))
set_option maxRecDepth 1000000 in
theorem vx_2282 : ai_valid ai_Tb cx_2282 := ai_chkH_ok (n := 30) (D := [cx_2020, cx_2262, cx_2029, cx_2037, cx_2264, cx_2276, cx_2274]) ai_TbK (ai_D1 vx_2020 (ai_D1 vx_2262 (ai_D1 vx_2029 (ai_D1 vx_2037 (ai_D1 vx_2264 (ai_D1 vx_2276 (ai_D1 vx_2274 ai_D0))))))) (by decide +kernel)
-- X8_copy
def cx_2283 : ai_C := (95, [.r 15, .r 105], [], none, ([(1015, 0), (1015, 1), (1015, 2), (1015, 3)], []))
set_option maxRecDepth 1000000 in
theorem vx_2283 : ai_valid ai_Tb cx_2283 := ai_chkH_ok (n := 18) (D := []) ai_TbK ai_D0 (by decide +kernel)
-- X1_open
def cx_2284 : ai_C := (20, [.r 6, .r 1, .r 105, .r 107, .i (-2147483648) 2147483647], [], none, ([(6, 3), (6, 4), (6, 5), (6, 6), (6, 12), (6, 13), (1015, 0), (1015, 1), (1015, 2), (1015, 3), (1016, 0), (1016, 1), (1016, 2), (1016, 3)], [7, 1010]))
set_option maxRecDepth 1000000 in
theorem vx_2284 : ai_valid ai_Tb cx_2284 := ai_chkH_ok (n := 30) (D := [cx_2020, cx_2262, cx_2031, cx_2027, cx_2264, cx_2283, cx_2261]) ai_TbK (ai_D1 vx_2020 (ai_D1 vx_2262 (ai_D1 vx_2031 (ai_D1 vx_2027 (ai_D1 vx_2264 (ai_D1 vx_2283 (ai_D1 vx_2261 ai_D0))))))) (by decide +kernel)
-- X1_open
def cx_2285 : ai_C := (20, [.r 6, .r 1, .r 105, .r 106, .i (-2147483648) 2147483647], [], none, ([(6, 3), (6, 4), (6, 5), (6, 6), (6, 12), (6, 13), (1015, 0), (1015, 1), (1015, 2), (1015, 3), (1016, 0), (1016, 1), (1016, 2), (1016, 3)], [7, 1010]))
set_option maxRecDepth 1000000 in
theorem vx_2285 : ai_valid ai_Tb cx_2285 := ai_chkH_ok (n := 30) (D := [cx_2020, cx_2262, cx_2031, cx_2029, cx_2264, cx_2283, cx_2266]) ai_TbK (ai_D1 vx_2020 (ai_D1 vx_2262 (ai_D1 vx_2031 (ai_D1 vx_2029 (ai_D1 vx_2264 (ai_D1 vx_2283 (ai_D1 vx_2266 ai_D0))))))) (by decide +kernel)
-- X1_open
def cx_2286 : ai_C := (20, [.r 6, .r 1, .r 105, .r 105, .i (-2147483648) 2147483647], [], none, ([(6, 3), (6, 4), (6, 5), (6, 6), (6, 12), (6, 13), (1015, 0), (1015, 1), (1015, 2), (1015, 3), (1016, 0), (1016, 1), (1016, 2), (1016, 3)], [7, 1010]))
set_option maxRecDepth 1000000 in
theorem vx_2286 : ai_valid ai_Tb cx_2286 := ai_chkH_ok (n := 30) (D := [cx_2020, cx_2262, cx_2031, cx_2264, cx_2283, cx_2268]) ai_TbK (ai_D1 vx_2020 (ai_D1 vx_2262 (ai_D1 vx_2031 (ai_D1 vx_2264 (ai_D1 vx_2283 (ai_D1 vx_2268 ai_D0)))))) (by decide +kernel)
-- X1_open
def cx_2287 : ai_C := (20, [.r 6, .r 1, .r 105, .r 104, .i (-2147483648) 2147483647], [], none, ([(6, 3), (6, 4), (6, 5), (6, 6), (6, 12), (6, 13), (1015, 0), (1015, 1), (1015, 2), (1015, 3), (1016, 0), (1016, 1), (1016, 2), (1016, 3)], [7, 1010]))
set_option maxRecDepth 1000000 in
theorem vx_2287 : ai_valid ai_Tb cx_2287 := ai_chkH_ok (n := 30) (D := [cx_2020, cx_2262, cx_2031, cx_2033, cx_2264, cx_2283, cx_2270]) ai_TbK (ai_D1 vx_2020 (ai_D1 vx_2262 (ai_D1 vx_2031 (ai_D1 vx_2033 (ai_D1 vx_2264 (ai_D1 vx_2283 (ai_D1 vx_2270 ai_D0))))))) (by decide +kernel)
-- X1_open
def cx_2288 : ai_C := (20, [.r 6, .r 1, .r 105, .r 103, .i (-2147483648) 2147483647], [], none, ([(6, 3), (6, 4), (6, 5), (6, 6), (6, 12), (6, 13), (1015, 0), (1015, 1), (1015, 2), (1015, 3), (1016, 0), (1016, 1), (1016, 2), (1016, 3)], [7, 1010]))
set_option maxRecDepth 1000000 in
theorem vx_2288 : ai_valid ai_Tb cx_2288 := ai_chkH_ok (n := 30) (D := [cx_2020, cx_2262, cx_2031, cx_2035, cx_2264, cx_2283, cx_2272]) ai_TbK (ai_D1 vx_2020 (ai_D1 vx_2262 (ai_D1 vx_2031 (ai_D1 vx_2035 (ai_D1 vx_2264 (ai_D1 vx_2283 (ai_D1 vx_2272 ai_D0))))))) (by decide +kernel)
-- X1_open
def cx_2289 : ai_C := (20, [.r 6, .r 1, .r 105, .r 102, .i (-2147483648) 2147483647], [], none, ([(6, 3), (6, 4), (6, 5), (6, 6), (6, 12), (6, 13), (1015, 0), (1015, 1), (1015, 2), (1015, 3), (1016, 0), (1016, 1), (1016, 2), (1016, 3)], [7, 1010]))
set_option maxRecDepth 1000000 in
theorem vx_2289 : ai_valid ai_Tb cx_2289 := ai_chkH_ok (n := 30) (D := [cx_2020, cx_2262, cx_2031, cx_2037, cx_2264, cx_2283, cx_2274]) ai_TbK (ai_D1 vx_2020 (ai_D1 vx_2262 (ai_D1 vx_2031 (ai_D1 vx_2037 (ai_D1 vx_2264 (ai_D1 vx_2283 (ai_D1 vx_2274 ai_D0))))))) (by decide +kernel)
-- X8_copy
def cx_2290 : ai_C := (95, [.r 15, .r 104], [], none, ([(1015, 0), (1015, 1), (1015, 2), (1015, 3)], []))
set_option maxRecDepth 1000000 in
theorem vx_2290 : ai_valid ai_Tb cx_2290 := ai_chkH_ok (n := 18) (D := []) ai_TbK ai_D0 (by decide +kernel)
-- X1_open
def cx_2291 : ai_C := (20, [.r 6, .r 1, .r 104, .r 107, .i (-2147483648) 2147483647], [], none, ([(6, 3), (6, 4), (6, 5), (6, 6), (6, 12), (6, 13), (1015, 0), (1015, 1), (1015, 2), (1015, 3), (1016, 0), (1016, 1), (1016, 2), (1016, 3)], [7, 1010]))
set_option maxRecDepth 1000000 in
theorem vx_2291 : ai_valid ai_Tb cx_2291 := ai_chkH_ok (n := 30) (D := [cx_2020, cx_2262, cx_2033, cx_2027, cx_2264, cx_2290, cx_2261]) ai_TbK (ai_D1 vx_2020 (ai_D1 vx_2262 (ai_D1 vx_2033 (ai_D1 vx_2027 (ai_D1 vx_2264 (ai_D1 vx_2290 (ai_D1 vx_2261 ai_D0))))))) (by decide +kernel)
-- X1_open
def cx_2292 : ai_C := (20, [.r 6, .r 1, .r 104, .r 106, .i (-2147483648) 2147483647], [], none, ([(6, 3), (6, 4), (6, 5), (6, 6), (6, 12), (6, 13), (1015, 0), (1015, 1), (1015, 2), (1015, 3), (1016, 0), (1016, 1), (1016, 2), (1016, 3)], [7, 1010]))
set_option maxRecDepth 1000000 in
theorem vx_2292 : ai_valid ai_Tb cx_2292 := ai_chkH_ok (n := 30) (D := [cx_2020, cx_2262, cx_2033, cx_2029, cx_2264, cx_2290, cx_2266]) ai_TbK (ai_D1 vx_2020 (ai_D1 vx_2262 (ai_D1 vx_2033 (ai_D1 vx_2029 (ai_D1 vx_2264 (ai_D1 vx_2290 (ai_D1 vx_2266 ai_D0))))))) (by decide +kernel)
-- X1_open
def cx_2293 : ai_C := (20, [.r 6, .r 1, .r 104, .r 105, .i (-2147483648) 2147483647], [], none, ([(6, 3), (6, 4), (6, 5), (6, 6), (6, 12), (6, 13), (1015, 0), (1015, 1), (1015, 2), (1015, 3), (1016, 0), (1016, 1), (1016, 2), (1016, 3)], [7, 1010]))
set_option maxRecDepth 1000000 in
theorem vx_2293 : ai_valid ai_Tb cx_2293 := ai_chkH_ok (n := 30) (D := [cx_2020, cx_2262, cx_2033, cx_2031, cx_2264, cx_2290, cx_2268]) ai_TbK (ai_D1 vx_2020 (ai_D1 vx_2262 (ai_D1 vx_2033 (ai_D1 vx_2031 (ai_D1 vx_2264 (ai_D1 vx_2290 (ai_D1 vx_2268 ai_D0))))))) (by decide +kernel)
-- X1_open
def cx_2294 : ai_C := (20, [.r 6, .r 1, .r 104, .r 104, .i (-2147483648) 2147483647], [], none, ([(6, 3), (6, 4), (6, 5), (6, 6), (6, 12), (6, 13), (1015, 0), (1015, 1), (1015, 2), (1015, 3), (1016, 0), (1016, 1), (1016, 2), (1016, 3)], [7, 1010]))
set_option maxRecDepth 1000000 in
theorem vx_2294 : ai_valid ai_Tb cx_2294 := ai_chkH_ok (n := 30) (D := [cx_2020, cx_2262, cx_2033, cx_2264, cx_2290, cx_2270]) ai_TbK (ai_D1 vx_2020 (ai_D1 vx_2262 (ai_D1 vx_2033 (ai_D1 vx_2264 (ai_D1 vx_2290 (ai_D1 vx_2270 ai_D0)))))) (by decide +kernel)
-- X1_open
def cx_2295 : ai_C := (20, [.r 6, .r 1, .r 104, .r 103, .i (-2147483648) 2147483647], [], none, ([(6, 3), (6, 4), (6, 5), (6, 6), (6, 12), (6, 13), (1015, 0), (1015, 1), (1015, 2), (1015, 3), (1016, 0), (1016, 1), (1016, 2), (1016, 3)], [7, 1010]))
set_option maxRecDepth 1000000 in
theorem vx_2295 : ai_valid ai_Tb cx_2295 := ai_chkH_ok (n := 30) (D := [cx_2020, cx_2262, cx_2033, cx_2035, cx_2264, cx_2290, cx_2272]) ai_TbK (ai_D1 vx_2020 (ai_D1 vx_2262 (ai_D1 vx_2033 (ai_D1 vx_2035 (ai_D1 vx_2264 (ai_D1 vx_2290 (ai_D1 vx_2272 ai_D0))))))) (by decide +kernel)
-- X1_open
def cx_2296 : ai_C := (20, [.r 6, .r 1, .r 104, .r 102, .i (-2147483648) 2147483647], [], none, ([(6, 3), (6, 4), (6, 5), (6, 6), (6, 12), (6, 13), (1015, 0), (1015, 1), (1015, 2), (1015, 3), (1016, 0), (1016, 1), (1016, 2), (1016, 3)], [7, 1010]))
set_option maxRecDepth 1000000 in
theorem vx_2296 : ai_valid ai_Tb cx_2296 := ai_chkH_ok (n := 30) (D := [cx_2020, cx_2262, cx_2033, cx_2037, cx_2264, cx_2290, cx_2274]) ai_TbK (ai_D1 vx_2020 (ai_D1 vx_2262 (ai_D1 vx_2033 (ai_D1 vx_2037 (ai_D1 vx_2264 (ai_D1 vx_2290 (ai_D1 vx_2274 ai_D0))))))) (by decide +kernel)
-- X8_copy
def cx_2297 : ai_C := (95, [.r 15, .r 103], [], none, ([(1015, 0), (1015, 1), (1015, 2), (1015, 3)], []))
set_option maxRecDepth 1000000 in
theorem vx_2297 : ai_valid ai_Tb cx_2297 := ai_chkH_ok (n := 18) (D := []) ai_TbK ai_D0 (by decide +kernel)
-- X1_open
def cx_2298 : ai_C := (20, [.r 6, .r 1, .r 103, .r 107, .i (-2147483648) 2147483647], [], none, ([(6, 3), (6, 4), (6, 5), (6, 6), (6, 12), (6, 13), (1015, 0), (1015, 1), (1015, 2), (1015, 3), (1016, 0), (1016, 1), (1016, 2), (1016, 3)], [7, 1010]))
set_option maxRecDepth 1000000 in
theorem vx_2298 : ai_valid ai_Tb cx_2298 := ai_chkH_ok (n := 30) (D := [cx_2020, cx_2262, cx_2035, cx_2027, cx_2264, cx_2297, cx_2261]) ai_TbK (ai_D1 vx_2020 (ai_D1 vx_2262 (ai_D1 vx_2035 (ai_D1 vx_2027 (ai_D1 vx_2264 (ai_D1 vx_2297 (ai_D1 vx_2261 ai_D0))))))) (by decide +kernel)
-- X1_open
def cx_2299 : ai_C := (20, [.r 6, .r 1, .r 103, .r 106, .i (-2147483648) 2147483647], [], none, ([(6, 3), (6, 4), (6, 5), (6, 6), (6, 12), (6, 13), (1015, 0), (1015, 1), (1015, 2), (1015, 3), (1016, 0), (1016, 1), (1016, 2), (1016, 3)], [7, 1010]))
set_option maxRecDepth 1000000 in
theorem vx_2299 : ai_valid ai_Tb cx_2299 := ai_chkH_ok (n := 30) (D := [cx_2020, cx_2262, cx_2035, cx_2029, cx_2264, cx_2297, cx_2266]) ai_TbK (ai_D1 vx_2020 (ai_D1 vx_2262 (ai_D1 vx_2035 (ai_D1 vx_2029 (ai_D1 vx_2264 (ai_D1 vx_2297 (ai_D1 vx_2266 ai_D0))))))) (by decide +kernel)
-- X1_open
def cx_2300 : ai_C := (20, [.r 6, .r 1, .r 103, .r 105, .i (-2147483648) 2147483647], [], none, ([(6, 3), (6, 4), (6, 5), (6, 6), (6, 12), (6, 13), (1015, 0), (1015, 1), (1015, 2), (1015, 3), (1016, 0), (1016, 1), (1016, 2), (1016, 3)], [7, 1010]))
set_option maxRecDepth 1000000 in
theorem vx_2300 : ai_valid ai_Tb cx_2300 := ai_chkH_ok (n := 30) (D := [cx_2020, cx_2262, cx_2035, cx_2031, cx_2264, cx_2297, cx_2268]) ai_TbK (ai_D1 vx_2020 (ai_D1 vx_2262 (ai_D1 vx_2035 (ai_D1 vx_2031 (ai_D1 vx_2264 (ai_D1 vx_2297 (ai_D1 vx_2268 ai_D0))))))) (by decide +kernel)
-- X1_open
def cx_2301 : ai_C := (20, [.r 6, .r 1, .r 103, .r 104, .i (-2147483648) 2147483647], [], none, ([(6, 3), (6, 4), (6, 5), (6, 6), (6, 12), (6, 13), (1015, 0), (1015, 1), (1015, 2), (1015, 3), (1016, 0), (1016, 1), (1016, 2), (1016, 3)], [7, 1010]))
set_option maxRecDepth 1000000 in
theorem vx_2301 : ai_valid ai_Tb cx_2301 := ai_chkH_ok (n := 30) (D := [cx_2020, cx_2262, cx_2035, cx_2033, cx_2264, cx_2297, cx_2270]) ai_TbK (ai_D1 vx_2020 (ai_D1 vx_2262 (ai_D1 vx_2035 (ai_D1 vx_2033 (ai_D1 vx_2264 (ai_D1 vx_2297 (ai_D1 vx_2270 ai_D0))))))) (by decide +kernel)
-- X1_open
def cx_2302 : ai_C := (20, [.r 6, .r 1, .r 103, .r 103, .i (-2147483648) 2147483647], [], none, ([(6, 3), (6, 4), (6, 5), (6, 6), (6, 12), (6, 13), (1015, 0), (1015, 1), (1015, 2), (1015, 3), (1016, 0), (1016, 1), (1016, 2), (1016, 3)], [7, 1010]))
set_option maxRecDepth 1000000 in
theorem vx_2302 : ai_valid ai_Tb cx_2302 := ai_chkH_ok (n := 30) (D := [cx_2020, cx_2262, cx_2035, cx_2264, cx_2297, cx_2272]) ai_TbK (ai_D1 vx_2020 (ai_D1 vx_2262 (ai_D1 vx_2035 (ai_D1 vx_2264 (ai_D1 vx_2297 (ai_D1 vx_2272 ai_D0)))))) (by decide +kernel)
-- X1_open
def cx_2303 : ai_C := (20, [.r 6, .r 1, .r 103, .r 102, .i (-2147483648) 2147483647], [], none, ([(6, 3), (6, 4), (6, 5), (6, 6), (6, 12), (6, 13), (1015, 0), (1015, 1), (1015, 2), (1015, 3), (1016, 0), (1016, 1), (1016, 2), (1016, 3)], [7, 1010]))
set_option maxRecDepth 1000000 in
theorem vx_2303 : ai_valid ai_Tb cx_2303 := ai_chkH_ok (n := 30) (D := [cx_2020, cx_2262, cx_2035, cx_2037, cx_2264, cx_2297, cx_2274]) ai_TbK (ai_D1 vx_2020 (ai_D1 vx_2262 (ai_D1 vx_2035 (ai_D1 vx_2037 (ai_D1 vx_2264 (ai_D1 vx_2297 (ai_D1 vx_2274 ai_D0))))))) (by decide +kernel)
-- X8_copy
def cx_2304 : ai_C := (95, [.r 15, .r 102], [], none, ([(1015, 0), (1015, 1), (1015, 2), (1015, 3)], []))
set_option maxRecDepth 1000000 in
theorem vx_2304 : ai_valid ai_Tb cx_2304 := ai_chkH_ok (n := 18) (D := []) ai_TbK ai_D0 (by decide +kernel)
-- X1_open
def cx_2305 : ai_C := (20, [.r 6, .r 1, .r 102, .r 107, .i (-2147483648) 2147483647], [], none, ([(6, 3), (6, 4), (6, 5), (6, 6), (6, 12), (6, 13), (1015, 0), (1015, 1), (1015, 2), (1015, 3), (1016, 0), (1016, 1), (1016, 2), (1016, 3)], [7, 1010]))
set_option maxRecDepth 1000000 in
theorem vx_2305 : ai_valid ai_Tb cx_2305 := ai_chkH_ok (n := 30) (D := [cx_2020, cx_2262, cx_2037, cx_2027, cx_2264, cx_2304, cx_2261]) ai_TbK (ai_D1 vx_2020 (ai_D1 vx_2262 (ai_D1 vx_2037 (ai_D1 vx_2027 (ai_D1 vx_2264 (ai_D1 vx_2304 (ai_D1 vx_2261 ai_D0))))))) (by decide +kernel)
-- X1_open
def cx_2306 : ai_C := (20, [.r 6, .r 1, .r 102, .r 106, .i (-2147483648) 2147483647], [], none, ([(6, 3), (6, 4), (6, 5), (6, 6), (6, 12), (6, 13), (1015, 0), (1015, 1), (1015, 2), (1015, 3), (1016, 0), (1016, 1), (1016, 2), (1016, 3)], [7, 1010]))
set_option maxRecDepth 1000000 in
theorem vx_2306 : ai_valid ai_Tb cx_2306 := ai_chkH_ok (n := 30) (D := [cx_2020, cx_2262, cx_2037, cx_2029, cx_2264, cx_2304, cx_2266]) ai_TbK (ai_D1 vx_2020 (ai_D1 vx_2262 (ai_D1 vx_2037 (ai_D1 vx_2029 (ai_D1 vx_2264 (ai_D1 vx_2304 (ai_D1 vx_2266 ai_D0))))))) (by decide +kernel)
-- X1_open
def cx_2307 : ai_C := (20, [.r 6, .r 1, .r 102, .r 105, .i (-2147483648) 2147483647], [], none, ([(6, 3), (6, 4), (6, 5), (6, 6), (6, 12), (6, 13), (1015, 0), (1015, 1), (1015, 2), (1015, 3), (1016, 0), (1016, 1), (1016, 2), (1016, 3)], [7, 1010]))
set_option maxRecDepth 1000000 in
theorem vx_2307 : ai_valid ai_Tb cx_2307 := ai_chkH_ok (n := 30) (D := [cx_2020, cx_2262, cx_2037, cx_2031, cx_2264, cx_2304, cx_2268]) ai_TbK (ai_D1 vx_2020 (ai_D1 vx_2262 (ai_D1 vx_2037 (ai_D1 vx_2031 (ai_D1 vx_2264 (ai_D1 vx_2304 (ai_D1 vx_2268 ai_D0))))))) (by decide +kernel)
-- X1_open
def cx_2308 : ai_C := (20, [.r 6, .r 1, .r 102, .r 104, .i (-2147483648) 2147483647], [], none, ([(6, 3), (6, 4), (6, 5), (6, 6), (6, 12), (6, 13), (1015, 0), (1015, 1), (1015, 2), (1015, 3), (1016, 0), (1016, 1), (1016, 2), (1016, 3)], [7, 1010]))
set_option maxRecDepth 1000000 in
theorem vx_2308 : ai_valid ai_Tb cx_2308 := ai_chkH_ok (n := 30) (D := [cx_2020, cx_2262, cx_2037, cx_2033, cx_2264, cx_2304, cx_2270]) ai_TbK (ai_D1 vx_2020 (ai_D1 vx_2262 (ai_D1 vx_2037 (ai_D1 vx_2033 (ai_D1 vx_2264 (ai_D1 vx_2304 (ai_D1 vx_2270 ai_D0))))))) (by decide +kernel)
-- X1_open
def cx_2309 : ai_C := (20, [.r 6, .r 1, .r 102, .r 103, .i (-2147483648) 2147483647], [], none, ([(6, 3), (6, 4), (6, 5), (6, 6), (6, 12), (6, 13), (1015, 0), (1015, 1), (1015, 2), (1015, 3), (1016, 0), (1016, 1), (1016, 2), (1016, 3)], [7, 1010]))
set_option maxRecDepth 1000000 in
theorem vx_2309 : ai_valid ai_Tb cx_2309 := ai_chkH_ok (n := 30) (D := [cx_2020, cx_2262, cx_2037, cx_2035, cx_2264, cx_2304, cx_2272]) ai_TbK (ai_D1 vx_2020 (ai_D1 vx_2262 (ai_D1 vx_2037 (ai_D1 vx_2035 (ai_D1 vx_2264 (ai_D1 vx_2304 (ai_D1 vx_2272 ai_D0))))))) (by decide +kernel)
-- X1_open
def cx_2310 : ai_C := (20, [.r 6, .r 1, .r 102, .r 102, .i (-2147483648) 2147483647], [], none, ([(6, 3), (6, 4), (6, 5), (6, 6), (6, 12), (6, 13), (1015, 0), (1015, 1), (1015, 2), (1015, 3), (1016, 0), (1016, 1), (1016, 2), (1016, 3)], [7, 1010]))
set_option maxRecDepth 1000000 in
theorem vx_2310 : ai_valid ai_Tb cx_2310 := ai_chkH_ok (n := 30) (D := [cx_2020, cx_2262, cx_2037, cx_2264, cx_2304, cx_2274]) ai_TbK (ai_D1 vx_2020 (ai_D1 vx_2262 (ai_D1 vx_2037 (ai_D1 vx_2264 (ai_D1 vx_2304 (ai_D1 vx_2274 ai_D0)))))) (by decide +kernel)
-- X1_number
def cx_2311 : ai_C := (14, [.r 6, .i (-2147483648) 2147483647, .i (-2147483648) 2147483647, .i (-2147483648) 2147483647], [], some [.i (-2147483648) 2147483647], ([], []))
set_option maxRecDepth 1000000 in
theorem vx_2311 : ai_valid ai_Tb cx_2311 := ai_chkH_ok (n := 26) (D := []) ai_TbK ai_D0 (by decide +kernel)
-- X1_floorAt
def cx_2312 : ai_C := (15, [.r 6, .i (-2147483648) 2147483647, .i (-2147483648) 2147483647], [], some [.i (-2147483648) 2147483647], ([], []))
set_option maxRecDepth 1000000 in
theorem vx_2312 : ai_valid ai_Tb cx_2312 := ai_chkH_ok (n := 7) (D := [cx_2311]) ai_TbK (ai_D1 vx_2311 ai_D0) (by decide +kernel)
-- X10_begin
def cx_2313 : ai_C := (115, [.r 0, .i (-2147483648) 2147483647, .i (-2147483648) 2147483647], [(46, [.r 0, .i 0 5, .i 0 5], [], (.n 3, .n 0, .n 8000000000)), (56, [.r 0, .i 0 5, .i 0 5], [], (.n 2, .n 0, .n 8000000000)), (88, [.r 0, .i 0 5, .i 0 5], [], (.n 1, .n 0, .n 8000000000))], some [.i (-2147483648) 2147483647], ([(6, 3), (6, 4), (6, 5), (6, 6), (6, 12), (6, 13), (23, 4), (23, 5), (28, 0), (28, 1), (28, 2), (28, 6), (28, 7), (29, 0), (29, 1), (29, 2), (29, 3), (29, 4), (29, 5), (29, 6), (29, 7), (29, 8), (29, 9), (29, 10), (29, 11), (29, 12), (29, 13), (29, 14), (29, 15), (29, 16), (29, 17), (29, 18), (29, 19), (29, 20), (29, 21), (29, 22), (29, 23), (30, 1), (33, 0), (33, 1), (33, 2), (33, 6), (33, 7), (34, 0), (34, 1), (34, 2), (34, 3), (34, 4), (34, 5), (34, 6), (34, 7), (34, 8), (34, 9), (34, 10), (34, 11), (34, 12), (34, 13), (34, 14), (34, 15), (34, 16), (34, 17), (34, 18), (34, 19), (34, 20), (34, 21), (34, 22), (34, 23), (35, 1), (38, 0), (38, 1), (38, 2), (38, 6), (38, 7), (39, 0), (39, 1), (39, 2), (39, 3), (39, 4), (39, 5), (39, 6), (39, 7), (39, 8), (39, 9), (39, 10), (39, 11), (39, 12), (39, 13), (39, 14), (39, 15), (39, 16), (39, 17), (39, 18), (39, 19), (39, 20), (39, 21), (39, 22), (39, 23), (40, 1), (43, 0), (43, 1), (43, 2), (43, 6), (43, 7), (44, 0), (44, 1), (44, 2), (44, 3), (44, 4), (44, 5), (44, 6), (44, 7), (44, 8), (44, 9), (44, 10), (44, 11), (44, 12), (44, 13), (44, 14), (44, 15), (44, 16), (44, 17), (44, 18), (44, 19), (44, 20), (44, 21), (44, 22), (44, 23), (45, 1), (48, 0), (48, 1), (48, 2), (48, 6), (48, 7), (49, 0), (49, 1), (49, 2), (49, 3), (49, 4), (49, 5), (49, 6), (49, 7), (49, 8), (49, 9), (49, 10), (49, 11), (49, 12), (49, 13), (49, 14), (49, 15), (49, 16), (49, 17), (49, 18), (49, 19), (49, 20), (49, 21), (49, 22), (49, 23), (50, 1), (53, 0), (53, 1), (53, 2), (53, 6), (53, 7), (54, 0), (54, 1), (54, 2), (54, 3), (54, 4), (54, 5), (54, 6), (54, 7), (54, 8), (54, 9), (54, 10), (54, 11), (54, 12), (54, 13), (54, 14), (54, 15), (54, 16), (54, 17), (54, 18), (54, 19), (54, 20), (54, 21), (54, 22), (54, 23), (55, 1), (58, 0), (58, 1), (58, 2), (58, 6), (58, 7), (59, 0), (59, 1), (59, 2), (59, 3), (59, 4), (59, 5), (59, 6), (59, 7), (59, 8), (59, 9), (59, 10), (59, 11), (59, 12), (59, 13), (59, 14), (59, 15), (59, 16), (59, 17), (59, 18), (59, 19), (59, 20), (59, 21), (59, 22), (59, 23), (60, 1), (63, 0), (63, 1), (63, 2), (63, 6), (63, 7), (64, 0), (64, 1), (64, 2), (64, 3), (64, 4), (64, 5), (64, 6), (64, 7), (64, 8), (64, 9), (64, 10), (64, 11), (64, 12), (64, 13), (64, 14), (64, 15), (64, 16), (64, 17), (64, 18), (64, 19), (64, 20), (64, 21), (64, 22), (64, 23), (65, 1), (78, 1), (79, 1), (79, 3), (1015, 0), (1015, 1), (1015, 2), (1015, 3), (1016, 0), (1016, 1), (1016, 2), (1016, 3)], [7, 25, 31, 32, 36, 37, 41, 42, 46, 47, 51, 52, 56, 57, 61, 62, 66, 67, 1010]))
set_option maxRecDepth 1000000 in
theorem vx_2313 : ai_valid ai_Tb cx_2313 := ai_chkH_ok (n := 48) (D := [cx_2312, cx_2214, cx_2217, cx_2220, cx_2223, cx_2226, cx_2229, cx_2230, cx_2231, cx_2232, cx_2233, cx_2234, cx_2235, cx_2236, cx_2237, cx_2238, cx_2239, cx_2240, cx_2241, cx_2242, cx_2243, cx_2244, cx_2245, cx_2246, cx_2247, cx_2248, cx_2249, cx_2250, cx_2251, cx_2252, cx_2253, cx_2254, cx_2255, cx_2256, cx_2257, cx_2258, cx_2259, cx_2265, cx_2267, cx_2269, cx_2271, cx_2273, cx_2275, cx_2277, cx_2278, cx_2279, cx_2280, cx_2281, cx_2282, cx_2284, cx_2285, cx_2286, cx_2287, cx_2288, cx_2289, cx_2291, cx_2292, cx_2293, cx_2294, cx_2295, cx_2296, cx_2298, cx_2299, cx_2300, cx_2301, cx_2302, cx_2303, cx_2305, cx_2306, cx_2307, cx_2308, cx_2309, cx_2310, cx_2012]) ai_TbK (ai_D1 vx_2312 (ai_D1 vx_2214 (ai_D1 vx_2217 (ai_D1 vx_2220 (ai_D1 vx_2223 (ai_D1 vx_2226 (ai_D1 vx_2229 (ai_D1 vx_2230 (ai_D1 vx_2231 (ai_D1 vx_2232 (ai_D1 vx_2233 (ai_D1 vx_2234 (ai_D1 vx_2235 (ai_D1 vx_2236 (ai_D1 vx_2237 (ai_D1 vx_2238 (ai_D1 vx_2239 (ai_D1 vx_2240 (ai_D1 vx_2241 (ai_D1 vx_2242 (ai_D1 vx_2243 (ai_D1 vx_2244 (ai_D1 vx_2245 (ai_D1 vx_2246 (ai_D1 vx_2247 (ai_D1 vx_2248 (ai_D1 vx_2249 (ai_D1 vx_2250 (ai_D1 vx_2251 (ai_D1 vx_2252 (ai_D1 vx_2253 (ai_D1 vx_2254 (ai_D1 vx_2255 (ai_D1 vx_2256 (ai_D1 vx_2257 (ai_D1 vx_2258 (ai_D1 vx_2259 (ai_D1 vx_2265 (ai_D1 vx_2267 (ai_D1 vx_2269 (ai_D1 vx_2271 (ai_D1 vx_2273 (ai_D1 vx_2275 (ai_D1 vx_2277 (ai_D1 vx_2278 (ai_D1 vx_2279 (ai_D1 vx_2280 (ai_D1 vx_2281 (ai_D1 vx_2282 (ai_D1 vx_2284 (ai_D1 vx_2285 (ai_D1 vx_2286 (ai_D1 vx_2287 (ai_D1 vx_2288 (ai_D1 vx_2289 (ai_D1 vx_2291 (ai_D1 vx_2292 (ai_D1 vx_2293 (ai_D1 vx_2294 (ai_D1 vx_2295 (ai_D1 vx_2296 (ai_D1 vx_2298 (ai_D1 vx_2299 (ai_D1 vx_2300 (ai_D1 vx_2301 (ai_D1 vx_2302 (ai_D1 vx_2303 (ai_D1 vx_2305 (ai_D1 vx_2306 (ai_D1 vx_2307 (ai_D1 vx_2308 (ai_D1 vx_2309 (ai_D1 vx_2310 (ai_D1 vx_2012 ai_D0)))))))))))))))))))))))))))))))))))))))))))))))))))))))))))))))))))))))))) (by decide +kernel)
-- X1_isOn
def cx_2314 : ai_C := (11, [.r 6], [], some [.i 0 1], ([], []))
set_option maxRecDepth 1000000 in
theorem vx_2314 : ai_valid ai_Tb cx_2314 := ai_chkH_ok (n := 8) (D := []) ai_TbK ai_D0 (by decide +kernel)
-- X1_isWhole
def cx_2315 : ai_C := (24, [.r 6, .i (-2147483648) 2147483647], [], some [.i 0 1], ([], []))
set_option maxRecDepth 1000000 in
theorem vx_2315 : ai_valid ai_Tb cx_2315 := ai_chkH_ok (n := 26) (D := [cx_2311]) ai_TbK (ai_D1 vx_2311 ai_D0) (by decide +kernel)
-- X1_ends
def cx_2316 : ai_C := (23, [.r 6], [], some [.i 0 1], ([], []))
set_option maxRecDepth 1000000 in
theorem vx_2316 : ai_valid ai_Tb cx_2316 := ai_chkH_ok (n := 15) (D := [cx_2315]) ai_TbK (ai_D1 vx_2315 ai_D0) (by decide +kernel)
-- X1_lay
def cx_2317 : ai_C := (16, [.r 6, .i (-2147483648) 2147483647, .i (-2147483648) 2147483647, .r 13], [], none, ([(1013, 0), (1013, 1), (1013, 2), (1013, 3)], []))
set_option maxRecDepth 1000000 in
theorem vx_2317 : ai_valid ai_Tb cx_2317 := ai_chkH_ok (n := 52) (D := []) ai_TbK ai_D0 (by decide +kernel)
-- X1_lay
def cx_2318 : ai_C := (16, [.r 6, .i (-2147483648) 2147483647, .i (-2147483648) 2147483647, .r 14], [], none, ([(1014, 0), (1014, 1), (1014, 2), (1014, 3)], []))
set_option maxRecDepth 1000000 in
theorem vx_2318 : ai_valid ai_Tb cx_2318 := ai_chkH_ok (n := 52) (D := []) ai_TbK ai_D0 (by decide +kernel)
-- X2_signOfDifference
def cx_2319 : ai_C := (48, [.r 1, .r 13, .r 14], [], some [.i (-1) 1], ([], []))
set_option maxRecDepth 1000000 in
theorem vx_2319 : ai_valid ai_Tb cx_2319 := ai_chkH_ok (n := 37) (D := [cx_2025]) ai_TbK (ai_D1 vx_2025 ai_D0) (by decide +kernel)
-- X8_copy
def cx_2320 : ai_C := (95, [.r 15, .r 13], [], none, ([(1015, 0), (1015, 1), (1015, 2), (1015, 3)], []))
set_option maxRecDepth 1000000 in
theorem vx_2320 : ai_valid ai_Tb cx_2320 := ai_chkH_ok (n := 18) (D := []) ai_TbK ai_D0 (by decide +kernel)
-- X8_copy
def cx_2321 : ai_C := (95, [.r 13, .r 14], [], none, ([(1013, 0), (1013, 1), (1013, 2), (1013, 3)], []))
set_option maxRecDepth 1000000 in
theorem vx_2321 : ai_valid ai_Tb cx_2321 := ai_chkH_ok (n := 18) (D := []) ai_TbK ai_D0 (by decide +kernel)
-- X8_copy
def cx_2322 : ai_C := (95, [.r 14, .r 15], [], none, ([(1014, 0), (1014, 1), (1014, 2), (1014, 3)], []))
set_option maxRecDepth 1000000 in
theorem vx_2322 : ai_valid ai_Tb cx_2322 := ai_chkH_ok (n := 18) (D := []) ai_TbK ai_D0 (by decide +kernel)
-- X1_layRests
def cx_2323 : ai_C := (26, [.r 6, .r 1], [], none, ([(6, 14), (1013, 0), (1013, 1), (1013, 2), (1013, 3), (1014, 0), (1014, 1), (1014, 2), (1014, 3), (1015, 0), (1015, 1), (1015, 2), (1015, 3)], []))
set_option maxRecDepth 1000000 in
theorem vx_2323 : ai_valid ai_Tb cx_2323 := ai_chkH_ok (n := 87) (D := [cx_2312, cx_2317, cx_2318, cx_2319, cx_2320, cx_2321, cx_2322]) ai_TbK (ai_D1 vx_2312 (ai_D1 vx_2317 (ai_D1 vx_2318 (ai_D1 vx_2319 (ai_D1 vx_2320 (ai_D1 vx_2321 (ai_D1 vx_2322 ai_D0))))))) (by decide +kernel)
-- X8_isZero
def cx_2324 : ai_C := (101, [.r 13], [], some [.i 0 1], ([], []))
set_option maxRecDepth 1000000 in
theorem vx_2324 : ai_valid ai_Tb cx_2324 := ai_chkH_ok (n := 19) (D := []) ai_TbK ai_D0 (by decide +kernel)
-- X4_under
def cx_2325 : ai_C := (73, [.r 2, .r 14, .i (-2147483648) 2147483647], [], some [.l (-9223372036854775808) 9223372036854775807], ([], []))
set_option maxRecDepth 1000000 in
theorem vx_2325 : ai_valid ai_Tb cx_2325 := ai_chkH_ok (n := 25) (D := [cx_2054]) ai_TbK (ai_D1 vx_2054 ai_D0) (by decide +kernel)
-- X8_put
def cx_2326 : ai_C := (93, [.r 15, .l (-9223372036854775808) 9223372036854775807, .l (-9223372036854775808) 9223372036854775807, .l (-9223372036854775808) 9223372036854775807, .l (-9223372036854775808) 9223372036854775807], [], none, ([(1015, 0), (1015, 1), (1015, 2), (1015, 3)], []))
set_option maxRecDepth 1000000 in
theorem vx_2326 : ai_valid ai_Tb cx_2326 := ai_chkH_ok (n := 60) (D := [cx_2013]) ai_TbK (ai_D1 vx_2013 ai_D0) (by decide +kernel)
-- X2_divide
def cx_2327 : ai_C := (52, [.r 1, .r 14, .r 13, .r 15], [], none, ([(1015, 0), (1015, 1), (1015, 2), (1015, 3)], [1003]))
set_option maxRecDepth 1000000 in
theorem vx_2327 : ai_valid ai_Tb cx_2327 := ai_chkH_ok (n := 62) (D := [cx_2053, cx_2057, cx_2058, cx_2325, cx_2326]) ai_TbK (ai_D1 vx_2053 (ai_D1 vx_2057 (ai_D1 vx_2058 (ai_D1 vx_2325 (ai_D1 vx_2326 ai_D0))))) (by decide +kernel)
-- X8_put
def cx_2328 : ai_C := (93, [.r 16, .l (-9223372036854775808) 9223372036854775807, .l (-9223372036854775808) 9223372036854775807, .l (-9223372036854775808) 9223372036854775807, .l (-9223372036854775808) 9223372036854775807], [], none, ([(1016, 0), (1016, 1), (1016, 2), (1016, 3)], []))
set_option maxRecDepth 1000000 in
theorem vx_2328 : ai_valid ai_Tb cx_2328 := ai_chkH_ok (n := 60) (D := [cx_2013]) ai_TbK (ai_D1 vx_2013 ai_D0) (by decide +kernel)
-- X4_under
def cx_2329 : ai_C := (73, [.r 2, .r 16, .i (-2147483648) 2147483647], [], some [.l (-9223372036854775808) 9223372036854775807], ([], []))
set_option maxRecDepth 1000000 in
theorem vx_2329 : ai_valid ai_Tb cx_2329 := ai_chkH_ok (n := 25) (D := [cx_2054]) ai_TbK (ai_D1 vx_2054 ai_D0) (by decide +kernel)
-- X2_divide
def cx_2330 : ai_C := (52, [.r 1, .r 16, .r 13, .r 16], [], none, ([(1016, 0), (1016, 1), (1016, 2), (1016, 3)], [1003]))
set_option maxRecDepth 1000000 in
theorem vx_2330 : ai_valid ai_Tb cx_2330 := ai_chkH_ok (n := 62) (D := [cx_2053, cx_2057, cx_2058, cx_2329, cx_2328]) ai_TbK (ai_D1 vx_2053 (ai_D1 vx_2057 (ai_D1 vx_2058 (ai_D1 vx_2329 (ai_D1 vx_2328 ai_D0))))) (by decide +kernel)
-- X8_canBe
def cx_2331 : ai_C := (99, [.r 15], [], some [.i 0 1], ([], []))
set_option maxRecDepth 1000000 in
theorem vx_2331 : ai_valid ai_Tb cx_2331 := ai_chkH_ok (n := 26) (D := [cx_2040]) ai_TbK (ai_D1 vx_2040 ai_D0) (by decide +kernel)
-- X8_canBe
def cx_2332 : ai_C := (99, [.r 16], [], some [.i 0 1], ([], []))
set_option maxRecDepth 1000000 in
theorem vx_2332 : ai_valid ai_Tb cx_2332 := ai_chkH_ok (n := 26) (D := [cx_2040]) ai_TbK (ai_D1 vx_2040 ai_D0) (by decide +kernel)
-- X2_signLess
def cx_2333 : ai_C := (47, [.r 1, .r 15, .l (-9223372036854775808) 9223372036854775807, .l (-9223372036854775808) 9223372036854775807], [], some [.i (-1) 1], ([], []))
set_option maxRecDepth 1000000 in
theorem vx_2333 : ai_valid ai_Tb cx_2333 := ai_chkH_ok (n := 21) (D := [cx_2025]) ai_TbK (ai_D1 vx_2025 ai_D0) (by decide +kernel)
-- X2_floor
def cx_2334 : ai_C := (49, [.r 1, .r 15], [(11, [.r 1, .r 15, .i (-2147483648) 2147483647, .i (-2147483648) 2147483647, .i 0 13, .u], [], (.v 4 13, .n 8000000000, .n 8000000000))], some [.i (-2147483648) 2147483647], ([], []))
set_option maxRecDepth 1000000 in
theorem vx_2334 : ai_valid ai_Tb cx_2334 := ai_chkH_ok (n := 23) (D := [cx_2333]) ai_TbK (ai_D1 vx_2333 ai_D0) (by decide +kernel)
-- X2_signLess
def cx_2335 : ai_C := (47, [.r 1, .r 16, .l (-9223372036854775808) 9223372036854775807, .l (-9223372036854775808) 9223372036854775807], [], some [.i (-1) 1], ([], []))
set_option maxRecDepth 1000000 in
theorem vx_2335 : ai_valid ai_Tb cx_2335 := ai_chkH_ok (n := 21) (D := [cx_2025]) ai_TbK (ai_D1 vx_2025 ai_D0) (by decide +kernel)
-- X2_floor
def cx_2336 : ai_C := (49, [.r 1, .r 16], [(11, [.r 1, .r 16, .i (-2147483648) 2147483647, .i (-2147483648) 2147483647, .i 0 13, .u], [], (.v 4 13, .n 8000000000, .n 8000000000))], some [.i (-2147483648) 2147483647], ([], []))
set_option maxRecDepth 1000000 in
theorem vx_2336 : ai_valid ai_Tb cx_2336 := ai_chkH_ok (n := 23) (D := [cx_2335]) ai_TbK (ai_D1 vx_2335 ai_D0) (by decide +kernel)
-- X4_times
def cx_2337 : ai_C := (68, [.i (-2147483648) 2147483647, .l (-9223372036854775808) 9223372036854775807], [], some [.l (-9223372036854775808) 9223372036854775807], ([], []))
set_option maxRecDepth 1000000 in
theorem vx_2337 : ai_valid ai_Tb cx_2337 := ai_chkH_ok (n := 19) (D := []) ai_TbK ai_D0 (by decide +kernel)
-- X4_plus
def cx_2338 : ai_C := (67, [.l (-9223372036854775808) 9223372036854775807, .l (-9223372036854775808) 9223372036854775807], [], some [.l (-9223372036854775808) 9223372036854775807], ([], []))
set_option maxRecDepth 1000000 in
theorem vx_2338 : ai_valid ai_Tb cx_2338 := ai_chkH_ok (n := 19) (D := []) ai_TbK ai_D0 (by decide +kernel)
-- X4_follow
def cx_2339 : ai_C := (66, [.r 11, .i (-2147483648) 2147483647, .i (-2147483648) 2147483647, .i (-2147483648) 2147483647], [], none, ([], [1012]))
set_option maxRecDepth 1000000 in
theorem vx_2339 : ai_valid ai_Tb cx_2339 := ai_chkH_ok (n := 178) (D := [cx_2338, cx_2337]) ai_TbK (ai_D1 vx_2338 (ai_D1 vx_2337 ai_D0)) (by decide +kernel)
-- X4_isBeyond
def cx_2340 : ai_C := (69, [.r 11], [(2, [.r 11, .i 0 9], [], (.v 1 9, .n 8000000000, .n 8000000000))], some [.i 0 1], ([], []))
set_option maxRecDepth 1000000 in
theorem vx_2340 : ai_valid ai_Tb cx_2340 := ai_chkH_ok (n := 14) (D := []) ai_TbK ai_D0 (by decide +kernel)
-- X1_prepare
def cx_2341 : ai_C := (25, [.r 6, .r 1], [(17, [.r 6, .r 1], [], (.n 10, .n 0, .n 8000000000)), (34, [.r 6, .r 1], [(6, 4, 0, 59)], (.n 9, .n 0, .n 8000000000)), (47, [.r 6, .r 1], [(6, 4, 0, 59)], (.n 8, .n 0, .n 8000000000)), (63, [.r 6, .r 1], [(6, 4, 0, 59)], (.n 7, .n 0, .n 8000000000)), (74, [.r 6, .r 1], [(6, 4, 0, 59)], (.n 6, .n 0, .n 8000000000)), (90, [.r 6, .r 1], [(6, 4, 0, 59)], (.n 5, .n 0, .n 8000000000)), (113, [.r 6, .r 1], [(6, 4, 0, 59)], (.n 4, .n 0, .n 8000000000)), (137, [.r 6, .r 1], [(6, 4, 0, 59)], (.n 3, .n 0, .n 8000000000)), (158, [.r 6, .r 1], [(6, 4, 0, 59), (6, 12, (-2147483648), 99), (6, 13, (-2147483648), 99)], (.n 2, .n 0, .n 8000000000)), (169, [.r 6, .r 1], [(6, 4, 0, 59), (6, 12, (-2147483648), 99), (6, 13, (-2147483648), 99)], (.n 1, .n 0, .n 8000000000))], some [.i (-5) 0], ([(6, 12), (6, 13), (6, 14), (1013, 0), (1013, 1), (1013, 2), (1013, 3), (1014, 0), (1014, 1), (1014, 2), (1014, 3), (1015, 0), (1015, 1), (1015, 2), (1015, 3), (1016, 0), (1016, 1), (1016, 2), (1016, 3)], [1003, 1012]))
set_option maxRecDepth 1000000 in
theorem vx_2341 : ai_valid ai_Tb cx_2341 := ai_chkH_ok (n := 23) (D := [cx_2314, cx_2312, cx_2316, cx_2323, cx_2334, cx_2336, cx_2327, cx_2330, cx_2339, cx_2340, cx_2328, cx_2331, cx_2332, cx_2324]) ai_TbK (ai_D1 vx_2314 (ai_D1 vx_2312 (ai_D1 vx_2316 (ai_D1 vx_2323 (ai_D1 vx_2334 (ai_D1 vx_2336 (ai_D1 vx_2327 (ai_D1 vx_2330 (ai_D1 vx_2339 (ai_D1 vx_2340 (ai_D1 vx_2328 (ai_D1 vx_2331 (ai_D1 vx_2332 (ai_D1 vx_2324 ai_D0)))))))))))))) (by decide +kernel)
-- X1_isLikeLast
def cx_2342 : ai_C := (30, [.r 6, .i (-2147483648) 2147483647], [(2, [.r 6, .i (-2147483648) 2147483647, .i 0 10], [], (.v 2 10, .n 8000000000, .n 8000000000))], some [.i 0 1], ([], []))
set_option maxRecDepth 1000000 in
theorem vx_2342 : ai_valid ai_Tb cx_2342 := ai_chkH_ok (n := 19) (D := [cx_2311]) ai_TbK (ai_D1 vx_2311 ai_D0) (by decide +kernel)
-- X1_findPeriod
def cx_2343 : ai_C := (29, [.r 6], [], none, ([(6, 5), (6, 6)], []))
set_option maxRecDepth 1000000 in
theorem vx_2343 : ai_valid ai_Tb cx_2343 := ai_chkH_ok (n := 670) (D := [cx_2342]) ai_TbK (ai_D1 vx_2342 ai_D0) (by decide +kernel)
-- X1_take
def cx_2344 : ai_C := (27, [.r 6], [], none, ([(6, 4), (6, 5), (6, 6)], [7, 8, 1010]))
set_option maxRecDepth 1000000 in
theorem vx_2344 : ai_valid ai_Tb cx_2344 := ai_chkH_ok (n := 45) (D := [cx_2262, cx_2343]) ai_TbK (ai_D1 vx_2262 (ai_D1 vx_2343 ai_D0)) (by decide +kernel)
-- X10_step
def cx_2345 : ai_C := (116, [.r 0], [], some [.i (-5) 60], ([(6, 4), (6, 5), (6, 6), (6, 12), (6, 13), (6, 14), (23, 4), (23, 5), (28, 0), (28, 1), (28, 2), (28, 6), (28, 7), (29, 0), (29, 1), (29, 2), (29, 3), (29, 4), (29, 5), (29, 6), (29, 7), (29, 8), (29, 9), (29, 10), (29, 11), (29, 12), (29, 13), (29, 14), (29, 15), (29, 16), (29, 17), (29, 18), (29, 19), (29, 20), (29, 21), (29, 22), (29, 23), (30, 1), (33, 0), (33, 1), (33, 2), (33, 6), (33, 7), (34, 0), (34, 1), (34, 2), (34, 3), (34, 4), (34, 5), (34, 6), (34, 7), (34, 8), (34, 9), (34, 10), (34, 11), (34, 12), (34, 13), (34, 14), (34, 15), (34, 16), (34, 17), (34, 18), (34, 19), (34, 20), (34, 21), (34, 22), (34, 23), (35, 1), (38, 0), (38, 1), (38, 2), (38, 6), (38, 7), (39, 0), (39, 1), (39, 2), (39, 3), (39, 4), (39, 5), (39, 6), (39, 7), (39, 8), (39, 9), (39, 10), (39, 11), (39, 12), (39, 13), (39, 14), (39, 15), (39, 16), (39, 17), (39, 18), (39, 19), (39, 20), (39, 21), (39, 22), (39, 23), (40, 1), (43, 0), (43, 1), (43, 2), (43, 6), (43, 7), (44, 0), (44, 1), (44, 2), (44, 3), (44, 4), (44, 5), (44, 6), (44, 7), (44, 8), (44, 9), (44, 10), (44, 11), (44, 12), (44, 13), (44, 14), (44, 15), (44, 16), (44, 17), (44, 18), (44, 19), (44, 20), (44, 21), (44, 22), (44, 23), (45, 1), (48, 0), (48, 1), (48, 2), (48, 6), (48, 7), (49, 0), (49, 1), (49, 2), (49, 3), (49, 4), (49, 5), (49, 6), (49, 7), (49, 8), (49, 9), (49, 10), (49, 11), (49, 12), (49, 13), (49, 14), (49, 15), (49, 16), (49, 17), (49, 18), (49, 19), (49, 20), (49, 21), (49, 22), (49, 23), (50, 1), (53, 0), (53, 1), (53, 2), (53, 6), (53, 7), (54, 0), (54, 1), (54, 2), (54, 3), (54, 4), (54, 5), (54, 6), (54, 7), (54, 8), (54, 9), (54, 10), (54, 11), (54, 12), (54, 13), (54, 14), (54, 15), (54, 16), (54, 17), (54, 18), (54, 19), (54, 20), (54, 21), (54, 22), (54, 23), (55, 1), (58, 0), (58, 1), (58, 2), (58, 6), (58, 7), (59, 0), (59, 1), (59, 2), (59, 3), (59, 4), (59, 5), (59, 6), (59, 7), (59, 8), (59, 9), (59, 10), (59, 11), (59, 12), (59, 13), (59, 14), (59, 15), (59, 16), (59, 17), (59, 18), (59, 19), (59, 20), (59, 21), (59, 22), (59, 23), (60, 1), (63, 0), (63, 1), (63, 2), (63, 6), (63, 7), (64, 0), (64, 1), (64, 2), (64, 3), (64, 4), (64, 5), (64, 6), (64, 7), (64, 8), (64, 9), (64, 10), (64, 11), (64, 12), (64, 13), (64, 14), (64, 15), (64, 16), (64, 17), (64, 18), (64, 19), (64, 20), (64, 21), (64, 22), (64, 23), (65, 1), (78, 1), (1013, 0), (1013, 1), (1013, 2), (1013, 3), (1014, 0), (1014, 1), (1014, 2), (1014, 3), (1015, 0), (1015, 1), (1015, 2), (1015, 3), (1016, 0), (1016, 1), (1016, 2), (1016, 3)], [7, 8, 25, 31, 32, 36, 37, 41, 42, 46, 47, 51, 52, 56, 57, 61, 62, 66, 67, 79, 1003, 1010, 1012]))
set_option maxRecDepth 1000000 in
theorem vx_2345 : ai_valid ai_Tb cx_2345 := ai_chkH_ok (n := 35) (D := [cx_2341, cx_2344, cx_2012]) ai_TbK (ai_D1 vx_2341 (ai_D1 vx_2344 (ai_D1 vx_2012 ai_D0))) (by decide +kernel)
-- X1_hasPeriod
def cx_2346 : ai_C := (12, [.r 6], [], some [.i 0 1], ([], []))
set_option maxRecDepth 1000000 in
theorem vx_2346 : ai_valid ai_Tb cx_2346 := ai_chkH_ok (n := 11) (D := [cx_2314]) ai_TbK (ai_D1 vx_2314 ai_D0) (by decide +kernel)
-- X10_go
def cx_2347 : ai_C := (117, [.r 0, .i (-2147483648) 2147483647], [(65, [.r 0, .i 1 60, .i 0 0, .i 0 1, .i (-2147483648) 2147483647, .i 0 60], [], (.v 5 60, .n 8000000000, .n 8000000000))], some [.i (-2147483648) 2147483647], ([(6, 4), (6, 5), (6, 6), (6, 12), (6, 13), (6, 14), (23, 4), (23, 5), (28, 0), (28, 1), (28, 2), (28, 6), (28, 7), (29, 0), (29, 1), (29, 2), (29, 3), (29, 4), (29, 5), (29, 6), (29, 7), (29, 8), (29, 9), (29, 10), (29, 11), (29, 12), (29, 13), (29, 14), (29, 15), (29, 16), (29, 17), (29, 18), (29, 19), (29, 20), (29, 21), (29, 22), (29, 23), (30, 1), (33, 0), (33, 1), (33, 2), (33, 6), (33, 7), (34, 0), (34, 1), (34, 2), (34, 3), (34, 4), (34, 5), (34, 6), (34, 7), (34, 8), (34, 9), (34, 10), (34, 11), (34, 12), (34, 13), (34, 14), (34, 15), (34, 16), (34, 17), (34, 18), (34, 19), (34, 20), (34, 21), (34, 22), (34, 23), (35, 1), (38, 0), (38, 1), (38, 2), (38, 6), (38, 7), (39, 0), (39, 1), (39, 2), (39, 3), (39, 4), (39, 5), (39, 6), (39, 7), (39, 8), (39, 9), (39, 10), (39, 11), (39, 12), (39, 13), (39, 14), (39, 15), (39, 16), (39, 17), (39, 18), (39, 19), (39, 20), (39, 21), (39, 22), (39, 23), (40, 1), (43, 0), (43, 1), (43, 2), (43, 6), (43, 7), (44, 0), (44, 1), (44, 2), (44, 3), (44, 4), (44, 5), (44, 6), (44, 7), (44, 8), (44, 9), (44, 10), (44, 11), (44, 12), (44, 13), (44, 14), (44, 15), (44, 16), (44, 17), (44, 18), (44, 19), (44, 20), (44, 21), (44, 22), (44, 23), (45, 1), (48, 0), (48, 1), (48, 2), (48, 6), (48, 7), (49, 0), (49, 1), (49, 2), (49, 3), (49, 4), (49, 5), (49, 6), (49, 7), (49, 8), (49, 9), (49, 10), (49, 11), (49, 12), (49, 13), (49, 14), (49, 15), (49, 16), (49, 17), (49, 18), (49, 19), (49, 20), (49, 21), (49, 22), (49, 23), (50, 1), (53, 0), (53, 1), (53, 2), (53, 6), (53, 7), (54, 0), (54, 1), (54, 2), (54, 3), (54, 4), (54, 5), (54, 6), (54, 7), (54, 8), (54, 9), (54, 10), (54, 11), (54, 12), (54, 13), (54, 14), (54, 15), (54, 16), (54, 17), (54, 18), (54, 19), (54, 20), (54, 21), (54, 22), (54, 23), (55, 1), (58, 0), (58, 1), (58, 2), (58, 6), (58, 7), (59, 0), (59, 1), (59, 2), (59, 3), (59, 4), (59, 5), (59, 6), (59, 7), (59, 8), (59, 9), (59, 10), (59, 11), (59, 12), (59, 13), (59, 14), (59, 15), (59, 16), (59, 17), (59, 18), (59, 19), (59, 20), (59, 21), (59, 22), (59, 23), (60, 1), (63, 0), (63, 1), (63, 2), (63, 6), (63, 7), (64, 0), (64, 1), (64, 2), (64, 3), (64, 4), (64, 5), (64, 6), (64, 7), (64, 8), (64, 9), (64, 10), (64, 11), (64, 12), (64, 13), (64, 14), (64, 15), (64, 16), (64, 17), (64, 18), (64, 19), (64, 20), (64, 21), (64, 22), (64, 23), (65, 1), (78, 1), (1013, 0), (1013, 1), (1013, 2), (1013, 3), (1014, 0), (1014, 1), (1014, 2), (1014, 3), (1015, 0), (1015, 1), (1015, 2), (1015, 3), (1016, 0), (1016, 1), (1016, 2), (1016, 3)], [7, 8, 25, 31, 32, 36, 37, 41, 42, 46, 47, 51, 52, 56, 57, 61, 62, 66, 67, 79, 1003, 1010, 1012]))
set_option maxRecDepth 1000000 in
theorem vx_2347 : ai_valid ai_Tb cx_2347 := ai_chkH_ok (n := 41) (D := [cx_2346, cx_2341, cx_2344, cx_2012]) ai_TbK (ai_D1 vx_2346 (ai_D1 vx_2341 (ai_D1 vx_2344 (ai_D1 vx_2012 ai_D0)))) (by decide +kernel)
-- X1_lay
def cx_2348 : ai_C := (16, [.r 6, .i (-2147483648) 2147483647, .i (-2147483648) 2147483647, .r 107], [], none, ([(1107, 0), (1107, 1), (1107, 2), (1107, 3)], []))
set_option maxRecDepth 1000000 in
theorem vx_2348 : ai_valid ai_Tb cx_2348 := ai_chkH_ok (n := 52) (D := []) ai_TbK ai_D0 (by decide +kernel)
-- X1_lay
def cx_2349 : ai_C := (16, [.r 6, .i (-2147483648) 2147483647, .i (-2147483648) 2147483647, .r 106], [], none, ([(1106, 0), (1106, 1), (1106, 2), (1106, 3)], []))
set_option maxRecDepth 1000000 in
theorem vx_2349 : ai_valid ai_Tb cx_2349 := ai_chkH_ok (n := 52) (D := []) ai_TbK ai_D0 (by decide +kernel)
-- X1_lay
def cx_2350 : ai_C := (16, [.r 6, .i (-2147483648) 2147483647, .i (-2147483648) 2147483647, .r 105], [], none, ([(1105, 0), (1105, 1), (1105, 2), (1105, 3)], []))
set_option maxRecDepth 1000000 in
theorem vx_2350 : ai_valid ai_Tb cx_2350 := ai_chkH_ok (n := 52) (D := []) ai_TbK ai_D0 (by decide +kernel)
end
