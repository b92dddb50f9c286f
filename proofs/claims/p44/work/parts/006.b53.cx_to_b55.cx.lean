noncomputable section
-- PART b53.cx
-- contexts of the class, checked by the kernel
-- X2_divide
def cx_2205 : ai_C := (52, [.r 1, .r 103, .r 102, .r 100], [], none, ([(1100, 0), (1100, 1), (1100, 2), (1100, 3)], [1003]))
set_option maxRecDepth 1000000 in
theorem vx_2205 : ai_valid ai_Tb cx_2205 := ai_chkH_ok (n := 62) (D := [cx_2053, cx_2057, cx_2058, cx_2077, cx_2039]) ai_TbK (ai_D1 vx_2053 (ai_D1 vx_2057 (ai_D1 vx_2058 (ai_D1 vx_2077 (ai_D1 vx_2039 ai_D0))))) (by decide +kernel)
-- X10_join
def cx_2206 : ai_C := (158, [.r 0, .i (-2147483648) 2147483647, .r 103, .r 102], [], none, ([(1100, 0), (1100, 1), (1100, 2), (1100, 3)], [1003]))
set_option maxRecDepth 1000000 in
theorem vx_2206 : ai_valid ai_Tb cx_2206 := ai_chkH_ok (n := 21) (D := [cx_2203, cx_2204, cx_2205]) ai_TbK (ai_D1 vx_2203 (ai_D1 vx_2204 (ai_D1 vx_2205 ai_D0))) (by decide +kernel)
-- X2_add
def cx_2207 : ai_C := (50, [.r 1, .r 102, .r 102, .i (-2147483648) 2147483647, .r 100], [], none, ([(1100, 0), (1100, 1), (1100, 2), (1100, 3)], []))
set_option maxRecDepth 1000000 in
theorem vx_2207 : ai_valid ai_Tb cx_2207 := ai_chkH_ok (n := 45) (D := [cx_2039]) ai_TbK (ai_D1 vx_2039 ai_D0) (by decide +kernel)
-- X2_multiply
def cx_2208 : ai_C := (51, [.r 1, .r 102, .r 102, .r 100], [], none, ([(1100, 0), (1100, 1), (1100, 2), (1100, 3)], [1003]))
set_option maxRecDepth 1000000 in
theorem vx_2208 : ai_valid ai_Tb cx_2208 := ai_chkH_ok (n := 32) (D := [cx_2053, cx_2082, cx_2039]) ai_TbK (ai_D1 vx_2053 (ai_D1 vx_2082 (ai_D1 vx_2039 ai_D0))) (by decide +kernel)
-- X2_divide
def cx_2209 : ai_C := (52, [.r 1, .r 102, .r 102, .r 100], [], none, ([(1100, 0), (1100, 1), (1100, 2), (1100, 3)], [1003]))
set_option maxRecDepth 1000000 in
theorem vx_2209 : ai_valid ai_Tb cx_2209 := ai_chkH_ok (n := 62) (D := [cx_2053, cx_2057, cx_2058, cx_2082, cx_2039]) ai_TbK (ai_D1 vx_2053 (ai_D1 vx_2057 (ai_D1 vx_2058 (ai_D1 vx_2082 (ai_D1 vx_2039 ai_D0))))) (by decide +kernel)
-- X10_join
def cx_2210 : ai_C := (158, [.r 0, .i (-2147483648) 2147483647, .r 102, .r 102], [], none, ([(1100, 0), (1100, 1), (1100, 2), (1100, 3)], [1003]))
set_option maxRecDepth 1000000 in
theorem vx_2210 : ai_valid ai_Tb cx_2210 := ai_chkH_ok (n := 21) (D := [cx_2207, cx_2208, cx_2209]) ai_TbK (ai_D1 vx_2207 (ai_D1 vx_2208 (ai_D1 vx_2209 ai_D0))) (by decide +kernel)
-- X10_combine
def cx_2211 : ai_C := (114, [.r 0, .i (-2147483648) 2147483647, .i (-2147483648) 2147483647, .i (-2147483648) 2147483647, .i (-2147483648) 2147483647], [(94, [.r 0, .i 0 3, .i 0 5, .i 0 5, .i 0 5], [], (.n 4, .n 0, .n 8000000000)), (104, [.r 0, .i 0 3, .i 0 5, .i 0 5, .i 0 5], [], (.n 3, .n 0, .n 8000000000)), (114, [.r 0, .i 0 3, .i 0 5, .i 0 5, .i 0 5], [], (.n 2, .n 0, .n 8000000000)), (119, [.r 0, .i 0 3, .i 0 5, .i 0 5, .i 0 5], [], (.n 1, .n 0, .n 8000000000))], some [.i (-2147483648) 2147483647], ([(23, 4), (23, 5), (28, 0), (28, 1), (28, 2), (28, 6), (28, 7), (29, 0), (29, 1), (29, 2), (29, 3), (29, 4), (29, 5), (29, 6), (29, 7), (29, 8), (29, 9), (29, 10), (29, 11), (29, 12), (29, 13), (29, 14), (29, 15), (29, 16), (29, 17), (29, 18), (29, 19), (29, 20), (29, 21), (29, 22), (29, 23), (30, 1), (33, 0), (33, 1), (33, 2), (33, 6), (33, 7), (34, 0), (34, 1), (34, 2), (34, 3), (34, 4), (34, 5), (34, 6), (34, 7), (34, 8), (34, 9), (34, 10), (34, 11), (34, 12), (34, 13), (34, 14), (34, 15), (34, 16), (34, 17), (34, 18), (34, 19), (34, 20), (34, 21), (34, 22), (34, 23), (35, 1), (38, 0), (38, 1), (38, 2), (38, 6), (38, 7), (39, 0), (39, 1), (39, 2), (39, 3), (39, 4), (39, 5), (39, 6), (39, 7), (39, 8), (39, 9), (39, 10), (39, 11), (39, 12), (39, 13), (39, 14), (39, 15), (39, 16), (39, 17), (39, 18), (39, 19), (39, 20), (39, 21), (39, 22), (39, 23), (40, 1), (43, 0), (43, 1), (43, 2), (43, 6), (43, 7), (44, 0), (44, 1), (44, 2), (44, 3), (44, 4), (44, 5), (44, 6), (44, 7), (44, 8), (44, 9), (44, 10), (44, 11), (44, 12), (44, 13), (44, 14), (44, 15), (44, 16), (44, 17), (44, 18), (44, 19), (44, 20), (44, 21), (44, 22), (44, 23), (45, 1), (48, 0), (48, 1), (48, 2), (48, 6), (48, 7), (49, 0), (49, 1), (49, 2), (49, 3), (49, 4), (49, 5), (49, 6), (49, 7), (49, 8), (49, 9), (49, 10), (49, 11), (49, 12), (49, 13), (49, 14), (49, 15), (49, 16), (49, 17), (49, 18), (49, 19), (49, 20), (49, 21), (49, 22), (49, 23), (50, 1), (53, 0), (53, 1), (53, 2), (53, 6), (53, 7), (54, 0), (54, 1), (54, 2), (54, 3), (54, 4), (54, 5), (54, 6), (54, 7), (54, 8), (54, 9), (54, 10), (54, 11), (54, 12), (54, 13), (54, 14), (54, 15), (54, 16), (54, 17), (54, 18), (54, 19), (54, 20), (54, 21), (54, 22), (54, 23), (55, 1), (58, 0), (58, 1), (58, 2), (58, 6), (58, 7), (59, 0), (59, 1), (59, 2), (59, 3), (59, 4), (59, 5), (59, 6), (59, 7), (59, 8), (59, 9), (59, 10), (59, 11), (59, 12), (59, 13), (59, 14), (59, 15), (59, 16), (59, 17), (59, 18), (59, 19), (59, 20), (59, 21), (59, 22), (59, 23), (60, 1), (63, 0), (63, 1), (63, 2), (63, 6), (63, 7), (64, 0), (64, 1), (64, 2), (64, 3), (64, 4), (64, 5), (64, 6), (64, 7), (64, 8), (64, 9), (64, 10), (64, 11), (64, 12), (64, 13), (64, 14), (64, 15), (64, 16), (64, 17), (64, 18), (64, 19), (64, 20), (64, 21), (64, 22), (64, 23), (65, 1), (78, 1), (79, 0), (79, 1), (79, 3), (79, 4), (1100, 0), (1100, 1), (1100, 2), (1100, 3), (1102, 0), (1102, 1), (1102, 2), (1102, 3), (1103, 0), (1103, 1), (1103, 2), (1103, 3), (1104, 0), (1104, 1), (1104, 2), (1104, 3), (1105, 0), (1105, 1), (1105, 2), (1105, 3), (1106, 0), (1106, 1), (1106, 2), (1106, 3), (1107, 0), (1107, 1), (1107, 2), (1107, 3)], [25, 31, 32, 36, 37, 41, 42, 46, 47, 51, 52, 56, 57, 61, 62, 66, 67, 1003]))
set_option maxRecDepth 1000000 in
theorem vx_2211 : ai_valid ai_Tb cx_2211 := ai_chkH_ok (n := 74) (D := [cx_2027, cx_2029, cx_2031, cx_2033, cx_2035, cx_2037, cx_2043, cx_2044, cx_2045, cx_2046, cx_2047, cx_2048, cx_2041, cx_2050, cx_2086, cx_2111, cx_2136, cx_2161, cx_2186, cx_2012, cx_2060, cx_2065, cx_2070, cx_2075, cx_2080, cx_2085, cx_2090, cx_2094, cx_2098, cx_2102, cx_2106, cx_2110, cx_2115, cx_2119, cx_2123, cx_2127, cx_2131, cx_2135, cx_2140, cx_2144, cx_2148, cx_2152, cx_2156, cx_2160, cx_2165, cx_2169, cx_2173, cx_2177, cx_2181, cx_2185, cx_2190, cx_2194, cx_2198, cx_2202, cx_2206, cx_2210]) ai_TbK (ai_D1 vx_2027 (ai_D1 vx_2029 (ai_D1 vx_2031 (ai_D1 vx_2033 (ai_D1 vx_2035 (ai_D1 vx_2037 (ai_D1 vx_2043 (ai_D1 vx_2044 (ai_D1 vx_2045 (ai_D1 vx_2046 (ai_D1 vx_2047 (ai_D1 vx_2048 (ai_D1 vx_2041 (ai_D1 vx_2050 (ai_D1 vx_2086 (ai_D1 vx_2111 (ai_D1 vx_2136 (ai_D1 vx_2161 (ai_D1 vx_2186 (ai_D1 vx_2012 (ai_D1 vx_2060 (ai_D1 vx_2065 (ai_D1 vx_2070 (ai_D1 vx_2075 (ai_D1 vx_2080 (ai_D1 vx_2085 (ai_D1 vx_2090 (ai_D1 vx_2094 (ai_D1 vx_2098 (ai_D1 vx_2102 (ai_D1 vx_2106 (ai_D1 vx_2110 (ai_D1 vx_2115 (ai_D1 vx_2119 (ai_D1 vx_2123 (ai_D1 vx_2127 (ai_D1 vx_2131 (ai_D1 vx_2135 (ai_D1 vx_2140 (ai_D1 vx_2144 (ai_D1 vx_2148 (ai_D1 vx_2152 (ai_D1 vx_2156 (ai_D1 vx_2160 (ai_D1 vx_2165 (ai_D1 vx_2169 (ai_D1 vx_2173 (ai_D1 vx_2177 (ai_D1 vx_2181 (ai_D1 vx_2185 (ai_D1 vx_2190 (ai_D1 vx_2194 (ai_D1 vx_2198 (ai_D1 vx_2202 (ai_D1 vx_2206 (ai_D1 vx_2210 ai_D0)))))))))))))))))))))))))))))))))))))))))))))))))))))))) (by decide +kernel)
-- X2_sign
def cx_2212 : ai_C := (46, [.r 1, .r 107], [], some [.i (-1) 1], ([], []))
set_option maxRecDepth 1000000 in
theorem vx_2212 : ai_valid ai_Tb cx_2212 := ai_chkH_ok (n := 10) (D := [cx_2025]) ai_TbK (ai_D1 vx_2025 ai_D0) (by decide +kernel)
-- X1_isFit
def cx_2213 : ai_C := (19, [.r 1, .r 107], [], some [.i 0 1], ([], []))
set_option maxRecDepth 1000000 in
theorem vx_2213 : ai_valid ai_Tb cx_2213 := ai_chkH_ok (n := 13) (D := [cx_2212, cx_2027]) ai_TbK (ai_D1 vx_2212 (ai_D1 vx_2027 ai_D0)) (by decide +kernel)
-- X1_canOpen
def cx_2214 : ai_C := (18, [.r 1, .r 107, .r 107], [], some [.i 0 1], ([], []))
set_option maxRecDepth 1000000 in
theorem vx_2214 : ai_valid ai_Tb cx_2214 := ai_chkH_ok (n := 12) (D := [cx_2213]) ai_TbK (ai_D1 vx_2213 ai_D0) (by decide +kernel)
-- X2_sign
def cx_2215 : ai_C := (46, [.r 1, .r 106], [], some [.i (-1) 1], ([], []))
set_option maxRecDepth 1000000 in
theorem vx_2215 : ai_valid ai_Tb cx_2215 := ai_chkH_ok (n := 10) (D := [cx_2025]) ai_TbK (ai_D1 vx_2025 ai_D0) (by decide +kernel)
-- X1_isFit
def cx_2216 : ai_C := (19, [.r 1, .r 106], [], some [.i 0 1], ([], []))
set_option maxRecDepth 1000000 in
theorem vx_2216 : ai_valid ai_Tb cx_2216 := ai_chkH_ok (n := 13) (D := [cx_2215, cx_2029]) ai_TbK (ai_D1 vx_2215 (ai_D1 vx_2029 ai_D0)) (by decide +kernel)
-- X1_canOpen
def cx_2217 : ai_C := (18, [.r 1, .r 107, .r 106], [], some [.i 0 1], ([], []))
set_option maxRecDepth 1000000 in
theorem vx_2217 : ai_valid ai_Tb cx_2217 := ai_chkH_ok (n := 12) (D := [cx_2213, cx_2216]) ai_TbK (ai_D1 vx_2213 (ai_D1 vx_2216 ai_D0)) (by decide +kernel)
-- X2_sign
def cx_2218 : ai_C := (46, [.r 1, .r 105], [], some [.i (-1) 1], ([], []))
set_option maxRecDepth 1000000 in
theorem vx_2218 : ai_valid ai_Tb cx_2218 := ai_chkH_ok (n := 10) (D := [cx_2025]) ai_TbK (ai_D1 vx_2025 ai_D0) (by decide +kernel)
-- X1_isFit
def cx_2219 : ai_C := (19, [.r 1, .r 105], [], some [.i 0 1], ([], []))
set_option maxRecDepth 1000000 in
theorem vx_2219 : ai_valid ai_Tb cx_2219 := ai_chkH_ok (n := 13) (D := [cx_2218, cx_2031]) ai_TbK (ai_D1 vx_2218 (ai_D1 vx_2031 ai_D0)) (by decide +kernel)
-- X1_canOpen
def cx_2220 : ai_C := (18, [.r 1, .r 107, .r 105], [], some [.i 0 1], ([], []))
set_option maxRecDepth 1000000 in
theorem vx_2220 : ai_valid ai_Tb cx_2220 := ai_chkH_ok (n := 12) (D := [cx_2213, cx_2219]) ai_TbK (ai_D1 vx_2213 (ai_D1 vx_2219 ai_D0)) (by decide +kernel)
-- X2_sign
def cx_2221 : ai_C := (46, [.r 1, .r 104], [], some [.i (-1) 1], ([], []))
set_option maxRecDepth 1000000 in
theorem vx_2221 : ai_valid ai_Tb cx_2221 := ai_chkH_ok (n := 10) (D := [cx_2025]) ai_TbK (ai_D1 vx_2025 ai_D0) (by decide +kernel)
-- X1_isFit
def cx_2222 : ai_C := (19, [.r 1, .r 104], [], some [.i 0 1], ([], []))
set_option maxRecDepth 1000000 in
theorem vx_2222 : ai_valid ai_Tb cx_2222 := ai_chkH_ok (n := 13) (D := [cx_2221, cx_2033]) ai_TbK (ai_D1 vx_2221 (ai_D1 vx_2033 ai_D0)) (by decide +kernel)
-- X1_canOpen
def cx_2223 : ai_C := (18, [.r 1, .r 107, .r 104], [], some [.i 0 1], ([], []))
set_option maxRecDepth 1000000 in
theorem vx_2223 : ai_valid ai_Tb cx_2223 := ai_chkH_ok (n := 12) (D := [cx_2213, cx_2222]) ai_TbK (ai_D1 vx_2213 (ai_D1 vx_2222 ai_D0)) (by decide +kernel)
-- X2_sign
def cx_2224 : ai_C := (46, [.r 1, .r 103], [], some [.i (-1) 1], ([], []))
set_option maxRecDepth 1000000 in
theorem vx_2224 : ai_valid ai_Tb cx_2224 := ai_chkH_ok (n := 10) (D := [cx_2025]) ai_TbK (ai_D1 vx_2025 ai_D0) (by decide +kernel)
-- X1_isFit
def cx_2225 : ai_C := (19, [.r 1, .r 103], [], some [.i 0 1], ([], []))
set_option maxRecDepth 1000000 in
theorem vx_2225 : ai_valid ai_Tb cx_2225 := ai_chkH_ok (n := 13) (D := [cx_2224, cx_2035]) ai_TbK (ai_D1 vx_2224 (ai_D1 vx_2035 ai_D0)) (by decide +kernel)
-- X1_canOpen
def cx_2226 : ai_C := (18, [.r 1, .r 107, .r 103], [], some [.i 0 1], ([], []))
set_option maxRecDepth 1000000 in
theorem vx_2226 : ai_valid ai_Tb cx_2226 := ai_chkH_ok (n := 12) (D := [cx_2213, cx_2225]) ai_TbK (ai_D1 vx_2213 (ai_D1 vx_2225 ai_D0)) (by decide +kernel)
-- X2_sign
def cx_2227 : ai_C := (46, [.r 1, .r 102], [], some [.i (-1) 1], ([], []))
set_option maxRecDepth 1000000 in
theorem vx_2227 : ai_valid ai_Tb cx_2227 := ai_chkH_ok (n := 10) (D := [cx_2025]) ai_TbK (ai_D1 vx_2025 ai_D0) (by decide +kernel)
-- X1_isFit
def cx_2228 : ai_C := (19, [.r 1, .r 102], [], some [.i 0 1], ([], []))
set_option maxRecDepth 1000000 in
theorem vx_2228 : ai_valid ai_Tb cx_2228 := ai_chkH_ok (n := 13) (D := [cx_2227, cx_2037]) ai_TbK (ai_D1 vx_2227 (ai_D1 vx_2037 ai_D0)) (by decide +kernel)
-- X1_canOpen
def cx_2229 : ai_C := (18, [.r 1, .r 107, .r 102], [], some [.i 0 1], ([], []))
set_option maxRecDepth 1000000 in
theorem vx_2229 : ai_valid ai_Tb cx_2229 := ai_chkH_ok (n := 12) (D := [cx_2213, cx_2228]) ai_TbK (ai_D1 vx_2213 (ai_D1 vx_2228 ai_D0)) (by decide +kernel)
-- X1_canOpen
def cx_2230 : ai_C := (18, [.r 1, .r 106, .r 107], [], some [.i 0 1], ([], []))
set_option maxRecDepth 1000000 in
theorem vx_2230 : ai_valid ai_Tb cx_2230 := ai_chkH_ok (n := 12) (D := [cx_2216, cx_2213]) ai_TbK (ai_D1 vx_2216 (ai_D1 vx_2213 ai_D0)) (by decide +kernel)
-- X1_canOpen
def cx_2231 : ai_C := (18, [.r 1, .r 106, .r 106], [], some [.i 0 1], ([], []))
set_option maxRecDepth 1000000 in
theorem vx_2231 : ai_valid ai_Tb cx_2231 := ai_chkH_ok (n := 12) (D := [cx_2216]) ai_TbK (ai_D1 vx_2216 ai_D0) (by decide +kernel)
-- X1_canOpen
def cx_2232 : ai_C := (18, [.r 1, .r 106, .r 105], [], some [.i 0 1], ([], []))
set_option maxRecDepth 1000000 in
theorem vx_2232 : ai_valid ai_Tb cx_2232 := ai_chkH_ok (n := 12) (D := [cx_2216, cx_2219]) ai_TbK (ai_D1 vx_2216 (ai_D1 vx_2219 ai_D0)) (by decide +kernel)
-- X1_canOpen
def cx_2233 : ai_C := (18, [.r 1, .r 106, .r 104], [], some [.i 0 1], ([], []))
set_option maxRecDepth 1000000 in
theorem vx_2233 : ai_valid ai_Tb cx_2233 := ai_chkH_ok (n := 12) (D := [cx_2216, cx_2222]) ai_TbK (ai_D1 vx_2216 (ai_D1 vx_2222 ai_D0)) (by decide +kernel)
-- X1_canOpen
def cx_2234 : ai_C := (18, [.r 1, .r 106, .r 103], [], some [.i 0 1], ([], []))
set_option maxRecDepth 1000000 in
theorem vx_2234 : ai_valid ai_Tb cx_2234 := ai_chkH_ok (n := 12) (D := [cx_2216, cx_2225]) ai_TbK (ai_D1 vx_2216 (ai_D1 vx_2225 ai_D0)) (by decide +kernel)
-- X1_canOpen
def cx_2235 : ai_C := (18, [.r 1, .r 106, .r 102], [], some [.i 0 1], ([], []))
set_option maxRecDepth 1000000 in
theorem vx_2235 : ai_valid ai_Tb cx_2235 := ai_chkH_ok (n := 12) (D := [cx_2216, cx_2228]) ai_TbK (ai_D1 vx_2216 (ai_D1 vx_2228 ai_D0)) (by decide +kernel)
-- X1_canOpen
def cx_2236 : ai_C := (18, [.r 1, .r 105, .r 107], [], some [.i 0 1], ([], []))
set_option maxRecDepth 1000000 in
theorem vx_2236 : ai_valid ai_Tb cx_2236 := ai_chkH_ok (n := 12) (D := [cx_2219, cx_2213]) ai_TbK (ai_D1 vx_2219 (ai_D1 vx_2213 ai_D0)) (by decide +kernel)
-- X1_canOpen
def cx_2237 : ai_C := (18, [.r 1, .r 105, .r 106], [], some [.i 0 1], ([], []))
set_option maxRecDepth 1000000 in
theorem vx_2237 : ai_valid ai_Tb cx_2237 := ai_chkH_ok (n := 12) (D := [cx_2219, cx_2216]) ai_TbK (ai_D1 vx_2219 (ai_D1 vx_2216 ai_D0)) (by decide +kernel)
-- X1_canOpen
def cx_2238 : ai_C := (18, [.r 1, .r 105, .r 105], [], some [.i 0 1], ([], []))
set_option maxRecDepth 1000000 in
theorem vx_2238 : ai_valid ai_Tb cx_2238 := ai_chkH_ok (n := 12) (D := [cx_2219]) ai_TbK (ai_D1 vx_2219 ai_D0) (by decide +kernel)
-- X1_canOpen
def cx_2239 : ai_C := (18, [.r 1, .r 105, .r 104], [], some [.i 0 1], ([], []))
set_option maxRecDepth 1000000 in
theorem vx_2239 : ai_valid ai_Tb cx_2239 := ai_chkH_ok (n := 12) (D := [cx_2219, cx_2222]) ai_TbK (ai_D1 vx_2219 (ai_D1 vx_2222 ai_D0)) (by decide +kernel)
-- X1_canOpen
def cx_2240 : ai_C := (18, [.r 1, .r 105, .r 103], [], some [.i 0 1], ([], []))
set_option maxRecDepth 1000000 in
theorem vx_2240 : ai_valid ai_Tb cx_2240 := ai_chkH_ok (n := 12) (D := [cx_2219, cx_2225]) ai_TbK (ai_D1 vx_2219 (ai_D1 vx_2225 ai_D0)) (by decide +kernel)
-- X1_canOpen
def cx_2241 : ai_C := (18, [.r 1, .r 105, .r 102], [], some [.i 0 1], ([], []))
set_option maxRecDepth 1000000 in
theorem vx_2241 : ai_valid ai_Tb cx_2241 := ai_chkH_ok (n := 12) (D := [cx_2219, cx_2228]) ai_TbK (ai_D1 vx_2219 (ai_D1 vx_2228 ai_D0)) (by decide +kernel)
-- X1_canOpen
def cx_2242 : ai_C := (18, [.r 1, .r 104, .r 107], [], some [.i 0 1], ([], []))
set_option maxRecDepth 1000000 in
theorem vx_2242 : ai_valid ai_Tb cx_2242 := ai_chkH_ok (n := 12) (D := [cx_2222, cx_2213]) ai_TbK (ai_D1 vx_2222 (ai_D1 vx_2213 ai_D0)) (by decide +kernel)
-- X1_canOpen
def cx_2243 : ai_C := (18, [.r 1, .r 104, .r 106], [], some [.i 0 1], ([], []))
set_option maxRecDepth 1000000 in
theorem vx_2243 : ai_valid ai_Tb cx_2243 := ai_chkH_ok (n := 12) (D := [cx_2222, cx_2216]) ai_TbK (ai_D1 vx_2222 (ai_D1 vx_2216 ai_D0)) (by decide +kernel)
-- X1_canOpen
def cx_2244 : ai_C := (18, [.r 1, .r 104, .r 105], [], some [.i 0 1], ([], []))
set_option maxRecDepth 1000000 in
theorem vx_2244 : ai_valid ai_Tb cx_2244 := ai_chkH_ok (n := 12) (D := [cx_2222, cx_2219]) ai_TbK (ai_D1 vx_2222 (ai_D1 vx_2219 ai_D0)) (by decide +kernel)
-- X1_canOpen
def cx_2245 : ai_C := (18, [.r 1, .r 104, .r 104], [], some [.i 0 1], ([], []))
set_option maxRecDepth 1000000 in
theorem vx_2245 : ai_valid ai_Tb cx_2245 := ai_chkH_ok (n := 12) (D := [cx_2222]) ai_TbK (ai_D1 vx_2222 ai_D0) (by decide +kernel)
-- X1_canOpen
def cx_2246 : ai_C := (18, [.r 1, .r 104, .r 103], [], some [.i 0 1], ([], []))
set_option maxRecDepth 1000000 in
theorem vx_2246 : ai_valid ai_Tb cx_2246 := ai_chkH_ok (n := 12) (D := [cx_2222, cx_2225]) ai_TbK (ai_D1 vx_2222 (ai_D1 vx_2225 ai_D0)) (by decide +kernel)
-- X1_canOpen
def cx_2247 : ai_C := (18, [.r 1, .r 104, .r 102], [], some [.i 0 1], ([], []))
set_option maxRecDepth 1000000 in
theorem vx_2247 : ai_valid ai_Tb cx_2247 := ai_chkH_ok (n := 12) (D := [cx_2222, cx_2228]) ai_TbK (ai_D1 vx_2222 (ai_D1 vx_2228 ai_D0)) (by decide +kernel)
-- X1_canOpen
def cx_2248 : ai_C := (18, [.r 1, .r 103, .r 107], [], some [.i 0 1], ([], []))
set_option maxRecDepth 1000000 in
theorem vx_2248 : ai_valid ai_Tb cx_2248 := ai_chkH_ok (n := 12) (D := [cx_2225, cx_2213]) ai_TbK (ai_D1 vx_2225 (ai_D1 vx_2213 ai_D0)) (by decide +kernel)
-- X1_canOpen
def cx_2249 : ai_C := (18, [.r 1, .r 103, .r 106], [], some [.i 0 1], ([], []))
set_option maxRecDepth 1000000 in
theorem vx_2249 : ai_valid ai_Tb cx_2249 := ai_chkH_ok (n := 12) (D := [cx_2225, cx_2216]) ai_TbK (ai_D1 vx_2225 (ai_D1 vx_2216 ai_D0)) (by decide +kernel)
-- X1_canOpen
def cx_2250 : ai_C := (18, [.r 1, .r 103, .r 105], [], some [.i 0 1], ([], []))
set_option maxRecDepth 1000000 in
theorem vx_2250 : ai_valid ai_Tb cx_2250 := ai_chkH_ok (n := 12) (D := [cx_2225, cx_2219]) ai_TbK (ai_D1 vx_2225 (ai_D1 vx_2219 ai_D0)) (by decide +kernel)
-- X1_canOpen
def cx_2251 : ai_C := (18, [.r 1, .r 103, .r 104], [], some [.i 0 1], ([], []))
set_option maxRecDepth 1000000 in
theorem vx_2251 : ai_valid ai_Tb cx_2251 := ai_chkH_ok (n := 12) (D := [cx_2225, cx_2222]) ai_TbK (ai_D1 vx_2225 (ai_D1 vx_2222 ai_D0)) (by decide +kernel)
-- X1_canOpen
def cx_2252 : ai_C := (18, [.r 1, .r 103, .r 103], [], some [.i 0 1], ([], []))
set_option maxRecDepth 1000000 in
theorem vx_2252 : ai_valid ai_Tb cx_2252 := ai_chkH_ok (n := 12) (D := [cx_2225]) ai_TbK (ai_D1 vx_2225 ai_D0) (by decide +kernel)
-- X1_canOpen
def cx_2253 : ai_C := (18, [.r 1, .r 103, .r 102], [], some [.i 0 1], ([], []))
set_option maxRecDepth 1000000 in
theorem vx_2253 : ai_valid ai_Tb cx_2253 := ai_chkH_ok (n := 12) (D := [cx_2225, cx_2228]) ai_TbK (ai_D1 vx_2225 (ai_D1 vx_2228 ai_D0)) (by decide +kernel)
-- X1_canOpen
def cx_2254 : ai_C := (18, [.r 1, .r 102, .r 107], [], some [.i 0 1], ([], []))
set_option maxRecDepth 1000000 in
theorem vx_2254 : ai_valid ai_Tb cx_2254 := ai_chkH_ok (n := 12) (D := [cx_2228, cx_2213]) ai_TbK (ai_D1 vx_2228 (ai_D1 vx_2213 ai_D0)) (by decide +kernel)
-- X1_canOpen
def cx_2255 : ai_C := (18, [.r 1, .r 102, .r 106], [], some [.i 0 1], ([], []))
set_option maxRecDepth 1000000 in
theorem vx_2255 : ai_valid ai_Tb cx_2255 := ai_chkH_ok (n := 12) (D := [cx_2228, cx_2216]) ai_TbK (ai_D1 vx_2228 (ai_D1 vx_2216 ai_D0)) (by decide +kernel)
-- X1_canOpen
def cx_2256 : ai_C := (18, [.r 1, .r 102, .r 105], [], some [.i 0 1], ([], []))
set_option maxRecDepth 1000000 in
theorem vx_2256 : ai_valid ai_Tb cx_2256 := ai_chkH_ok (n := 12) (D := [cx_2228, cx_2219]) ai_TbK (ai_D1 vx_2228 (ai_D1 vx_2219 ai_D0)) (by decide +kernel)
-- X1_canOpen
def cx_2257 : ai_C := (18, [.r 1, .r 102, .r 104], [], some [.i 0 1], ([], []))
set_option maxRecDepth 1000000 in
theorem vx_2257 : ai_valid ai_Tb cx_2257 := ai_chkH_ok (n := 12) (D := [cx_2228, cx_2222]) ai_TbK (ai_D1 vx_2228 (ai_D1 vx_2222 ai_D0)) (by decide +kernel)
-- X1_canOpen
def cx_2258 : ai_C := (18, [.r 1, .r 102, .r 103], [], some [.i 0 1], ([], []))
set_option maxRecDepth 1000000 in
theorem vx_2258 : ai_valid ai_Tb cx_2258 := ai_chkH_ok (n := 12) (D := [cx_2228, cx_2225]) ai_TbK (ai_D1 vx_2228 (ai_D1 vx_2225 ai_D0)) (by decide +kernel)
-- X1_canOpen
def cx_2259 : ai_C := (18, [.r 1, .r 102, .r 102], [], some [.i 0 1], ([], []))
set_option maxRecDepth 1000000 in
theorem vx_2259 : ai_valid ai_Tb cx_2259 := ai_chkH_ok (n := 12) (D := [cx_2228]) ai_TbK (ai_D1 vx_2228 ai_D0) (by decide +kernel)
-- X8_copy
def cx_2260 : ai_C := (95, [.r 15, .r 107], [], none, ([(1015, 0), (1015, 1), (1015, 2), (1015, 3)], []))
set_option maxRecDepth 1000000 in
theorem vx_2260 : ai_valid ai_Tb cx_2260 := ai_chkH_ok (n := 18) (D := []) ai_TbK ai_D0 (by decide +kernel)
-- X8_copy
def cx_2261 : ai_C := (95, [.r 16, .r 107], [], none, ([(1016, 0), (1016, 1), (1016, 2), (1016, 3)], []))
set_option maxRecDepth 1000000 in
theorem vx_2261 : ai_valid ai_Tb cx_2261 := ai_chkH_ok (n := 18) (D := []) ai_TbK ai_D0 (by decide +kernel)
-- X1_saveState
def cx_2262 : ai_C := (28, [.r 6], [], none, ([], [7]))
set_option maxRecDepth 1000000 in
theorem vx_2262 : ai_valid ai_Tb cx_2262 := ai_chkH_ok (n := 124) (D := []) ai_TbK ai_D0 (by decide +kernel)
-- X4_layRow
def cx_2263 : ai_C := (63, [.r 9, .i (-2147483648) 2147483647, .l (-9223372036854775808) 9223372036854775807, .l (-9223372036854775808) 9223372036854775807, .l (-9223372036854775808) 9223372036854775807], [], none, ([], [1010]))
set_option maxRecDepth 1000000 in
theorem vx_2263 : ai_valid ai_Tb cx_2263 := ai_chkH_ok (n := 44) (D := []) ai_TbK ai_D0 (by decide +kernel)
-- X4_layOne
def cx_2264 : ai_C := (64, [.r 9], [], none, ([], [1010]))
set_option maxRecDepth 1000000 in
theorem vx_2264 : ai_valid ai_Tb cx_2264 := ai_chkH_ok (n := 20) (D := [cx_2263]) ai_TbK (ai_D1 vx_2263 ai_D0) (by decide +kernel)
-- X1_open
def cx_2265 : ai_C := (20, [.r 6, .r 1, .r 107, .r 107, .i (-2147483648) 2147483647], [], none, ([(6, 3), (6, 4), (6, 5), (6, 6), (6, 12), (6, 13), (1015, 0), (1015, 1), (1015, 2), (1015, 3), (1016, 0), (1016, 1), (1016, 2), (1016, 3)], [7, 1010]))
set_option maxRecDepth 1000000 in
theorem vx_2265 : ai_valid ai_Tb cx_2265 := ai_chkH_ok (n := 30) (D := [cx_2020, cx_2262, cx_2027, cx_2264, cx_2260, cx_2261]) ai_TbK (ai_D1 vx_2020 (ai_D1 vx_2262 (ai_D1 vx_2027 (ai_D1 vx_2264 (ai_D1 vx_2260 (ai_D1 vx_2261 ai_D0)))))) (by decide +kernel)
-- X8_copy
def cx_2266 : ai_C := (95, [.r 16, .r 106], [], none, ([(1016, 0), (1016, 1), (1016, 2), (1016, 3)], []))
set_option maxRecDepth 1000000 in
theorem vx_2266 : ai_valid ai_Tb cx_2266 := ai_chkH_ok (n := 18) (D := []) ai_TbK ai_D0 (by decide +kernel)
-- X1_open
def cx_2267 : ai_C := (20, [.r 6, .r 1, .r 107, .r 106, .i (-2147483648) 2147483647], [], none, ([(6, 3), (6, 4), (6, 5), (6, 6), (6, 12), (6, 13), (1015, 0), (1015, 1), (1015, 2), (1015, 3), (1016, 0), (1016, 1), (1016, 2), (1016, 3)], [7, 1010]))
set_option maxRecDepth 1000000 in
theorem vx_2267 : ai_valid ai_Tb cx_2267 := ai_chkH_ok (n := 30) (D := [cx_2020, cx_2262, cx_2027, cx_2029, cx_2264, cx_2260, cx_2266]) ai_TbK (ai_D1 vx_2020 (ai_D1 vx_2262 (ai_D1 vx_2027 (ai_D1 vx_2029 (ai_D1 vx_2264 (ai_D1 vx_2260 (ai_D1 vx_2266 ai_D0))))))) (by decide +kernel)
-- X8_copy
def cx_2268 : ai_C := (95, [.r 16, .r 105], [], none, ([(1016, 0), (1016, 1), (1016, 2), (1016, 3)], []))
set_option maxRecDepth 1000000 in
theorem vx_2268 : ai_valid ai_Tb cx_2268 := ai_chkH_ok (n := 18) (D := []) ai_TbK ai_D0 (by decide +kernel)
-- X1_open
def cx_2269 : ai_C := (20, [.r 6, .r 1, .r 107, .r 105, .i (-2147483648) 2147483647], [], none, ([(6, 3), (6, 4), (6, 5), (6, 6), (6, 12), (6, 13), (1015, 0), (1015, 1), (1015, 2), (1015, 3), (1016, 0), (1016, 1), (1016, 2), (1016, 3)], [7, 1010]))
set_option maxRecDepth 1000000 in
theorem vx_2269 : ai_valid ai_Tb cx_2269 := ai_chkH_ok (n := 30) (D := [cx_2020, cx_2262, cx_2027, cx_2031, cx_2264, cx_2260, cx_2268]) ai_TbK (ai_D1 vx_2020 (ai_D1 vx_2262 (ai_D1 vx_2027 (ai_D1 vx_2031 (ai_D1 vx_2264 (ai_D1 vx_2260 (ai_D1 vx_2268 ai_D0))))))) (by decide +kernel)
-- X8_copy
def cx_2270 : ai_C := (95, [.r 16, .r 104], [], none, ([(1016, 0), (1016, 1), (1016, 2), (1016, 3)], []))
set_option maxRecDepth 1000000 in
theorem vx_2270 : ai_valid ai_Tb cx_2270 := ai_chkH_ok (n := 18) (D := []) ai_TbK ai_D0 (by decide +kernel)
-- X1_open
def cx_2271 : ai_C := (20, [.r 6, .r 1, .r 107, .r 104, .i (-2147483648) 2147483647], [], none, ([(6, 3), (6, 4), (6, 5), (6, 6), (6, 12), (6, 13), (1015, 0), (1015, 1), (1015, 2), (1015, 3), (1016, 0), (1016, 1), (1016, 2), (1016, 3)], [7, 1010]))
set_option maxRecDepth 1000000 in
theorem vx_2271 : ai_valid ai_Tb cx_2271 := ai_chkH_ok (n := 30) (D := [cx_2020, cx_2262, cx_2027, cx_2033, cx_2264, cx_2260, cx_2270]) ai_TbK (ai_D1 vx_2020 (ai_D1 vx_2262 (ai_D1 vx_2027 (ai_D1 vx_2033 (ai_D1 vx_2264 (ai_D1 vx_2260 (ai_D1 vx_2270 ai_D0))))))) (by decide +kernel)
-- X8_copy
def cx_2272 : ai_C := (95, [.r 16, .r 103], [], none, ([(1016, 0), (1016, 1), (1016, 2), (1016, 3)], []))
set_option maxRecDepth 1000000 in
theorem vx_2272 : ai_valid ai_Tb cx_2272 := ai_chkH_ok (n := 18) (D := []) ai_TbK ai_D0 (by decide +kernel)
-- X1_open
def cx_2273 : ai_C := (20, [.r 6, .r 1, .r 107, .r 103, .i (-2147483648) 2147483647], [], none, ([(6, 3), (6, 4), (6, 5), (6, 6), (6, 12), (6, 13), (1015, 0), (1015, 1), (1015, 2), (1015, 3), (1016, 0), (1016, 1), (1016, 2), (1016, 3)], [7, 1010]))
set_option maxRecDepth 1000000 in
theorem vx_2273 : ai_valid ai_Tb cx_2273 := ai_chkH_ok (n := 30) (D := [cx_2020, cx_2262, cx_2027, cx_2035, cx_2264, cx_2260, cx_2272]) ai_TbK (ai_D1 vx_2020 (ai_D1 vx_2262 (ai_D1 vx_2027 (ai_D1 vx_2035 (ai_D1 vx_2264 (ai_D1 vx_2260 (ai_D1 vx_2272 ai_D0))))))) (by decide +kernel)
-- X8_copy
def cx_2274 : ai_C := (95, [.r 16, .r 102], [], none, ([(1016, 0), (1016, 1), (1016, 2), (1016, 3)], []))
set_option maxRecDepth 1000000 in
theorem vx_2274 : ai_valid ai_Tb cx_2274 := ai_chkH_ok (n := 18) (D := []) ai_TbK ai_D0 (by decide +kernel)
-- X1_open
def cx_2275 : ai_C := (20, [.r 6, .r 1, .r 107, .r 102, .i (-2147483648) 2147483647], [], none, ([(6, 3), (6, 4), (6, 5), (6, 6), (6, 12), (6, 13), (1015, 0), (1015, 1), (1015, 2), (1015, 3), (1016, 0), (1016, 1), (1016, 2), (1016, 3)], [7, 1010]))
set_option maxRecDepth 1000000 in
theorem vx_2275 : ai_valid ai_Tb cx_2275 := ai_chkH_ok (n := 30) (D := [cx_2020, cx_2262, cx_2027, cx_2037, cx_2264, cx_2260, cx_2274]) ai_TbK (ai_D1 vx_2020 (ai_D1 vx_2262 (ai_D1 vx_2027 (ai_D1 vx_2037 (ai_D1 vx_2264 (ai_D1 vx_2260 (ai_D1 vx_2274 ai_D0))))))) (by decide +kernel)
-- X8_copy
def cx_2276 : ai_C := (95, [.r 15, .r 106], [], none, ([(1015, 0), (1015, 1), (1015, 2), (1015, 3)], []))
set_option maxRecDepth 1000000 in
theorem vx_2276 : ai_valid ai_Tb cx_2276 := ai_chkH_ok (n := 18) (D := []) ai_TbK ai_D0 (by decide +kernel)
-- X1_open
def cx_2277 : ai_C := (20, [.r 6, .r 1, .r 106, .r 107, .i (-2147483648) 2147483647], [], none, ([(6, 3), (6, 4), (6, 5), (6, 6), (6, 12), (6, 13), (1015, 0), (1015, 1), (1015, 2), (1015, 3), (1016, 0), (1016, 1), (1016, 2), (1016, 3)], [7, 1010]))
set_option maxRecDepth 1000000 in
theorem vx_2277 : ai_valid ai_Tb cx_2277 := ai_chkH_ok (n := 30) (D := [cx_2020, cx_2262, cx_2029, cx_2027, cx_2264, cx_2276, cx_2261]) ai_TbK (ai_D1 vx_2020 (ai_D1 vx_2262 (ai_D1 vx_2029 (ai_D1 vx_2027 (ai_D1 vx_2264 (ai_D1 vx_2276 (ai_D1 vx_2261 ai_D0))))))) (by decide +kernel)
-- X1_open
def cx_2278 : ai_C := (20, [.r 6, .r 1, .r 106, .r 106, .i (-2147483648) 2147483647], [], none, ([(6, 3), (6, 4), (6, 5), (6, 6), (6, 12), (6, 13), (1015, 0), (1015, 1), (1015, 2), (1015, 3), (1016, 0), (1016, 1), (1016, 2), (1016, 3)], [7, 1010]))
set_option maxRecDepth 1000000 in
theorem vx_2278 : ai_valid ai_Tb cx_2278 := ai_chkH_ok (n := 30) (D := [cx_2020, cx_2262, cx_2029, cx_2264, cx_2276, cx_2266]) ai_TbK (ai_D1 vx_2020 (ai_D1 vx_2262 (ai_D1 vx_2029 (ai_D1 vx_2264 (ai_D1 vx_2276 (ai_D1 vx_2266 ai_D0)))))) (by decide +kernel)
-- X1_open
def cx_2279 : ai_C := (20, [.r 6, .r 1, .r 106, .r 105, .i (-2147483648) 2147483647], [], none, ([(6, 3), (6, 4), (6, 5), (6, 6), (6, 12), (6, 13), (1015, 0), (1015, 1), (1015, 2), (1015, 3), (1016, 0), (1016, 1), (1016, 2), (1016, 3)], [7, 1010]))
set_option maxRecDepth 1000000 in
theorem vx_2279 : ai_valid ai_Tb cx_2279 := ai_chkH_ok (n := 30) (D := [cx_2020, cx_2262, cx_2029, cx_2031, cx_2264, cx_2276, cx_2268]) ai_TbK (ai_D1 vx_2020 (ai_D1 vx_2262 (ai_D1 vx_2029 (ai_D1 vx_2031 (ai_D1 vx_2264 (ai_D1 vx_2276 (ai_D1 vx_2268 ai_D0))))))) (by decide +kernel)
-- X1_open
def cx_2280 : ai_C := (20, [.r 6, .r 1, .r 106, .r 104, .i (-2147483648) 2147483647], [], none, ([(6, 3), (6, 4), (6, 5), (6, 6), (6, 12), (6, 13), (1015, 0), (1015, 1), (1015, 2), (1015, 3), (1016, 0), (1016, 1), (1016, 2), (1016, 3)], [7, 1010]))
set_option maxRecDepth 1000000 in
theorem vx_2280 : ai_valid ai_Tb cx_2280 := ai_chkH_ok (n := 30) (D := [cx_2020, cx_2262, cx_2029, cx_2033, cx_2264, cx_2276, cx_2270]) ai_TbK (ai_D1 vx_2020 (ai_D1 vx_2262 (ai_D1 vx_2029 (ai_D1 vx_2033 (ai_D1 vx_2264 (ai_D1 vx_2276 (ai_D1 vx_2270 ai_D0))))))) (by decide +kernel)
-- X1_open
def cx_2281 : ai_C := (20, [.r 6, .r 1, .r 106, .r 103, .i (-2147483648) 2147483647], [], none, ([(6, 3), (6, 4), (6, 5), (6, 6), (6, 12), (6, 13), (1015, 0), (1015, 1), (1015, 2), (1015, 3), (1016, 0), (1016, 1), (1016, 2), (1016, 3)], [7, 1010]))
set_option maxRecDepth 1000000 in
theorem vx_2281 : ai_valid ai_Tb cx_2281 := ai_chkH_ok (n := 30) (D := [cx_2020, cx_2262, cx_2029, cx_2035, cx_2264, cx_2276, cx_2272]) ai_TbK (ai_D1 vx_2020 (ai_D1 vx_2262 (ai_D1 vx_2029 (ai_D1 vx_2035 (ai_D1 vx_2264 (ai_D1 vx_2276 (ai_D1 vx_2272 ai_D0))))))) (by decide +kernel)
-- X1_open
def cx_2282 : ai_C := (20, [.r 6, .r 1, .r 106, .r 102, .i (-2147483648) 2147483647], [], none, ([(6, 3), (6, 4), (6, 5), (6, 6), (6, 12), (6, 13), (1015, 0), (1015, 1), (1015, 2), (1015, 3), (1016, 0), (1016, 1), (1016, 2), (1016, 3)], [7, 1010]))
set_option maxRecDepth 1000000 in
theorem vx_2282 : ai_valid ai_Tb cx_2282 := ai_chkH_ok (n := 30) (D := [cx_2020, cx_2262, cx_2029, cx_2037, cx_2264, cx_2276, cx_2274]) ai_TbK (ai_D1 vx_2020 (ai_D1 vx_2262 (ai_D1 vx_2029 (ai_D1 vx_2037 (ai_D1 vx_2264 (ai_D1 vx_2276 (ai_D1 vx_2274 ai_D0))))))) (by decide +kernel)
-- X8_copy
def cx_2283 : ai_C := (95, [.r 15, .r 105], [], none, ([(1015, 0), (1015, 1), (1015, 2), (1015, 3)], []))
set_option maxRecDepth 1000000 in
theorem vx_2283 : ai_valid ai_Tb cx_2283 := ai_chkH_ok (n := 18) (D := []) ai_TbK ai_D0 (by decide +kernel)
-- X1_open
def cx_2284 : ai_C := (20, [.r 6, .r 1, .r 105, .r 107, .i (-2147483648) 2147483647], [], none, ([(6, 3), (6, 4), (6, 5), (6, 6), (6, 12), (6, 13), (1015, 0), (1015, 1), (1015, 2), (1015, 3), (1016, 0), (1016, 1), (1016, 2), (1016, 3)], [7, 1010]))
set_option maxRecDepth 1000000 in
theorem vx_2284 : ai_valid ai_Tb cx_2284 := ai_chkH_ok (n := 30) (D := [cx_2020, cx_2262, cx_2031, cx_2027, cx_2264, cx_2283, cx_2261]) ai_TbK (ai_D1 vx_2020 (ai_D1 vx_2262 (ai_D1 vx_2031 (ai_D1 vx_2027 (ai_D1 vx_2264 (ai_D1 vx_2283 (ai_D1 vx_2261 ai_D0))))))) (by decide +kernel)
-- X1_open
def cx_2285 : ai_C := (20, [.r 6, .r 1, .r 105, .r 106, .i (-2147483648) 2147483647], [], none, ([(6, 3), (6, 4), (6, 5), (6, 6), (6, 12), (6, 13), (1015, 0), (1015, 1), (1015, 2), (1015, 3), (1016, 0), (1016, 1), (1016, 2), (1016, 3)], [7, 1010]))
set_option maxRecDepth 1000000 in
theorem vx_2285 : ai_valid ai_Tb cx_2285 := ai_chkH_ok (n := 30) (D := [cx_2020, cx_2262, cx_2031, cx_2029, cx_2264, cx_2283, cx_2266]) ai_TbK (ai_D1 vx_2020 (ai_D1 vx_2262 (ai_D1 vx_2031 (ai_D1 vx_2029 (ai_D1 vx_2264 (ai_D1 vx_2283 (ai_D1 vx_2266 ai_D0))))))) (by decide +kernel)
-- X1_open
def cx_2286 : ai_C := (20, [.r 6, .r 1, .r 105, .r 105, .i (-2147483648) 2147483647], [], none, ([(6, 3), (6, 4), (6, 5), (6, 6), (6, 12), (6, 13), (1015, 0), (1015, 1), (1015, 2), (1015, 3), (1016, 0), (1016, 1), (1016, 2), (1016, 3)], [7, 1010]))
set_option maxRecDepth 1000000 in
theorem vx_2286 : ai_valid ai_Tb cx_2286 := ai_chkH_ok (n := 30) (D := [cx_2020, cx_2262, cx_2031, cx_2264, cx_2283, cx_2268]) ai_TbK (ai_D1 vx_2020 (ai_D1 vx_2262 (ai_D1 vx_2031 (ai_D1 vx_2264 (ai_D1 vx_2283 (ai_D1 vx_2268 ai_D0)))))) (by decide +kernel)
-- X1_open
def cx_2287 : ai_C := (20, [.r 6, .r 1, .r 105, .r 104, .i (-2147483648) 2147483647], [], none, ([(6, 3), (6, 4), (6, 5), (6, 6), (6, 12), (6, 13), (1015, 0), (1015, 1), (1015, 2), (1015, 3), (1016, 0), (1016, 1), (1016, 2), (1016, 3)], [7, 1010]))
set_option maxRecDepth 1000000 in
theorem vx_2287 : ai_valid ai_Tb cx_2287 := ai_chkH_ok (n := 30) (D := [cx_2020, cx_2262, cx_2031, cx_2033, cx_2264, cx_2283, cx_2270]) ai_TbK (ai_D1 vx_2020 (ai_D1 vx_2262 (ai_D1 vx_2031 (ai_D1 vx_2033 (ai_D1 vx_2264 (ai_D1 vx_2283 (ai_D1 vx_2270 ai_D0))))))) (by decide +kernel)
-- X1_open
def cx_2288 : ai_C := (20, [.r 6, .r 1, .r 105, .r 103, .i (-2147483648) 2147483647], [], none, ([(6, 3), (6, 4), (6, 5), (6, 6), (6, 12), (6, 13), (1015, 0), (1015, 1), (1015, 2), (1015, 3), (1016, 0), (1016, 1), (1016, 2), (1016, 3)], [7, 1010]))
set_option maxRecDepth 1000000 in
theorem vx_2288 : ai_valid ai_Tb cx_2288 := ai_chkH_ok (n := 30) (D := [cx_2020, cx_2262, cx_2031, cx_2035, cx_2264, cx_2283, cx_2272]) ai_TbK (ai_D1 vx_2020 (ai_D1 vx_2262 (ai_D1 vx_2031 (ai_D1 vx_2035 (ai_D1 vx_2264 (ai_D1 vx_2283 (ai_D1 vx_2272 ai_D0))))))) (by decide +kernel)
-- X1_open
def cx_2289 : ai_C := (20, [.r 6, .r 1, .r 105, .r 102, .i (-2147483648) 2147483647], [], none, ([(6, 3), (6, 4), (6, 5), (6, 6), (6, 12), (6, 13), (1015, 0), (1015, 1), (1015, 2), (1015, 3), (1016, 0), (1016, 1), (1016, 2), (1016, 3)], [7, 1010]))
set_option maxRecDepth 1000000 in
theorem vx_2289 : ai_valid ai_Tb cx_2289 := ai_chkH_ok (n := 30) (D := [cx_2020, cx_2262, cx_2031, cx_2037, cx_2264, cx_2283, cx_2274]) ai_TbK (ai_D1 vx_2020 (ai_D1 vx_2262 (ai_D1 vx_2031 (ai_D1 vx_2037 (ai_D1 vx_2264 (ai_D1 vx_2283 (ai_D1 vx_2274 ai_D0))))))) (by decide +kernel)
-- X8_copy
def cx_2290 : ai_C := (95, [.r 15, .r 104], [], none, ([(1015, 0), (1015, 1), (1015, 2), (1015, 3)], []))
set_option maxRecDepth 1000000 in
theorem vx_2290 : ai_valid ai_Tb cx_2290 := ai_chkH_ok (n := 18) (D := []) ai_TbK ai_D0 (by decide +kernel)
-- X1_open
def cx_2291 : ai_C := (20, [.r 6, .r 1, .r 104, .r 107, .i (-2147483648) 2147483647], [], none, ([(6, 3), (6, 4), (6, 5), (6, 6), (6, 12), (6, 13), (1015, 0), (1015, 1), (1015, 2), (1015, 3), (1016, 0), (1016, 1), (1016, 2), (1016, 3)], [7, 1010]))
set_option maxRecDepth 1000000 in
theorem vx_2291 : ai_valid ai_Tb cx_2291 := ai_chkH_ok (n := 30) (D := [cx_2020, cx_2262, cx_2033, cx_2027, cx_2264, cx_2290, cx_2261]) ai_TbK (ai_D1 vx_2020 (ai_D1 vx_2262 (ai_D1 vx_2033 (ai_D1 vx_2027 (ai_D1 vx_2264 (ai_D1 vx_2290 (ai_D1 vx_2261 ai_D0))))))) (by decide +kernel)
-- X1_open
def cx_2292 : ai_C := (20, [.r 6, .r 1, .r 104, .r 106, .i (-2147483648) 2147483647], [], none, ([(6, 3), (6, 4), (6, 5), (6, 6), (6, 12), (6, 13), (1015, 0), (1015, 1), (1015, 2), (1015, 3), (1016, 0), (1016, 1), (1016, 2), (1016, 3)], [7, 1010]))
set_option maxRecDepth 1000000 in
theorem vx_2292 : ai_valid ai_Tb cx_2292 := ai_chkH_ok (n := 30) (D := [cx_2020, cx_2262, cx_2033, cx_2029, cx_2264, cx_2290, cx_2266]) ai_TbK (ai_D1 vx_2020 (ai_D1 vx_2262 (ai_D1 vx_2033 (ai_D1 vx_2029 (ai_D1 vx_2264 (ai_D1 vx_2290 (ai_D1 vx_2266 ai_D0))))))) (by decide +kernel)
-- X1_open
def cx_2293 : ai_C := (20, [.r 6, .r 1, .r 104, .r 105, .i (-2147483648) 2147483647], [], none, ([(6, 3), (6, 4), (6, 5), (6, 6), (6, 12), (6, 13), (1015, 0), (1015, 1), (1015, 2), (1015, 3), (1016, 0), (1016, 1), (1016, 2), (1016, 3)], [7, 1010]))
set_option maxRecDepth 1000000 in
theorem vx_2293 : ai_valid ai_Tb cx_2293 := ai_chkH_ok (n := 30) (D := [cx_2020, cx_2262, cx_2033, cx_2031, cx_2264, cx_2290, cx_2268]) ai_TbK (ai_D1 vx_2020 (ai_D1 vx_2262 (ai_D1 vx_2033 (ai_D1 vx_2031 (ai_D1 vx_2264 (ai_D1 vx_2290 (ai_D1 vx_2268 ai_D0))))))) (by decide +kernel)
-- X1_open
def cx_2294 : ai_C := (20, [.r 6, .r 1, .r 104, .r 104, .i (-2147483648) 2147483647], [], none, ([(6, 3), (6, 4), (6, 5), (6, 6), (6, 12), (6, 13), (1015, 0), (1015, 1), (1015, 2), (1015, 3), (1016, 0), (1016, 1), (1016, 2), (1016, 3)], [7, 1010]))
set_option maxRecDepth 1000000 in
theorem vx_2294 : ai_valid ai_Tb cx_2294 := ai_chkH_ok (n := 30) (D := [cx_2020, cx_2262, cx_2033, cx_2264, cx_2290, cx_2270]) ai_TbK (ai_D1 vx_2020 (ai_D1 vx_2262 (ai_D1 vx_2033 (ai_D1 vx_2264 (ai_D1 vx_2290 (ai_D1 vx_2270 ai_D0)))))) (by decide +kernel)
-- X1_open
def cx_2295 : ai_C := (20, [.r 6, .r 1, .r 104, .r 103, .i (-2147483648) 2147483647], [], none, ([(6, 3), (6, 4), (6, 5), (6, 6), (6, 12), (6, 13), (1015, 0), (1015, 1), (1015, 2), (1015, 3), (1016, 0), (1016, 1), (1016, 2), (1016, 3)], [7, 1010]))
set_option maxRecDepth 1000000 in
theorem vx_2295 : ai_valid ai_Tb cx_2295 := ai_chkH_ok (n := 30) (D := [cx_2020, cx_2262, cx_2033, cx_2035, cx_2264, cx_2290, cx_2272]) ai_TbK (ai_D1 vx_2020 (ai_D1 vx_2262 (ai_D1 vx_2033 (ai_D1 vx_2035 (ai_D1 vx_2264 (ai_D1 vx_2290 (ai_D1 vx_2272 ai_D0))))))) (by decide +kernel)
-- X1_open
def cx_2296 : ai_C := (20, [.r 6, .r 1, .r 104, .r 102, .i (-2147483648) 2147483647], [], none, ([(6, 3), (6, 4), (6, 5), (6, 6), (6, 12), (6, 13), (1015, 0), (1015, 1), (1015, 2), (1015, 3), (1016, 0), (1016, 1), (1016, 2), (1016, 3)], [7, 1010]))
set_option maxRecDepth 1000000 in
theorem vx_2296 : ai_valid ai_Tb cx_2296 := ai_chkH_ok (n := 30) (D := [cx_2020, cx_2262, cx_2033, cx_2037, cx_2264, cx_2290, cx_2274]) ai_TbK (ai_D1 vx_2020 (ai_D1 vx_2262 (ai_D1 vx_2033 (ai_D1 vx_2037 (ai_D1 vx_2264 (ai_D1 vx_2290 (ai_D1 vx_2274 ai_D0))))))) (by decide +kernel)
-- X8_copy
def cx_2297 : ai_C := (95, [.r 15, .r 103], [], none, ([(1015, 0), (1015, 1), (1015, 2), (1015, 3)], []))
set_option maxRecDepth 1000000 in
theorem vx_2297 : ai_valid ai_Tb cx_2297 := ai_chkH_ok (n := 18) (D := []) ai_TbK ai_D0 (by decide +kernel)
-- X1_open
def cx_2298 : ai_C := (20, [.r 6, .r 1, .r 103, .r 107, .i (-2147483648) 2147483647], [], none, ([(6, 3), (6, 4), (6, 5), (6, 6), (6, 12), (6, 13), (1015, 0), (1015, 1), (1015, 2), (1015, 3), (1016, 0), (1016, 1), (1016, 2), (1016, 3)], [7, 1010]))
set_option maxRecDepth 1000000 in
theorem vx_2298 : ai_valid ai_Tb cx_2298 := ai_chkH_ok (n := 30) (D := [cx_2020, cx_2262, cx_2035, cx_2027, cx_2264, cx_2297, cx_2261]) ai_TbK (ai_D1 vx_2020 (ai_D1 vx_2262 (ai_D1 vx_2035 (ai_D1 vx_2027 (ai_D1 vx_2264 (ai_D1 vx_2297 (ai_D1 vx_2261 ai_D0))))))) (by decide +kernel)
-- X1_open
def cx_2299 : ai_C := (20, [.r 6, .r 1, .r 103, .r 106, .i (-2147483648) 2147483647], [], none, ([(6, 3), (6, 4), (6, 5), (6, 6), (6, 12), (6, 13), (1015, 0), (1015, 1), (1015, 2), (1015, 3), (1016, 0), (1016, 1), (1016, 2), (1016, 3)], [7, 1010]))
set_option maxRecDepth 1000000 in
theorem vx_2299 : ai_valid ai_Tb cx_2299 := ai_chkH_ok (n := 30) (D := [cx_2020, cx_2262, cx_2035, cx_2029, cx_2264, cx_2297, cx_2266]) ai_TbK (ai_D1 vx_2020 (ai_D1 vx_2262 (ai_D1 vx_2035 (ai_D1 vx_2029 (ai_D1 vx_2264 (ai_D1 vx_2297 (ai_D1 vx_2266 ai_D0))))))) (by decide +kernel)
-- X1_open
def cx_2300 : ai_C := (20, [.r 6, .r 1, .r 103, .r 105, .i (-2147483648) 2147483647], [], none, ([(6, 3), (6, 4), (6, 5), (6, 6), (6, 12), (6, 13), (1015, 0), (1015, 1), (1015, 2), (1015, 3), (1016, 0), (1016, 1), (1016, 2), (1016, 3)], [7, 1010]))
set_option maxRecDepth 1000000 in
theorem vx_2300 : ai_valid ai_Tb cx_2300 := ai_chkH_ok (n := 30) (D := [cx_2020, cx_2262, cx_2035, cx_2031, cx_2264, cx_2297, cx_2268]) ai_TbK (ai_D1 vx_2020 (ai_D1 vx_2262 (ai_D1 vx_2035 (ai_D1 vx_2031 (ai_D1 vx_2264 (ai_D1 vx_2297 (ai_D1 vx_2268 ai_D0))))))) (by decide +kernel)
-- X1_open
def cx_2301 : ai_C := (20, [.r 6, .r 1, .r 103, .r 104, .i (-2147483648) 2147483647], [], none, ([(6, 3), (6, 4), (6, 5), (6, 6), (6, 12), (6, 13), (1015, 0), (1015, 1), (1015, 2), (1015, 3), (1016, 0), (1016, 1), (1016, 2), (1016, 3)], [7, 1010]))
set_option maxRecDepth 1000000 in
theorem vx_2301 : ai_valid ai_Tb cx_2301 := ai_chkH_ok (n := 30) (D := [cx_2020, cx_2262, cx_2035, cx_2033, cx_2264, cx_2297, cx_2270]) ai_TbK (ai_D1 vx_2020 (ai_D1 vx_2262 (ai_D1 vx_2035 (ai_D1 vx_2033 (ai_D1 vx_2264 (ai_D1 vx_2297 (ai_D1 vx_2270 ai_D0))))))) (by decide +kernel)
-- X1_open
def cx_2302 : ai_C := (20, [.r 6, .r 1, .r 103, .r 103, .i (-2147483648) 2147483647], [], none, ([(6, 3), (6, 4), (6, 5), (6, 6), (6, 12), (6, 13), (1015, 0), (1015, 1), (1015, 2), (1015, 3), (1016, 0), (1016, 1), (1016, 2), (1016, 3)], [7, 1010]))
set_option maxRecDepth 1000000 in
theorem vx_2302 : ai_valid ai_Tb cx_2302 := ai_chkH_ok (n := 30) (D := [cx_2020, cx_2262, cx_2035, cx_2264, cx_2297, cx_2272]) ai_TbK (ai_D1 vx_2020 (ai_D1 vx_2262 (ai_D1 vx_2035 (ai_D1 vx_2264 (ai_D1 vx_2297 (ai_D1 vx_2272 ai_D0)))))) (by decide +kernel)
-- X1_open
def cx_2303 : ai_C := (20, [.r 6, .r 1, .r 103, .r 102, .i (-2147483648) 2147483647], [], none, ([(6, 3), (6, 4), (6, 5), (6, 6), (6, 12), (6, 13), (1015, 0), (1015, 1), (1015, 2), (1015, 3), (1016, 0), (1016, 1), (1016, 2), (1016, 3)], [7, 1010]))
set_option maxRecDepth 1000000 in
theorem vx_2303 : ai_valid ai_Tb cx_2303 := ai_chkH_ok (n := 30) (D := [cx_2020, cx_2262, cx_2035, cx_2037, cx_2264, cx_2297, cx_2274]) ai_TbK (ai_D1 vx_2020 (ai_D1 vx_2262 (ai_D1 vx_2035 (ai_D1 vx_2037 (ai_D1 vx_2264 (ai_D1 vx_2297 (ai_D1 vx_2274 ai_D0))))))) (by decide +kernel)
-- X8_copy
def cx_2304 : ai_C := (95, [.r 15, .r 102], [], none, ([(1015, 0), (1015, 1), (1015, 2), (1015, 3)], []))
set_option maxRecDepth 1000000 in
theorem vx_2304 : ai_valid ai_Tb cx_2304 := ai_chkH_ok (n := 18) (D := []) ai_TbK ai_D0 (by decide +kernel)
-- X1_open
def cx_2305 : ai_C := (20, [.r 6, .r 1, .r 102, .r 107, .i (-2147483648) 2147483647], [], none, ([(6, 3), (6, 4), (6, 5), (6, 6), (6, 12), (6, 13), (1015, 0), (1015, 1), (1015, 2), (1015, 3), (1016, 0), (1016, 1), (1016, 2), (1016, 3)], [7, 1010]))
set_option maxRecDepth 1000000 in
theorem vx_2305 : ai_valid ai_Tb cx_2305 := ai_chkH_ok (n := 30) (D := [cx_2020, cx_2262, cx_2037, cx_2027, cx_2264, cx_2304, cx_2261]) ai_TbK (ai_D1 vx_2020 (ai_D1 vx_2262 (ai_D1 vx_2037 (ai_D1 vx_2027 (ai_D1 vx_2264 (ai_D1 vx_2304 (ai_D1 vx_2261 ai_D0))))))) (by decide +kernel)
-- X1_open
def cx_2306 : ai_C := (20, [.r 6, .r 1, .r 102, .r 106, .i (-2147483648) 2147483647], [], none, ([(6, 3), (6, 4), (6, 5), (6, 6), (6, 12), (6, 13), (1015, 0), (1015, 1), (1015, 2), (1015, 3), (1016, 0), (1016, 1), (1016, 2), (1016, 3)], [7, 1010]))
set_option maxRecDepth 1000000 in
theorem vx_2306 : ai_valid ai_Tb cx_2306 := ai_chkH_ok (n := 30) (D := [cx_2020, cx_2262, cx_2037, cx_2029, cx_2264, cx_2304, cx_2266]) ai_TbK (ai_D1 vx_2020 (ai_D1 vx_2262 (ai_D1 vx_2037 (ai_D1 vx_2029 (ai_D1 vx_2264 (ai_D1 vx_2304 (ai_D1 vx_2266 ai_D0))))))) (by decide +kernel)
-- X1_open
def cx_2307 : ai_C := (20, [.r 6, .r 1, .r 102, .r 105, .i (-2147483648) 2147483647], [], none, ([(6, 3), (6, 4), (6, 5), (6, 6), (6, 12), (6, 13), (1015, 0), (1015, 1), (1015, 2), (1015, 3), (1016, 0), (1016, 1), (1016, 2), (1016, 3)], [7, 1010]))
set_option maxRecDepth 1000000 in
theorem vx_2307 : ai_valid ai_Tb cx_2307 := ai_chkH_ok (n := 30) (D := [cx_2020, cx_2262, cx_2037, cx_2031, cx_2264, cx_2304, cx_2268]) ai_TbK (ai_D1 vx_2020 (ai_D1 vx_2262 (ai_D1 vx_2037 (ai_D1 vx_2031 (ai_D1 vx_2264 (ai_D1 vx_2304 (ai_D1 vx_2268 ai_D0))))))) (by decide +kernel)
-- X1_open
def cx_2308 : ai_C := (20, [.r 6, .r 1, .r 102, .r 104, .i (-2147483648) 2147483647], [], none, ([(6, 3), (6, 4), (6, 5), (6, 6), (6, 12), (6, 13), (1015, 0), (1015, 1), (1015, 2), (1015, 3), (1016, 0), (1016, 1), (1016, 2), (1016, 3)], [7, 1010]))
set_option maxRecDepth 1000000 in
theorem vx_2308 : ai_valid ai_Tb cx_2308 := ai_chkH_ok (n := 30) (D := [cx_2020, cx_2262, cx_2037, cx_2033, cx_2264, cx_2304, cx_2270]) ai_TbK (ai_D1 vx_2020 (ai_D1 vx_2262 (ai_D1 vx_2037 (ai_D1 vx_2033 (ai_D1 vx_2264 (ai_D1 vx_2304 (ai_D1 vx_2270 ai_D0))))))) (by decide +kernel)
-- X1_open
def cx_2309 : ai_C := (20, [.r 6, .r 1, .r 102, .r 103, .i (-2147483648) 2147483647], [], none, ([(6, 3), (6, 4), (6, 5), (6, 6), (6, 12), (6, 13), (1015, 0), (1015, 1), (1015, 2), (1015, 3), (1016, 0), (1016, 1), (1016, 2), (1016, 3)], [7, 1010]))
set_option maxRecDepth 1000000 in
theorem vx_2309 : ai_valid ai_Tb cx_2309 := ai_chkH_ok (n := 30) (D := [cx_2020, cx_2262, cx_2037, cx_2035, cx_2264, cx_2304, cx_2272]) ai_TbK (ai_D1 vx_2020 (ai_D1 vx_2262 (ai_D1 vx_2037 (ai_D1 vx_2035 (ai_D1 vx_2264 (ai_D1 vx_2304 (ai_D1 vx_2272 ai_D0))))))) (by decide +kernel)
-- X1_open
def cx_2310 : ai_C := (20, [.r 6, .r 1, .r 102, .r 102, .i (-2147483648) 2147483647], [], none, ([(6, 3), (6, 4), (6, 5), (6, 6), (6, 12), (6, 13), (1015, 0), (1015, 1), (1015, 2), (1015, 3), (1016, 0), (1016, 1), (1016, 2), (1016, 3)], [7, 1010]))
set_option maxRecDepth 1000000 in
theorem vx_2310 : ai_valid ai_Tb cx_2310 := ai_chkH_ok (n := 30) (D := [cx_2020, cx_2262, cx_2037, cx_2264, cx_2304, cx_2274]) ai_TbK (ai_D1 vx_2020 (ai_D1 vx_2262 (ai_D1 vx_2037 (ai_D1 vx_2264 (ai_D1 vx_2304 (ai_D1 vx_2274 ai_D0)))))) (by decide +kernel)
-- X1_number
def cx_2311 : ai_C := (14, [.r 6, .i (-2147483648) 2147483647, .i (-2147483648) 2147483647, .i (-2147483648) 2147483647], [], some [.i (-2147483648) 2147483647], ([], []))
set_option maxRecDepth 1000000 in
theorem vx_2311 : ai_valid ai_Tb cx_2311 := ai_chkH_ok (n := 26) (D := []) ai_TbK ai_D0 (by decide +kernel)
-- X1_floorAt
def cx_2312 : ai_C := (15, [.r 6, .i (-2147483648) 2147483647, .i (-2147483648) 2147483647], [], some [.i (-2147483648) 2147483647], ([], []))
set_option maxRecDepth 1000000 in
theorem vx_2312 : ai_valid ai_Tb cx_2312 := ai_chkH_ok (n := 7) (D := [cx_2311]) ai_TbK (ai_D1 vx_2311 ai_D0) (by decide +kernel)
-- X10_begin
def cx_2313 : ai_C := (115, [.r 0, .i (-2147483648) 2147483647, .i (-2147483648) 2147483647], [(46, [.r 0, .i 0 5, .i 0 5], [], (.n 3, .n 0, .n 8000000000)), (56, [.r 0, .i 0 5, .i 0 5], [], (.n 2, .n 0, .n 8000000000)), (88, [.r 0, .i 0 5, .i 0 5], [], (.n 1, .n 0, .n 8000000000))], some [.i (-2147483648) 2147483647], ([(6, 3), (6, 4), (6, 5), (6, 6), (6, 12), (6, 13), (23, 4), (23, 5), (28, 0), (28, 1), (28, 2), (28, 6), (28, 7), (29, 0), (29, 1), (29, 2), (29, 3), (29, 4), (29, 5), (29, 6), (29, 7), (29, 8), (29, 9), (29, 10), (29, 11), (29, 12), (29, 13), (29, 14), (29, 15), (29, 16), (29, 17), (29, 18), (29, 19), (29, 20), (29, 21), (29, 22), (29, 23), (30, 1), (33, 0), (33, 1), (33, 2), (33, 6), (33, 7), (34, 0), (34, 1), (34, 2), (34, 3), (34, 4), (34, 5), (34, 6), (34, 7), (34, 8), (34, 9), (34, 10), (34, 11), (34, 12), (34, 13), (34, 14), (34, 15), (34, 16), (34, 17), (34, 18), (34, 19), (34, 20), (34, 21), (34, 22), (34, 23), (35, 1), (38, 0), (38, 1), (38, 2), (38, 6), (38, 7), (39, 0), (39, 1), (39, 2), (39, 3), (39, 4), (39, 5), (39, 6), (39, 7), (39, 8), (39, 9), (39, 10), (39, 11), (39, 12), (39, 13), (39, 14), (39, 15), (39, 16), (39, 17), (39, 18), (39, 19), (39, 20), (39, 21), (39, 22), (39, 23), (40, 1), (43, 0), (43, 1), (43, 2), (43, 6), (43, 7), (44, 0), (44, 1), (44, 2), (44, 3), (44, 4), (44, 5), (44, 6), (44, 7), (44, 8), (44, 9), (44, 10), (44, 11), (44, 12), (44, 13), (44, 14), (44, 15), (44, 16), (44, 17), (44, 18), (44, 19), (44, 20), (44, 21), (44, 22), (44, 23), (45, 1), (48, 0), (48, 1), (48, 2), (48, 6), (48, 7), (49, 0), (49, 1), (49, 2), (49, 3), (49, 4), (49, 5), (49, 6), (49, 7), (49, 8), (49, 9), (49, 10), (49, 11), (49, 12), (49, 13), (49, 14), (49, 15), (49, 16), (49, 17), (49, 18), (49, 19), (49, 20), (49, 21), (49, 22), (49, 23), (50, 1), (53, 0), (53, 1), (53, 2), (53, 6), (53, 7), (54, 0), (54, 1), (54, 2), (54, 3), (54, 4), (54, 5), (54, 6), (54, 7), (54, 8), (54, 9), (54, 10), (54, 11), (54, 12), (54, 13), (54, 14), (54, 15), (54, 16), (54, 17), (54, 18), (54, 19), (54, 20), (54, 21), (54, 22), (54, 23), (55, 1), (58, 0), (58, 1), (58, 2), (58, 6), (58, 7), (59, 0), (59, 1), (59, 2), (59, 3), (59, 4), (59, 5), (59, 6), (59, 7), (59, 8), (59, 9), (59, 10), (59, 11), (59, 12), (59, 13), (59, 14), (59, 15), (59, 16), (59, 17), (59, 18), (59, 19), (59, 20), (59, 21), (59, 22), (59, 23), (60, 1), (63, 0), (63, 1), (63, 2), (63, 6), (63, 7), (64, 0), (64, 1), (64, 2), (64, 3), (64, 4), (64, 5), (64, 6), (64, 7), (64, 8), (64, 9), (64, 10), (64, 11), (64, 12), (64, 13), (64, 14), (64, 15), (64, 16), (64, 17), (64, 18), (64, 19), (64, 20), (64, 21), (64, 22), (64, 23), (65, 1), (78, 1), (79, 1), (79, 3), (1015, 0), (1015, 1), (1015, 2), (1015, 3), (1016, 0), (1016, 1), (1016, 2), (1016, 3)], [7, 25, 31, 32, 36, 37, 41, 42, 46, 47, 51, 52, 56, 57, 61, 62, 66, 67, 1010]))
set_option maxRecDepth 1000000 in
theorem vx_2313 : ai_valid ai_Tb cx_2313 := ai_chkH_ok (n := 48) (D := [cx_2312, cx_2214, cx_2217, cx_2220, cx_2223, cx_2226, cx_2229, cx_2230, cx_2231, cx_2232, cx_2233, cx_2234, cx_2235, cx_2236, cx_2237, cx_2238, cx_2239, cx_2240, cx_2241, cx_2242, cx_2243, cx_2244, cx_2245, cx_2246, cx_2247, cx_2248, cx_2249, cx_2250, cx_2251, cx_2252, cx_2253, cx_2254, cx_2255, cx_2256, cx_2257, cx_2258, cx_2259, cx_2265, cx_2267, cx_2269, cx_2271, cx_2273, cx_2275, cx_2277, cx_2278, cx_2279, cx_2280, cx_2281, cx_2282, cx_2284, cx_2285, cx_2286, cx_2287, cx_2288, cx_2289, cx_2291, cx_2292, cx_2293, cx_2294, cx_2295, cx_2296, cx_2298, cx_2299, cx_2300, cx_2301, cx_2302, cx_2303, cx_2305, cx_2306, cx_2307, cx_2308, cx_2309, cx_2310, cx_2012]) ai_TbK (ai_D1 vx_2312 (ai_D1 vx_2214 (ai_D1 vx_2217 (ai_D1 vx_2220 (ai_D1 vx_2223 (ai_D1 vx_2226 (ai_D1 vx_2229 (ai_D1 vx_2230 (ai_D1 vx_2231 (ai_D1 vx_2232 (ai_D1 vx_2233 (ai_D1 vx_2234 (ai_D1 vx_2235 (ai_D1 vx_2236 (ai_D1 vx_2237 (ai_D1 vx_2238 (ai_D1 vx_2239 (ai_D1 vx_2240 (ai_D1 vx_2241 (ai_D1 vx_2242 (ai_D1 vx_2243 (ai_D1 vx_2244 (ai_D1 vx_2245 (ai_D1 vx_2246 (ai_D1 vx_2247 (ai_D1 vx_2248 (ai_D1 vx_2249 (ai_D1 vx_2250 (ai_D1 vx_2251 (ai_D1 vx_2252 (ai_D1 vx_2253 (ai_D1 vx_2254 (ai_D1 vx_2255 (ai_D1 vx_2256 (ai_D1 vx_2257 (ai_D1 vx_2258 (ai_D1 vx_2259 (ai_D1 vx_2265 (ai_D1 vx_2267 (ai_D1 vx_2269 (ai_D1 vx_2271 (ai_D1 vx_2273 (ai_D1 vx_2275 (ai_D1 vx_2277 (ai_D1 vx_2278 (ai_D1 vx_2279 (ai_D1 vx_2280 (ai_D1 vx_2281 (ai_D1 vx_2282 (ai_D1 vx_2284 (ai_D1 vx_2285 (ai_D1 vx_2286 (ai_D1 vx_2287 (ai_D1 vx_2288 (ai_D1 vx_2289 (ai_D1 vx_2291 (ai_D1 vx_2292 (ai_D1 vx_2293 (ai_D1 vx_2294 (ai_D1 vx_2295 (ai_D1 vx_2296 (ai_D1 vx_2298 (ai_D1 vx_2299 (ai_D1 vx_2300 (ai_D1 vx_2301 (ai_D1 vx_2302 (ai_D1 vx_2303 (ai_D1 vx_2305 (ai_D1 vx_2306 (ai_D1 vx_2307 (ai_D1 vx_2308 (ai_D1 vx_2309 (ai_D1 vx_2310 (ai_D1 vx_2012 ai_D0)))))))))))))))))))))))))))))))))))))))))))))))))))))))))))))))))))))))))) (by decide +kernel)
-- X1_isOn
def cx_2314 : ai_C := (11, [.r 6], [], some [.i 0 1], ([], []))
set_option maxRecDepth 1000000 in
theorem vx_2314 : ai_valid ai_Tb cx_2314 := ai_chkH_ok (n := 8) (D := []) ai_TbK ai_D0 (by decide +kernel)
-- X1_isWhole
def cx_2315 : ai_C := (24, [.r 6, .i (-2147483648) 2147483647], [], some [.i 0 1], ([], []))
set_option maxRecDepth 1000000 in
theorem vx_2315 : ai_valid ai_Tb cx_2315 := ai_chkH_ok (n := 26) (D := [cx_2311]) ai_TbK (ai_D1 vx_2311 ai_D0) (by decide +kernel)
-- X1_ends
def cx_2316 : ai_C := (23, [.r 6], [], some [.i 0 1], ([], []))
set_option maxRecDepth 1000000 in
theorem vx_2316 : ai_valid ai_Tb cx_2316 := ai_chkH_ok (n := 15) (D := [cx_2315]) ai_TbK (ai_D1 vx_2315 ai_D0) (by decide +kernel)
-- X1_lay
def cx_2317 : ai_C := (16, [.r 6, .i (-2147483648) 2147483647, .i (-2147483648) 2147483647, .r 13], [], none, ([(1013, 0), (1013, 1), (1013, 2), (1013, 3)], []))
set_option maxRecDepth 1000000 in
theorem vx_2317 : ai_valid ai_Tb cx_2317 := ai_chkH_ok (n := 52) (D := []) ai_TbK ai_D0 (by decide +kernel)
-- X1_lay
def cx_2318 : ai_C := (16, [.r 6, .i (-2147483648) 2147483647, .i (-2147483648) 2147483647, .r 14], [], none, ([(1014, 0), (1014, 1), (1014, 2), (1014, 3)], []))
set_option maxRecDepth 1000000 in
theorem vx_2318 : ai_valid ai_Tb cx_2318 := ai_chkH_ok (n := 52) (D := []) ai_TbK ai_D0 (by decide +kernel)
-- X2_signOfDifference
def cx_2319 : ai_C := (48, [.r 1, .r 13, .r 14], [], some [.i (-1) 1], ([], []))
set_option maxRecDepth 1000000 in
theorem vx_2319 : ai_valid ai_Tb cx_2319 := ai_chkH_ok (n := 37) (D := [cx_2025]) ai_TbK (ai_D1 vx_2025 ai_D0) (by decide +kernel)
-- X8_copy
def cx_2320 : ai_C := (95, [.r 15, .r 13], [], none, ([(1015, 0), (1015, 1), (1015, 2), (1015, 3)], []))
set_option maxRecDepth 1000000 in
theorem vx_2320 : ai_valid ai_Tb cx_2320 := ai_chkH_ok (n := 18) (D := []) ai_TbK ai_D0 (by decide +kernel)
-- X8_copy
def cx_2321 : ai_C := (95, [.r 13, .r 14], [], none, ([(1013, 0), (1013, 1), (1013, 2), (1013, 3)], []))
set_option maxRecDepth 1000000 in
theorem vx_2321 : ai_valid ai_Tb cx_2321 := ai_chkH_ok (n := 18) (D := []) ai_TbK ai_D0 (by decide +kernel)
-- X8_copy
def cx_2322 : ai_C := (95, [.r 14, .r 15], [], none, ([(1014, 0), (1014, 1), (1014, 2), (1014, 3)], []))
set_option maxRecDepth 1000000 in
theorem vx_2322 : ai_valid ai_Tb cx_2322 := ai_chkH_ok (n := 18) (D := []) ai_TbK ai_D0 (by decide +kernel)
-- X1_layRests
def cx_2323 : ai_C := (26, [.r 6, .r 1], [], none, ([(6, 14), (1013, 0), (1013, 1), (1013, 2), (1013, 3), (1014, 0), (1014, 1), (1014, 2), (1014, 3), (1015, 0), (1015, 1), (1015, 2), (1015, 3)], []))
set_option maxRecDepth 1000000 in
theorem vx_2323 : ai_valid ai_Tb cx_2323 := ai_chkH_ok (n := 87) (D := [cx_2312, cx_2317, cx_2318, cx_2319, cx_2320, cx_2321, cx_2322]) ai_TbK (ai_D1 vx_2312 (ai_D1 vx_2317 (ai_D1 vx_2318 (ai_D1 vx_2319 (ai_D1 vx_2320 (ai_D1 vx_2321 (ai_D1 vx_2322 ai_D0))))))) (by decide +kernel)
-- X8_isZero
def cx_2324 : ai_C := (101, [.r 13], [], some [.i 0 1], ([], []))
set_option maxRecDepth 1000000 in
theorem vx_2324 : ai_valid ai_Tb cx_2324 := ai_chkH_ok (n := 19) (D := []) ai_TbK ai_D0 (by decide +kernel)
-- X4_under
def cx_2325 : ai_C := (73, [.r 2, .r 14, .i (-2147483648) 2147483647], [], some [.l (-9223372036854775808) 9223372036854775807], ([], []))
set_option maxRecDepth 1000000 in
theorem vx_2325 : ai_valid ai_Tb cx_2325 := ai_chkH_ok (n := 25) (D := [cx_2054]) ai_TbK (ai_D1 vx_2054 ai_D0) (by decide +kernel)
-- X8_put
def cx_2326 : ai_C := (93, [.r 15, .l (-9223372036854775808) 9223372036854775807, .l (-9223372036854775808) 9223372036854775807, .l (-9223372036854775808) 9223372036854775807, .l (-9223372036854775808) 9223372036854775807], [], none, ([(1015, 0), (1015, 1), (1015, 2), (1015, 3)], []))
set_option maxRecDepth 1000000 in
theorem vx_2326 : ai_valid ai_Tb cx_2326 := ai_chkH_ok (n := 60) (D := [cx_2013]) ai_TbK (ai_D1 vx_2013 ai_D0) (by decide +kernel)
-- X2_divide
def cx_2327 : ai_C := (52, [.r 1, .r 14, .r 13, .r 15], [], none, ([(1015, 0), (1015, 1), (1015, 2), (1015, 3)], [1003]))
set_option maxRecDepth 1000000 in
theorem vx_2327 : ai_valid ai_Tb cx_2327 := ai_chkH_ok (n := 62) (D := [cx_2053, cx_2057, cx_2058, cx_2325, cx_2326]) ai_TbK (ai_D1 vx_2053 (ai_D1 vx_2057 (ai_D1 vx_2058 (ai_D1 vx_2325 (ai_D1 vx_2326 ai_D0))))) (by decide +kernel)
-- X8_put
def cx_2328 : ai_C := (93, [.r 16, .l (-9223372036854775808) 9223372036854775807, .l (-9223372036854775808) 9223372036854775807, .l (-9223372036854775808) 9223372036854775807, .l (-9223372036854775808) 9223372036854775807], [], none, ([(1016, 0), (1016, 1), (1016, 2), (1016, 3)], []))
set_option maxRecDepth 1000000 in
theorem vx_2328 : ai_valid ai_Tb cx_2328 := ai_chkH_ok (n := 60) (D := [cx_2013]) ai_TbK (ai_D1 vx_2013 ai_D0) (by decide +kernel)
-- X4_under
def cx_2329 : ai_C := (73, [.r 2, .r 16, .i (-2147483648) 2147483647], [], some [.l (-9223372036854775808) 9223372036854775807], ([], []))
set_option maxRecDepth 1000000 in
theorem vx_2329 : ai_valid ai_Tb cx_2329 := ai_chkH_ok (n := 25) (D := [cx_2054]) ai_TbK (ai_D1 vx_2054 ai_D0) (by decide +kernel)
-- X2_divide
def cx_2330 : ai_C := (52, [.r 1, .r 16, .r 13, .r 16], [], none, ([(1016, 0), (1016, 1), (1016, 2), (1016, 3)], [1003]))
set_option maxRecDepth 1000000 in
theorem vx_2330 : ai_valid ai_Tb cx_2330 := ai_chkH_ok (n := 62) (D := [cx_2053, cx_2057, cx_2058, cx_2329, cx_2328]) ai_TbK (ai_D1 vx_2053 (ai_D1 vx_2057 (ai_D1 vx_2058 (ai_D1 vx_2329 (ai_D1 vx_2328 ai_D0))))) (by decide +kernel)
-- X8_canBe
def cx_2331 : ai_C := (99, [.r 15], [], some [.i 0 1], ([], []))
set_option maxRecDepth 1000000 in
theorem vx_2331 : ai_valid ai_Tb cx_2331 := ai_chkH_ok (n := 26) (D := [cx_2040]) ai_TbK (ai_D1 vx_2040 ai_D0) (by decide +kernel)
-- X8_canBe
def cx_2332 : ai_C := (99, [.r 16], [], some [.i 0 1], ([], []))
set_option maxRecDepth 1000000 in
theorem vx_2332 : ai_valid ai_Tb cx_2332 := ai_chkH_ok (n := 26) (D := [cx_2040]) ai_TbK (ai_D1 vx_2040 ai_D0) (by decide +kernel)
-- X2_signLess
def cx_2333 : ai_C := (47, [.r 1, .r 15, .l (-9223372036854775808) 9223372036854775807, .l (-9223372036854775808) 9223372036854775807], [], some [.i (-1) 1], ([], []))
set_option maxRecDepth 1000000 in
theorem vx_2333 : ai_valid ai_Tb cx_2333 := ai_chkH_ok (n := 21) (D := [cx_2025]) ai_TbK (ai_D1 vx_2025 ai_D0) (by decide +kernel)
-- X2_floor
def cx_2334 : ai_C := (49, [.r 1, .r 15], [(11, [.r 1, .r 15, .i (-2147483648) 2147483647, .i (-2147483648) 2147483647, .i 0 13, .u], [], (.v 4 13, .n 8000000000, .n 8000000000))], some [.i (-2147483648) 2147483647], ([], []))
set_option maxRecDepth 1000000 in
theorem vx_2334 : ai_valid ai_Tb cx_2334 := ai_chkH_ok (n := 23) (D := [cx_2333]) ai_TbK (ai_D1 vx_2333 ai_D0) (by decide +kernel)
-- X2_signLess
def cx_2335 : ai_C := (47, [.r 1, .r 16, .l (-9223372036854775808) 9223372036854775807, .l (-9223372036854775808) 9223372036854775807], [], some [.i (-1) 1], ([], []))
set_option maxRecDepth 1000000 in
theorem vx_2335 : ai_valid ai_Tb cx_2335 := ai_chkH_ok (n := 21) (D := [cx_2025]) ai_TbK (ai_D1 vx_2025 ai_D0) (by decide +kernel)
-- X2_floor
def cx_2336 : ai_C := (49, [.r 1, .r 16], [(11, [.r 1, .r 16, .i (-2147483648) 2147483647, .i (-2147483648) 2147483647, .i 0 13, .u], [], (.v 4 13, .n 8000000000, .n 8000000000))], some [.i (-2147483648) 2147483647], ([], []))
set_option maxRecDepth 1000000 in
theorem vx_2336 : ai_valid ai_Tb cx_2336 := ai_chkH_ok (n := 23) (D := [cx_2335]) ai_TbK (ai_D1 vx_2335 ai_D0) (by decide +kernel)
-- X4_times
def cx_2337 : ai_C := (68, [.i (-2147483648) 2147483647, .l (-9223372036854775808) 9223372036854775807], [], some [.l (-9223372036854775808) 9223372036854775807], ([], []))
set_option maxRecDepth 1000000 in
theorem vx_2337 : ai_valid ai_Tb cx_2337 := ai_chkH_ok (n := 19) (D := []) ai_TbK ai_D0 (by decide +kernel)
-- X4_plus
def cx_2338 : ai_C := (67, [.l (-9223372036854775808) 9223372036854775807, .l (-9223372036854775808) 9223372036854775807], [], some [.l (-9223372036854775808) 9223372036854775807], ([], []))
set_option maxRecDepth 1000000 in
theorem vx_2338 : ai_valid ai_Tb cx_2338 := ai_chkH_ok (n := 19) (D := []) ai_TbK ai_D0 (by decide +kernel)
-- X4_follow
def cx_2339 : ai_C := (66, [.r 11, .i (-2147483648) 2147483647, .i (-2147483648) 2147483647, .i (-2147483648) 2147483647], [], none, ([], [1012]))
set_option maxRecDepth 1000000 in
theorem vx_2339 : ai_valid ai_Tb cx_2339 := ai_chkH_ok (n := 178) (D := [cx_2338, cx_2337]) ai_TbK (ai_D1 vx_2338 (ai_D1 vx_2337 ai_D0)) (by decide +kernel)
-- X4_isBeyond
def cx_2340 : ai_C := (69, [.r 11], [(2, [.r 11, .i 0 9], [], (.v 1 9, .n 8000000000, .n 8000000000))], some [.i 0 1], ([], []))
set_option maxRecDepth 1000000 in
theorem vx_2340 : ai_valid ai_Tb cx_2340 := ai_chkH_ok (n := 14) (D := []) ai_TbK ai_D0 (by decide +kernel)
-- X1_prepare
def cx_2341 : ai_C := (25, [.r 6, .r 1], [(17, [.r 6, .r 1], [], (.n 10, .n 0, .n 8000000000)), (34, [.r 6, .r 1], [(6, 4, 0, 59)], (.n 9, .n 0, .n 8000000000)), (47, [.r 6, .r 1], [(6, 4, 0, 59)], (.n 8, .n 0, .n 8000000000)), (63, [.r 6, .r 1], [(6, 4, 0, 59)], (.n 7, .n 0, .n 8000000000)), (74, [.r 6, .r 1], [(6, 4, 0, 59)], (.n 6, .n 0, .n 8000000000)), (90, [.r 6, .r 1], [(6, 4, 0, 59)], (.n 5, .n 0, .n 8000000000)), (113, [.r 6, .r 1], [(6, 4, 0, 59)], (.n 4, .n 0, .n 8000000000)), (137, [.r 6, .r 1], [(6, 4, 0, 59)], (.n 3, .n 0, .n 8000000000)), (158, [.r 6, .r 1], [(6, 4, 0, 59), (6, 12, (-2147483648), 99), (6, 13, (-2147483648), 99)], (.n 2, .n 0, .n 8000000000)), (169, [.r 6, .r 1], [(6, 4, 0, 59), (6, 12, (-2147483648), 99), (6, 13, (-2147483648), 99)], (.n 1, .n 0, .n 8000000000))], some [.i (-5) 0], ([(6, 12), (6, 13), (6, 14), (1013, 0), (1013, 1), (1013, 2), (1013, 3), (1014, 0), (1014, 1), (1014, 2), (1014, 3), (1015, 0), (1015, 1), (1015, 2), (1015, 3), (1016, 0), (1016, 1), (1016, 2), (1016, 3)], [1003, 1012]))
set_option maxRecDepth 1000000 in
theorem vx_2341 : ai_valid ai_Tb cx_2341 := ai_chkH_ok (n := 23) (D := [cx_2314, cx_2312, cx_2316, cx_2323, cx_2334, cx_2336, cx_2327, cx_2330, cx_2339, cx_2340, cx_2328, cx_2331, cx_2332, cx_2324]) ai_TbK (ai_D1 vx_2314 (ai_D1 vx_2312 (ai_D1 vx_2316 (ai_D1 vx_2323 (ai_D1 vx_2334 (ai_D1 vx_2336 (ai_D1 vx_2327 (ai_D1 vx_2330 (ai_D1 vx_2339 (ai_D1 vx_2340 (ai_D1 vx_2328 (ai_D1 vx_2331 (ai_D1 vx_2332 (ai_D1 vx_2324 ai_D0)))))))))))))) (by decide +kernel)
-- X1_isLikeLast
def cx_2342 : ai_C := (30, [.r 6, .i (-2147483648) 2147483647], [(2, [.r 6, .i (-2147483648) 2147483647, .i 0 10], [], (.v 2 10, .n 8000000000, .n 8000000000))], some [.i 0 1], ([], []))
set_option maxRecDepth 1000000 in
theorem vx_2342 : ai_valid ai_Tb cx_2342 := ai_chkH_ok (n := 19) (D := [cx_2311]) ai_TbK (ai_D1 vx_2311 ai_D0) (by decide +kernel)
-- X1_findPeriod
def cx_2343 : ai_C := (29, [.r 6], [], none, ([(6, 5), (6, 6)], []))
set_option maxRecDepth 1000000 in
theorem vx_2343 : ai_valid ai_Tb cx_2343 := ai_chkH_ok (n := 670) (D := [cx_2342]) ai_TbK (ai_D1 vx_2342 ai_D0) (by decide +kernel)
-- X1_take
def cx_2344 : ai_C := (27, [.r 6], [], none, ([(6, 4), (6, 5), (6, 6)], [7, 8, 1010]))
set_option maxRecDepth 1000000 in
theorem vx_2344 : ai_valid ai_Tb cx_2344 := ai_chkH_ok (n := 45) (D := [cx_2262, cx_2343]) ai_TbK (ai_D1 vx_2262 (ai_D1 vx_2343 ai_D0)) (by decide +kernel)
-- X10_step
def cx_2345 : ai_C := (116, [.r 0], [], some [.i (-5) 60], ([(6, 4), (6, 5), (6, 6), (6, 12), (6, 13), (6, 14), (23, 4), (23, 5), (28, 0), (28, 1), (28, 2), (28, 6), (28, 7), (29, 0), (29, 1), (29, 2), (29, 3), (29, 4), (29, 5), (29, 6), (29, 7), (29, 8), (29, 9), (29, 10), (29, 11), (29, 12), (29, 13), (29, 14), (29, 15), (29, 16), (29, 17), (29, 18), (29, 19), (29, 20), (29, 21), (29, 22), (29, 23), (30, 1), (33, 0), (33, 1), (33, 2), (33, 6), (33, 7), (34, 0), (34, 1), (34, 2), (34, 3), (34, 4), (34, 5), (34, 6), (34, 7), (34, 8), (34, 9), (34, 10), (34, 11), (34, 12), (34, 13), (34, 14), (34, 15), (34, 16), (34, 17), (34, 18), (34, 19), (34, 20), (34, 21), (34, 22), (34, 23), (35, 1), (38, 0), (38, 1), (38, 2), (38, 6), (38, 7), (39, 0), (39, 1), (39, 2), (39, 3), (39, 4), (39, 5), (39, 6), (39, 7), (39, 8), (39, 9), (39, 10), (39, 11), (39, 12), (39, 13), (39, 14), (39, 15), (39, 16), (39, 17), (39, 18), (39, 19), (39, 20), (39, 21), (39, 22), (39, 23), (40, 1), (43, 0), (43, 1), (43, 2), (43, 6), (43, 7), (44, 0), (44, 1), (44, 2), (44, 3), (44, 4), (44, 5), (44, 6), (44, 7), (44, 8), (44, 9), (44, 10), (44, 11), (44, 12), (44, 13), (44, 14), (44, 15), (44, 16), (44, 17), (44, 18), (44, 19), (44, 20), (44, 21), (44, 22), (44, 23), (45, 1), (48, 0), (48, 1), (48, 2), (48, 6), (48, 7), (49, 0), (49, 1), (49, 2), (49, 3), (49, 4), (49, 5), (49, 6), (49, 7), (49, 8), (49, 9), (49, 10), (49, 11), (49, 12), (49, 13), (49, 14), (49, 15), (49, 16), (49, 17), (49, 18), (49, 19), (49, 20), (49, 21), (49, 22), (49, 23), (50, 1), (53, 0), (53, 1), (53, 2), (53, 6), (53, 7), (54, 0), (54, 1), (54, 2), (54, 3), (54, 4), (54, 5), (54, 6), (54, 7), (54, 8), (54, 9), (54, 10), (54, 11), (54, 12), (54, 13), (54, 14), (54, 15), (54, 16), (54, 17), (54, 18), (54, 19), (54, 20), (54, 21), (54, 22), (54, 23), (55, 1), (58, 0), (58, 1), (58, 2), (58, 6), (58, 7), (59, 0), (59, 1), (59, 2), (59, 3), (59, 4), (59, 5), (59, 6), (59, 7), (59, 8), (59, 9), (59, 10), (59, 11), (59, 12), (59, 13), (59, 14), (59, 15), (59, 16), (59, 17), (59, 18), (59, 19), (59, 20), (59, 21), (59, 22), (59, 23), (60, 1), (63, 0), (63, 1), (63, 2), (63, 6), (63, 7), (64, 0), (64, 1), (64, 2), (64, 3), (64, 4), (64, 5), (64, 6), (64, 7), (64, 8), (64, 9), (64, 10), (64, 11), (64, 12), (64, 13), (64, 14), (64, 15), (64, 16), (64, 17), (64, 18), (64, 19), (64, 20), (64, 21), (64, 22), (64, 23), (65, 1), (78, 1), (1013, 0), (1013, 1), (1013, 2), (1013, 3), (1014, 0), (1014, 1), (1014, 2), (1014, 3), (1015, 0), (1015, 1), (1015, 2), (1015, 3), (1016, 0), (1016, 1), (1016, 2), (1016, 3)], [7, 8, 25, 31, 32, 36, 37, 41, 42, 46, 47, 51, 52, 56, 57, 61, 62, 66, 67, 79, 1003, 1010, 1012]))
set_option maxRecDepth 1000000 in
theorem vx_2345 : ai_valid ai_Tb cx_2345 := ai_chkH_ok (n := 35) (D := [cx_2341, cx_2344, cx_2012]) ai_TbK (ai_D1 vx_2341 (ai_D1 vx_2344 (ai_D1 vx_2012 ai_D0))) (by decide +kernel)
-- X1_hasPeriod
def cx_2346 : ai_C := (12, [.r 6], [], some [.i 0 1], ([], []))
set_option maxRecDepth 1000000 in
theorem vx_2346 : ai_valid ai_Tb cx_2346 := ai_chkH_ok (n := 11) (D := [cx_2314]) ai_TbK (ai_D1 vx_2314 ai_D0) (by decide +kernel)
-- X10_go
def cx_2347 : ai_C := (117, [.r 0, .i (-2147483648) 2147483647], [(65, [.r 0, .i 1 60, .i 0 0, .i 0 1, .i (-2147483648) 2147483647, .i 0 60], [], (.v 5 60, .n 8000000000, .n 8000000000))], some [.i (-2147483648) 2147483647], ([(6, 4), (6, 5), (6, 6), (6, 12), (6, 13), (6, 14), (23, 4), (23, 5), (28, 0), (28, 1), (28, 2), (28, 6), (28, 7), (29, 0), (29, 1), (29, 2), (29, 3), (29, 4), (29, 5), (29, 6), (29, 7), (29, 8), (29, 9), (29, 10), (29, 11), (29, 12), (29, 13), (29, 14), (29, 15), (29, 16), (29, 17), (29, 18), (29, 19), (29, 20), (29, 21), (29, 22), (29, 23), (30, 1), (33, 0), (33, 1), (33, 2), (33, 6), (33, 7), (34, 0), (34, 1), (34, 2), (34, 3), (34, 4), (34, 5), (34, 6), (34, 7), (34, 8), (34, 9), (34, 10), (34, 11), (34, 12), (34, 13), (34, 14), (34, 15), (34, 16), (34, 17), (34, 18), (34, 19), (34, 20), (34, 21), (34, 22), (34, 23), (35, 1), (38, 0), (38, 1), (38, 2), (38, 6), (38, 7), (39, 0), (39, 1), (39, 2), (39, 3), (39, 4), (39, 5), (39, 6), (39, 7), (39, 8), (39, 9), (39, 10), (39, 11), (39, 12), (39, 13), (39, 14), (39, 15), (39, 16), (39, 17), (39, 18), (39, 19), (39, 20), (39, 21), (39, 22), (39, 23), (40, 1), (43, 0), (43, 1), (43, 2), (43, 6), (43, 7), (44, 0), (44, 1), (44, 2), (44, 3), (44, 4), (44, 5), (44, 6), (44, 7), (44, 8), (44, 9), (44, 10), (44, 11), (44, 12), (44, 13), (44, 14), (44, 15), (44, 16), (44, 17), (44, 18), (44, 19), (44, 20), (44, 21), (44, 22), (44, 23), (45, 1), (48, 0), (48, 1), (48, 2), (48, 6), (48, 7), (49, 0), (49, 1), (49, 2), (49, 3), (49, 4), (49, 5), (49, 6), (49, 7), (49, 8), (49, 9), (49, 10), (49, 11), (49, 12), (49, 13), (49, 14), (49, 15), (49, 16), (49, 17), (49, 18), (49, 19), (49, 20), (49, 21), (49, 22), (49, 23), (50, 1), (53, 0), (53, 1), (53, 2), (53, 6), (53, 7), (54, 0), (54, 1), (54, 2), (54, 3), (54, 4), (54, 5), (54, 6), (54, 7), (54, 8), (54, 9), (54, 10), (54, 11), (54, 12), (54, 13), (54, 14), (54, 15), (54, 16), (54, 17), (54, 18), (54, 19), (54, 20), (54, 21), (54, 22), (54, 23), (55, 1), (58, 0), (58, 1), (58, 2), (58, 6), (58, 7), (59, 0), (59, 1), (59, 2), (59, 3), (59, 4), (59, 5), (59, 6), (59, 7), (59, 8), (59, 9), (59, 10), (59, 11), (59, 12), (59, 13), (59, 14), (59, 15), (59, 16), (59, 17), (59, 18), (59, 19), (59, 20), (59, 21), (59, 22), (59, 23), (60, 1), (63, 0), (63, 1), (63, 2), (63, 6), (63, 7), (64, 0), (64, 1), (64, 2), (64, 3), (64, 4), (64, 5), (64, 6), (64, 7), (64, 8), (64, 9), (64, 10), (64, 11), (64, 12), (64, 13), (64, 14), (64, 15), (64, 16), (64, 17), (64, 18), (64, 19), (64, 20), (64, 21), (64, 22), (64, 23), (65, 1), (78, 1), (1013, 0), (1013, 1), (1013, 2), (1013, 3), (1014, 0), (1014, 1), (1014, 2), (1014, 3), (1015, 0), (1015, 1), (1015, 2), (1015, 3), (1016, 0), (1016, 1), (1016, 2), (1016, 3)], [7, 8, 25, 31, 32, 36, 37, 41, 42, 46, 47, 51, 52, 56, 57, 61, 62, 66, 67, 79, 1003, 1010, 1012]))
set_option maxRecDepth 1000000 in
theorem vx_2347 : ai_valid ai_Tb cx_2347 := ai_chkH_ok (n := 41) (D := [cx_2346, cx_2341, cx_2344, cx_2012]) ai_TbK (ai_D1 vx_2346 (ai_D1 vx_2341 (ai_D1 vx_2344 (ai_D1 vx_2012 ai_D0)))) (by decide +kernel)
-- X1_lay
def cx_2348 : ai_C := (16, [.r 6, .i (-2147483648) 2147483647, .i (-2147483648) 2147483647, .r 107], [], none, ([(1107, 0), (1107, 1), (1107, 2), (1107, 3)], []))
set_option maxRecDepth 1000000 in
theorem vx_2348 : ai_valid ai_Tb cx_2348 := ai_chkH_ok (n := 52) (D := []) ai_TbK ai_D0 (by decide +kernel)
-- X1_lay
def cx_2349 : ai_C := (16, [.r 6, .i (-2147483648) 2147483647, .i (-2147483648) 2147483647, .r 106], [], none, ([(1106, 0), (1106, 1), (1106, 2), (1106, 3)], []))
set_option maxRecDepth 1000000 in
theorem vx_2349 : ai_valid ai_Tb cx_2349 := ai_chkH_ok (n := 52) (D := []) ai_TbK ai_D0 (by decide +kernel)
-- X1_lay
def cx_2350 : ai_C := (16, [.r 6, .i (-2147483648) 2147483647, .i (-2147483648) 2147483647, .r 105], [], none, ([(1105, 0), (1105, 1), (1105, 2), (1105, 3)], []))
set_option maxRecDepth 1000000 in
theorem vx_2350 : ai_valid ai_Tb cx_2350 := ai_chkH_ok (n := 52) (D := []) ai_TbK ai_D0 (by decide +kernel)
end
noncomputable section
-- PART b54.cx
-- contexts of the class, checked by the kernel
-- X1_lay
def cx_2351 : ai_C := (16, [.r 6, .i (-2147483648) 2147483647, .i (-2147483648) 2147483647, .r 104], [], none, ([(1104, 0), (1104, 1), (1104, 2), (1104, 3)], []))
set_option maxRecDepth 1000000 in
theorem vx_2351 : ai_valid ai_Tb cx_2351 := ai_chkH_ok (n := 52) (D := []) ai_TbK ai_D0 (by decide +kernel)
-- X1_lay
def cx_2352 : ai_C := (16, [.r 6, .i (-2147483648) 2147483647, .i (-2147483648) 2147483647, .r 103], [], none, ([(1103, 0), (1103, 1), (1103, 2), (1103, 3)], []))
set_option maxRecDepth 1000000 in
theorem vx_2352 : ai_valid ai_Tb cx_2352 := ai_chkH_ok (n := 52) (D := []) ai_TbK ai_D0 (by decide +kernel)
-- X1_lay
def cx_2353 : ai_C := (16, [.r 6, .i (-2147483648) 2147483647, .i (-2147483648) 2147483647, .r 102], [], none, ([(1102, 0), (1102, 1), (1102, 2), (1102, 3)], []))
set_option maxRecDepth 1000000 in
theorem vx_2353 : ai_valid ai_Tb cx_2353 := ai_chkH_ok (n := 52) (D := []) ai_TbK ai_D0 (by decide +kernel)
-- X10_keep
def cx_2354 : ai_C := (118, [.r 0, .i (-2147483648) 2147483647, .i (-2147483648) 2147483647], [(71, [.r 0, .i 0 5, .i 0 5], [], (.n 2, .n 0, .n 8000000000)), (92, [.r 0, .i 0 5, .i 0 5], [], (.n 1, .n 0, .n 8000000000))], some [.i (-2147483648) 2147483647], ([(23, 4), (23, 5), (28, 0), (28, 1), (28, 2), (28, 6), (28, 7), (29, 0), (29, 1), (29, 2), (29, 3), (29, 4), (29, 5), (29, 6), (29, 7), (29, 8), (29, 9), (29, 10), (29, 11), (29, 12), (29, 13), (29, 14), (29, 15), (29, 16), (29, 17), (29, 18), (29, 19), (29, 20), (29, 21), (29, 22), (29, 23), (30, 1), (33, 0), (33, 1), (33, 2), (33, 6), (33, 7), (34, 0), (34, 1), (34, 2), (34, 3), (34, 4), (34, 5), (34, 6), (34, 7), (34, 8), (34, 9), (34, 10), (34, 11), (34, 12), (34, 13), (34, 14), (34, 15), (34, 16), (34, 17), (34, 18), (34, 19), (34, 20), (34, 21), (34, 22), (34, 23), (35, 1), (38, 0), (38, 1), (38, 2), (38, 6), (38, 7), (39, 0), (39, 1), (39, 2), (39, 3), (39, 4), (39, 5), (39, 6), (39, 7), (39, 8), (39, 9), (39, 10), (39, 11), (39, 12), (39, 13), (39, 14), (39, 15), (39, 16), (39, 17), (39, 18), (39, 19), (39, 20), (39, 21), (39, 22), (39, 23), (40, 1), (43, 0), (43, 1), (43, 2), (43, 6), (43, 7), (44, 0), (44, 1), (44, 2), (44, 3), (44, 4), (44, 5), (44, 6), (44, 7), (44, 8), (44, 9), (44, 10), (44, 11), (44, 12), (44, 13), (44, 14), (44, 15), (44, 16), (44, 17), (44, 18), (44, 19), (44, 20), (44, 21), (44, 22), (44, 23), (45, 1), (48, 0), (48, 1), (48, 2), (48, 6), (48, 7), (49, 0), (49, 1), (49, 2), (49, 3), (49, 4), (49, 5), (49, 6), (49, 7), (49, 8), (49, 9), (49, 10), (49, 11), (49, 12), (49, 13), (49, 14), (49, 15), (49, 16), (49, 17), (49, 18), (49, 19), (49, 20), (49, 21), (49, 22), (49, 23), (50, 1), (53, 0), (53, 1), (53, 2), (53, 6), (53, 7), (54, 0), (54, 1), (54, 2), (54, 3), (54, 4), (54, 5), (54, 6), (54, 7), (54, 8), (54, 9), (54, 10), (54, 11), (54, 12), (54, 13), (54, 14), (54, 15), (54, 16), (54, 17), (54, 18), (54, 19), (54, 20), (54, 21), (54, 22), (54, 23), (55, 1), (58, 0), (58, 1), (58, 2), (58, 6), (58, 7), (59, 0), (59, 1), (59, 2), (59, 3), (59, 4), (59, 5), (59, 6), (59, 7), (59, 8), (59, 9), (59, 10), (59, 11), (59, 12), (59, 13), (59, 14), (59, 15), (59, 16), (59, 17), (59, 18), (59, 19), (59, 20), (59, 21), (59, 22), (59, 23), (60, 1), (63, 0), (63, 1), (63, 2), (63, 6), (63, 7), (64, 0), (64, 1), (64, 2), (64, 3), (64, 4), (64, 5), (64, 6), (64, 7), (64, 8), (64, 9), (64, 10), (64, 11), (64, 12), (64, 13), (64, 14), (64, 15), (64, 16), (64, 17), (64, 18), (64, 19), (64, 20), (64, 21), (64, 22), (64, 23), (65, 1), (78, 1), (79, 1), (79, 2), (1102, 0), (1102, 1), (1102, 2), (1102, 3), (1103, 0), (1103, 1), (1103, 2), (1103, 3), (1104, 0), (1104, 1), (1104, 2), (1104, 3), (1105, 0), (1105, 1), (1105, 2), (1105, 3), (1106, 0), (1106, 1), (1106, 2), (1106, 3), (1107, 0), (1107, 1), (1107, 2), (1107, 3)], [25, 31, 32, 36, 37, 41, 42, 46, 47, 51, 52, 56, 57, 61, 62, 66, 67]))
set_option maxRecDepth 1000000 in
theorem vx_2354 : ai_valid ai_Tb cx_2354 := ai_chkH_ok (n := 53) (D := [cx_2314, cx_2312, cx_2348, cx_2349, cx_2350, cx_2351, cx_2352, cx_2353, cx_2012]) ai_TbK (ai_D1 vx_2314 (ai_D1 vx_2312 (ai_D1 vx_2348 (ai_D1 vx_2349 (ai_D1 vx_2350 (ai_D1 vx_2351 (ai_D1 vx_2352 (ai_D1 vx_2353 (ai_D1 vx_2012 ai_D0))))))))) (by decide +kernel)
-- X6_add
def cx_2355 : ai_C := (79, [.r 19, .i (-2147483648) 2147483647], [], none, ([(19, 2)], [20]))
set_option maxRecDepth 1000000 in
theorem vx_2355 : ai_valid ai_Tb cx_2355 := ai_chkH_ok (n := 95) (D := []) ai_TbK ai_D0 (by decide +kernel)
-- X10_feed
def cx_2356 : ai_C := (119, [.r 0, .i (-2147483648) 2147483647, .i (-2147483648) 2147483647, .i (-2147483648) 2147483647, .i (-2147483648) 2147483647, .i (-2147483648) 2147483647], [], some [.i (-1) 200], ([(19, 2)], [20]))
set_option maxRecDepth 1000000 in
theorem vx_2356 : ai_valid ai_Tb cx_2356 := ai_chkH_ok (n := 39) (D := [cx_2355]) ai_TbK (ai_D1 vx_2355 ai_D0) (by decide +kernel)
-- X10_end
def cx_2357 : ai_C := (120, [.r 0, .i (-2147483648) 2147483647], [], some [.i (-1) 200], ([(19, 2)], []))
set_option maxRecDepth 1000000 in
theorem vx_2357 : ai_valid ai_Tb cx_2357 := ai_chkH_ok (n := 20) (D := []) ai_TbK ai_D0 (by decide +kernel)
-- X6_byteAt
def cx_2358 : ai_C := (87, [.r 19], [], some [.i (-1) 255], ([], []))
set_option maxRecDepth 1000000 in
theorem vx_2358 : ai_valid ai_Tb cx_2358 := ai_chkH_ok (n := 24) (D := []) ai_TbK ai_D0 (by decide +kernel)
-- X6_skipBlanks
def cx_2359 : ai_C := (85, [.r 19], [(2, [.r 19, .i 0 200], [], (.v 1 200, .n 8000000000, .n 8000000000))], none, ([(19, 3)], []))
set_option maxRecDepth 1000000 in
theorem vx_2359 : ai_valid ai_Tb cx_2359 := ai_chkH_ok (n := 17) (D := [cx_2358]) ai_TbK (ai_D1 vx_2358 ai_D0) (by decide +kernel)
-- X6_nextIsDigit
def cx_2360 : ai_C := (86, [.r 19], [], some [.i 0 1], ([], []))
set_option maxRecDepth 1000000 in
theorem vx_2360 : ai_valid ai_Tb cx_2360 := ai_chkH_ok (n := 12) (D := [cx_2358]) ai_TbK (ai_D1 vx_2358 ai_D0) (by decide +kernel)
-- X6_wholeNumber
def cx_2361 : ai_C := (83, [.r 19], [(13, [.r 19, .i (-2147483648) 2147483647, .i (-2147483648) 100, .i 0 200], [], (.v 3 200, .n 8000000000, .n 8000000000))], some [.i (-2147483648) 99], ([(19, 3)], []))
set_option maxRecDepth 1000000 in
theorem vx_2361 : ai_valid ai_Tb cx_2361 := ai_chkH_ok (n := 33) (D := [cx_2359, cx_2360, cx_2358]) ai_TbK (ai_D1 vx_2359 (ai_D1 vx_2360 (ai_D1 vx_2358 ai_D0))) (by decide +kernel)
-- X6_takes
def cx_2362 : ai_C := (84, [.r 19, .i (-2147483648) 2147483647], [], some [.i 0 1], ([(19, 3)], []))
set_option maxRecDepth 1000000 in
theorem vx_2362 : ai_valid ai_Tb cx_2362 := ai_chkH_ok (n := 15) (D := [cx_2359, cx_2358]) ai_TbK (ai_D1 vx_2359 (ai_D1 vx_2358 ai_D0)) (by decide +kernel)
-- X9_add
def cx_2363 : ai_C := (104, [.r 21, .i (-2147483648) 2147483647, .i (-2147483648) 2147483647, .i (-2147483648) 2147483647], [], none, ([(21, 1)], [22]))
set_option maxRecDepth 1000000 in
theorem vx_2363 : ai_valid ai_Tb cx_2363 := ai_chkH_ok (n := 43) (D := []) ai_TbK ai_D0 (by decide +kernel)
-- X6_hasText
def cx_2364 : ai_C := (82, [.r 19], [(2, [.r 19, .i 0 40, .u, .u], [], (.v 1 40, .n 8000000000, .n 8000000000))], some [.i 0 1], ([(19, 3), (21, 1)], [22]))
set_option maxRecDepth 1000000 in
theorem vx_2364 : ai_valid ai_Tb cx_2364 := ai_chkH_ok (n := 41) (D := [cx_2361, cx_2362, cx_2359, cx_2363]) ai_TbK (ai_D1 vx_2361 (ai_D1 vx_2362 (ai_D1 vx_2359 (ai_D1 vx_2363 ai_D0)))) (by decide +kernel)
-- X6_parse
def cx_2365 : ai_C := (81, [.r 19], [], some [.i 0 1], ([(19, 3), (19, 4), (21, 1)], [22]))
set_option maxRecDepth 1000000 in
theorem vx_2365 : ai_valid ai_Tb cx_2365 := ai_chkH_ok (n := 19) (D := [cx_2364]) ai_TbK (ai_D1 vx_2364 ai_D0) (by decide +kernel)
-- X10_read
def cx_2366 : ai_C := (121, [.r 0], [], some [.i (-6) 40], ([(17, 1), (19, 2), (19, 3), (19, 4), (21, 1), (23, 4), (23, 5), (28, 0), (28, 1), (28, 2), (28, 6), (28, 7), (29, 0), (29, 1), (29, 2), (29, 3), (29, 4), (29, 5), (29, 6), (29, 7), (29, 8), (29, 9), (29, 10), (29, 11), (29, 12), (29, 13), (29, 14), (29, 15), (29, 16), (29, 17), (29, 18), (29, 19), (29, 20), (29, 21), (29, 22), (29, 23), (30, 1), (33, 0), (33, 1), (33, 2), (33, 6), (33, 7), (34, 0), (34, 1), (34, 2), (34, 3), (34, 4), (34, 5), (34, 6), (34, 7), (34, 8), (34, 9), (34, 10), (34, 11), (34, 12), (34, 13), (34, 14), (34, 15), (34, 16), (34, 17), (34, 18), (34, 19), (34, 20), (34, 21), (34, 22), (34, 23), (35, 1), (38, 0), (38, 1), (38, 2), (38, 6), (38, 7), (39, 0), (39, 1), (39, 2), (39, 3), (39, 4), (39, 5), (39, 6), (39, 7), (39, 8), (39, 9), (39, 10), (39, 11), (39, 12), (39, 13), (39, 14), (39, 15), (39, 16), (39, 17), (39, 18), (39, 19), (39, 20), (39, 21), (39, 22), (39, 23), (40, 1), (43, 0), (43, 1), (43, 2), (43, 6), (43, 7), (44, 0), (44, 1), (44, 2), (44, 3), (44, 4), (44, 5), (44, 6), (44, 7), (44, 8), (44, 9), (44, 10), (44, 11), (44, 12), (44, 13), (44, 14), (44, 15), (44, 16), (44, 17), (44, 18), (44, 19), (44, 20), (44, 21), (44, 22), (44, 23), (45, 1), (48, 0), (48, 1), (48, 2), (48, 6), (48, 7), (49, 0), (49, 1), (49, 2), (49, 3), (49, 4), (49, 5), (49, 6), (49, 7), (49, 8), (49, 9), (49, 10), (49, 11), (49, 12), (49, 13), (49, 14), (49, 15), (49, 16), (49, 17), (49, 18), (49, 19), (49, 20), (49, 21), (49, 22), (49, 23), (50, 1), (53, 0), (53, 1), (53, 2), (53, 6), (53, 7), (54, 0), (54, 1), (54, 2), (54, 3), (54, 4), (54, 5), (54, 6), (54, 7), (54, 8), (54, 9), (54, 10), (54, 11), (54, 12), (54, 13), (54, 14), (54, 15), (54, 16), (54, 17), (54, 18), (54, 19), (54, 20), (54, 21), (54, 22), (54, 23), (55, 1), (58, 0), (58, 1), (58, 2), (58, 6), (58, 7), (59, 0), (59, 1), (59, 2), (59, 3), (59, 4), (59, 5), (59, 6), (59, 7), (59, 8), (59, 9), (59, 10), (59, 11), (59, 12), (59, 13), (59, 14), (59, 15), (59, 16), (59, 17), (59, 18), (59, 19), (59, 20), (59, 21), (59, 22), (59, 23), (60, 1), (63, 0), (63, 1), (63, 2), (63, 6), (63, 7), (64, 0), (64, 1), (64, 2), (64, 3), (64, 4), (64, 5), (64, 6), (64, 7), (64, 8), (64, 9), (64, 10), (64, 11), (64, 12), (64, 13), (64, 14), (64, 15), (64, 16), (64, 17), (64, 18), (64, 19), (64, 20), (64, 21), (64, 22), (64, 23), (65, 1), (78, 1), (79, 5)], [18, 22, 25, 31, 32, 36, 37, 41, 42, 46, 47, 51, 52, 56, 57, 61, 62, 66, 67]))
set_option maxRecDepth 1000000 in
theorem vx_2366 : ai_valid ai_Tb cx_2366 := ai_chkH_ok (n := 59) (D := [cx_2365, cx_2012]) ai_TbK (ai_D1 vx_2365 (ai_D1 vx_2012 ai_D0)) (by decide +kernel)
-- X4_layRow
def cx_2367 : ai_C := (63, [.r 95, .i (-2147483648) 2147483647, .l (-9223372036854775808) 9223372036854775807, .l (-9223372036854775808) 9223372036854775807, .l (-9223372036854775808) 9223372036854775807], [], none, ([], [1096]))
set_option maxRecDepth 1000000 in
theorem vx_2367 : ai_valid ai_Tb cx_2367 := ai_chkH_ok (n := 44) (D := []) ai_TbK ai_D0 (by decide +kernel)
-- X4_layOne
def cx_2368 : ai_C := (64, [.r 95], [], none, ([], [1096]))
set_option maxRecDepth 1000000 in
theorem vx_2368 : ai_valid ai_Tb cx_2368 := ai_chkH_ok (n := 20) (D := [cx_2367]) ai_TbK (ai_D1 vx_2367 ai_D0) (by decide +kernel)
-- X9_part
def cx_2369 : ai_C := (106, [.r 17, .i (-2147483648) 2147483647, .i (-2147483648) 2147483647], [], some [.i (-128) 127], ([], []))
set_option maxRecDepth 1000000 in
theorem vx_2369 : ai_valid ai_Tb cx_2369 := ai_chkH_ok (n := 20) (D := []) ai_TbK ai_D0 (by decide +kernel)
-- X4_follow
def cx_2370 : ai_C := (66, [.r 95, .i (-2147483648) 2147483647, .i (-2147483648) 2147483647, .i (-2147483648) 2147483647], [], none, ([], [1096]))
set_option maxRecDepth 1000000 in
theorem vx_2370 : ai_valid ai_Tb cx_2370 := ai_chkH_ok (n := 178) (D := [cx_2338, cx_2337]) ai_TbK (ai_D1 vx_2338 (ai_D1 vx_2337 ai_D0)) (by decide +kernel)
-- X9_spell
def cx_2371 : ai_C := (107, [.r 17, .r 95], [(6, [.r 17, .r 95, .i 0 40], [], (.v 2 40, .n 8000000000, .n 8000000000))], none, ([], [1096]))
set_option maxRecDepth 1000000 in
theorem vx_2371 : ai_valid ai_Tb cx_2371 := ai_chkH_ok (n := 26) (D := [cx_2368, cx_2370, cx_2369]) ai_TbK (ai_D1 vx_2368 (ai_D1 vx_2370 (ai_D1 vx_2369 ai_D0))) (by decide +kernel)
-- X4_isBeyond
def cx_2372 : ai_C := (69, [.r 95], [(2, [.r 95, .i 0 9], [], (.v 1 9, .n 8000000000, .n 8000000000))], some [.i 0 1], ([], []))
set_option maxRecDepth 1000000 in
theorem vx_2372 : ai_valid ai_Tb cx_2372 := ai_chkH_ok (n := 14) (D := []) ai_TbK ai_D0 (by decide +kernel)
-- X4_isAbove
def cx_2373 : ai_C := (70, [.r 95, .l (-9223372036854775808) 9223372036854775807], [(2, [.r 95, .l (-9223372036854775808) 9223372036854775807, .u, .i 0 9], [], (.v 3 9, .n 8000000000, .n 8000000000))], some [.i 0 1], ([], []))
set_option maxRecDepth 1000000 in
theorem vx_2373 : ai_valid ai_Tb cx_2373 := ai_chkH_ok (n := 14) (D := []) ai_TbK ai_D0 (by decide +kernel)
-- X4_cofactor
def cx_2374 : ai_C := (71, [.r 95, .i (-2147483648) 2147483647, .i (-2147483648) 2147483647], [], some [.l (-9223372036854775808) 9223372036854775807], ([], []))
set_option maxRecDepth 1000000 in
theorem vx_2374 : ai_valid ai_Tb cx_2374 := ai_chkH_ok (n := 74) (D := []) ai_TbK ai_D0 (by decide +kernel)
-- X4_equate
def cx_2375 : ai_C := (72, [.r 95, .i (-2147483648) 2147483647], [], some [.l (-9223372036854775808) 9223372036854775807], ([], []))
set_option maxRecDepth 1000000 in
theorem vx_2375 : ai_valid ai_Tb cx_2375 := ai_chkH_ok (n := 36) (D := [cx_2374]) ai_TbK (ai_D1 vx_2374 ai_D0) (by decide +kernel)
-- X4_cell
def cx_2376 : ai_C := (62, [.r 95, .i (-2147483648) 2147483647, .i (-2147483648) 2147483647], [], some [.l (-9223372036854775808) 9223372036854775807], ([], []))
set_option maxRecDepth 1000000 in
theorem vx_2376 : ai_valid ai_Tb cx_2376 := ai_chkH_ok (n := 28) (D := []) ai_TbK ai_D0 (by decide +kernel)
-- X8_put
def cx_2377 : ai_C := (93, [.r 94, .l (-9223372036854775808) 9223372036854775807, .l (-9223372036854775808) 9223372036854775807, .l (-9223372036854775808) 9223372036854775807, .l (-9223372036854775808) 9223372036854775807], [], none, ([(1094, 0), (1094, 1), (1094, 2), (1094, 3)], []))
set_option maxRecDepth 1000000 in
theorem vx_2377 : ai_valid ai_Tb cx_2377 := ai_chkH_ok (n := 60) (D := [cx_2013]) ai_TbK (ai_D1 vx_2013 ai_D0) (by decide +kernel)
-- X8_isZero
def cx_2378 : ai_C := (101, [.r 94], [], some [.i 0 1], ([], []))
set_option maxRecDepth 1000000 in
theorem vx_2378 : ai_valid ai_Tb cx_2378 := ai_chkH_ok (n := 19) (D := []) ai_TbK ai_D0 (by decide +kernel)
-- X8_put
def cx_2379 : ai_C := (93, [.r 101, .l (-9223372036854775808) 9223372036854775807, .l (-9223372036854775808) 9223372036854775807, .l (-9223372036854775808) 9223372036854775807, .l (-9223372036854775808) 9223372036854775807], [], none, ([(1101, 0), (1101, 1), (1101, 2), (1101, 3)], []))
set_option maxRecDepth 1000000 in
theorem vx_2379 : ai_valid ai_Tb cx_2379 := ai_chkH_ok (n := 60) (D := [cx_2013]) ai_TbK (ai_D1 vx_2013 ai_D0) (by decide +kernel)
-- X4_layRow
def cx_2380 : ai_C := (63, [.r 92, .i (-2147483648) 2147483647, .l (-9223372036854775808) 9223372036854775807, .l (-9223372036854775808) 9223372036854775807, .l (-9223372036854775808) 9223372036854775807], [], none, ([], [1093]))
set_option maxRecDepth 1000000 in
theorem vx_2380 : ai_valid ai_Tb cx_2380 := ai_chkH_ok (n := 44) (D := []) ai_TbK ai_D0 (by decide +kernel)
-- X2_layRows
def cx_2381 : ai_C := (44, [.r 91, .l (-9223372036854775808) 9223372036854775807, .l (-9223372036854775808) 9223372036854775807, .l (-9223372036854775808) 9223372036854775807], [], none, ([], [1093]))
set_option maxRecDepth 1000000 in
theorem vx_2381 : ai_valid ai_Tb cx_2381 := ai_chkH_ok (n := 67) (D := [cx_2380]) ai_TbK (ai_D1 vx_2380 ai_D0) (by decide +kernel)
-- X4_cofactor
def cx_2382 : ai_C := (71, [.r 92, .i (-2147483648) 2147483647, .i (-2147483648) 2147483647], [], some [.l (-9223372036854775808) 9223372036854775807], ([], []))
set_option maxRecDepth 1000000 in
theorem vx_2382 : ai_valid ai_Tb cx_2382 := ai_chkH_ok (n := 74) (D := []) ai_TbK ai_D0 (by decide +kernel)
-- X4_equate
def cx_2383 : ai_C := (72, [.r 92, .i (-2147483648) 2147483647], [], some [.l (-9223372036854775808) 9223372036854775807], ([], []))
set_option maxRecDepth 1000000 in
theorem vx_2383 : ai_valid ai_Tb cx_2383 := ai_chkH_ok (n := 36) (D := [cx_2382]) ai_TbK (ai_D1 vx_2382 ai_D0) (by decide +kernel)
-- X4_cell
def cx_2384 : ai_C := (62, [.r 92, .i (-2147483648) 2147483647, .i (-2147483648) 2147483647], [], some [.l (-9223372036854775808) 9223372036854775807], ([], []))
set_option maxRecDepth 1000000 in
theorem vx_2384 : ai_valid ai_Tb cx_2384 := ai_chkH_ok (n := 28) (D := []) ai_TbK ai_D0 (by decide +kernel)
-- X4_under
def cx_2385 : ai_C := (73, [.r 92, .r 100, .i (-2147483648) 2147483647], [], some [.l (-9223372036854775808) 9223372036854775807], ([], []))
set_option maxRecDepth 1000000 in
theorem vx_2385 : ai_valid ai_Tb cx_2385 := ai_chkH_ok (n := 25) (D := [cx_2384]) ai_TbK (ai_D1 vx_2384 ai_D0) (by decide +kernel)
-- X2_divide
def cx_2386 : ai_C := (52, [.r 91, .r 100, .r 94, .r 100], [], none, ([(1100, 0), (1100, 1), (1100, 2), (1100, 3)], [1093]))
set_option maxRecDepth 1000000 in
theorem vx_2386 : ai_valid ai_Tb cx_2386 := ai_chkH_ok (n := 62) (D := [cx_2381, cx_2382, cx_2383, cx_2385, cx_2039]) ai_TbK (ai_D1 vx_2381 (ai_D1 vx_2382 (ai_D1 vx_2383 (ai_D1 vx_2385 (ai_D1 vx_2039 ai_D0))))) (by decide +kernel)
-- X4_under
def cx_2387 : ai_C := (73, [.r 92, .r 101, .i (-2147483648) 2147483647], [], some [.l (-9223372036854775808) 9223372036854775807], ([], []))
set_option maxRecDepth 1000000 in
theorem vx_2387 : ai_valid ai_Tb cx_2387 := ai_chkH_ok (n := 25) (D := [cx_2384]) ai_TbK (ai_D1 vx_2384 ai_D0) (by decide +kernel)
-- X2_divide
def cx_2388 : ai_C := (52, [.r 91, .r 101, .r 94, .r 101], [], none, ([(1101, 0), (1101, 1), (1101, 2), (1101, 3)], [1093]))
set_option maxRecDepth 1000000 in
theorem vx_2388 : ai_valid ai_Tb cx_2388 := ai_chkH_ok (n := 62) (D := [cx_2381, cx_2382, cx_2383, cx_2387, cx_2379]) ai_TbK (ai_D1 vx_2381 (ai_D1 vx_2382 (ai_D1 vx_2383 (ai_D1 vx_2387 (ai_D1 vx_2379 ai_D0))))) (by decide +kernel)
-- X2_layRatios
def cx_2389 : ai_C := (53, [.r 91, .r 95, .r 100, .r 101], [], some [.i 0 1], ([(1094, 0), (1094, 1), (1094, 2), (1094, 3), (1100, 0), (1100, 1), (1100, 2), (1100, 3), (1101, 0), (1101, 1), (1101, 2), (1101, 3)], [1093]))
set_option maxRecDepth 1000000 in
theorem vx_2389 : ai_valid ai_Tb cx_2389 := ai_chkH_ok (n := 107) (D := [cx_2386, cx_2388, cx_2376, cx_2377, cx_2039, cx_2379, cx_2378]) ai_TbK (ai_D1 vx_2386 (ai_D1 vx_2388 (ai_D1 vx_2376 (ai_D1 vx_2377 (ai_D1 vx_2039 (ai_D1 vx_2379 (ai_D1 vx_2378 ai_D0))))))) (by decide +kernel)
-- X8_canBe
def cx_2390 : ai_C := (99, [.r 101], [], some [.i 0 1], ([], []))
set_option maxRecDepth 1000000 in
theorem vx_2390 : ai_valid ai_Tb cx_2390 := ai_chkH_ok (n := 26) (D := [cx_2040]) ai_TbK (ai_D1 vx_2040 ai_D0) (by decide +kernel)
-- X10_solved
def cx_2391 : ai_C := (159, [.r 0], [], some [.i 0 1], ([(91, 0), (91, 1), (91, 2), (1094, 0), (1094, 1), (1094, 2), (1094, 3), (1100, 0), (1100, 1), (1100, 2), (1100, 3), (1101, 0), (1101, 1), (1101, 2), (1101, 3)], [1093]))
set_option maxRecDepth 1000000 in
theorem vx_2391 : ai_valid ai_Tb cx_2391 := ai_chkH_ok (n := 76) (D := [cx_2000, cx_2002, cx_2389, cx_2372, cx_2373, cx_2375, cx_2041, cx_2390]) ai_TbK (ai_D1 vx_2000 (ai_D1 vx_2002 (ai_D1 vx_2389 (ai_D1 vx_2372 (ai_D1 vx_2373 (ai_D1 vx_2375 (ai_D1 vx_2041 (ai_D1 vx_2390 ai_D0)))))))) (by decide +kernel)
-- X8_copy
def cx_2392 : ai_C := (95, [.r 103, .r 101], [], none, ([(1103, 0), (1103, 1), (1103, 2), (1103, 3)], []))
set_option maxRecDepth 1000000 in
theorem vx_2392 : ai_valid ai_Tb cx_2392 := ai_chkH_ok (n := 18) (D := []) ai_TbK ai_D0 (by decide +kernel)
-- X10_solve
def cx_2393 : ai_C := (122, [.r 0], [], some [.i (-2147483648) 2147483647], ([(1, 0), (1, 1), (1, 2), (6, 3), (6, 4), (6, 5), (6, 6), (23, 4), (23, 5), (28, 0), (28, 1), (28, 2), (28, 6), (28, 7), (29, 0), (29, 1), (29, 2), (29, 3), (29, 4), (29, 5), (29, 6), (29, 7), (29, 8), (29, 9), (29, 10), (29, 11), (29, 12), (29, 13), (29, 14), (29, 15), (29, 16), (29, 17), (29, 18), (29, 19), (29, 20), (29, 21), (29, 22), (29, 23), (30, 1), (33, 0), (33, 1), (33, 2), (33, 6), (33, 7), (34, 0), (34, 1), (34, 2), (34, 3), (34, 4), (34, 5), (34, 6), (34, 7), (34, 8), (34, 9), (34, 10), (34, 11), (34, 12), (34, 13), (34, 14), (34, 15), (34, 16), (34, 17), (34, 18), (34, 19), (34, 20), (34, 21), (34, 22), (34, 23), (35, 1), (38, 0), (38, 1), (38, 2), (38, 6), (38, 7), (39, 0), (39, 1), (39, 2), (39, 3), (39, 4), (39, 5), (39, 6), (39, 7), (39, 8), (39, 9), (39, 10), (39, 11), (39, 12), (39, 13), (39, 14), (39, 15), (39, 16), (39, 17), (39, 18), (39, 19), (39, 20), (39, 21), (39, 22), (39, 23), (40, 1), (43, 0), (43, 1), (43, 2), (43, 6), (43, 7), (44, 0), (44, 1), (44, 2), (44, 3), (44, 4), (44, 5), (44, 6), (44, 7), (44, 8), (44, 9), (44, 10), (44, 11), (44, 12), (44, 13), (44, 14), (44, 15), (44, 16), (44, 17), (44, 18), (44, 19), (44, 20), (44, 21), (44, 22), (44, 23), (45, 1), (48, 0), (48, 1), (48, 2), (48, 6), (48, 7), (49, 0), (49, 1), (49, 2), (49, 3), (49, 4), (49, 5), (49, 6), (49, 7), (49, 8), (49, 9), (49, 10), (49, 11), (49, 12), (49, 13), (49, 14), (49, 15), (49, 16), (49, 17), (49, 18), (49, 19), (49, 20), (49, 21), (49, 22), (49, 23), (50, 1), (53, 0), (53, 1), (53, 2), (53, 6), (53, 7), (54, 0), (54, 1), (54, 2), (54, 3), (54, 4), (54, 5), (54, 6), (54, 7), (54, 8), (54, 9), (54, 10), (54, 11), (54, 12), (54, 13), (54, 14), (54, 15), (54, 16), (54, 17), (54, 18), (54, 19), (54, 20), (54, 21), (54, 22), (54, 23), (55, 1), (58, 0), (58, 1), (58, 2), (58, 6), (58, 7), (59, 0), (59, 1), (59, 2), (59, 3), (59, 4), (59, 5), (59, 6), (59, 7), (59, 8), (59, 9), (59, 10), (59, 11), (59, 12), (59, 13), (59, 14), (59, 15), (59, 16), (59, 17), (59, 18), (59, 19), (59, 20), (59, 21), (59, 22), (59, 23), (60, 1), (63, 0), (63, 1), (63, 2), (63, 6), (63, 7), (64, 0), (64, 1), (64, 2), (64, 3), (64, 4), (64, 5), (64, 6), (64, 7), (64, 8), (64, 9), (64, 10), (64, 11), (64, 12), (64, 13), (64, 14), (64, 15), (64, 16), (64, 17), (64, 18), (64, 19), (64, 20), (64, 21), (64, 22), (64, 23), (65, 1), (78, 1), (79, 3), (79, 4), (91, 0), (91, 1), (91, 2), (1094, 0), (1094, 1), (1094, 2), (1094, 3), (1100, 0), (1100, 1), (1100, 2), (1100, 3), (1101, 0), (1101, 1), (1101, 2), (1101, 3), (1102, 0), (1102, 1), (1102, 2), (1102, 3), (1103, 0), (1103, 1), (1103, 2), (1103, 3), (1104, 0), (1104, 1), (1104, 2), (1104, 3), (1105, 0), (1105, 1), (1105, 2), (1105, 3), (1106, 0), (1106, 1), (1106, 2), (1106, 3), (1107, 0), (1107, 1), (1107, 2), (1107, 3)], [25, 31, 32, 36, 37, 41, 42, 46, 47, 51, 52, 56, 57, 61, 62, 66, 67, 1093, 1096]))
set_option maxRecDepth 1000000 in
theorem vx_2393 : ai_valid ai_Tb cx_2393 := ai_chkH_ok (n := 53) (D := [cx_2022, cx_2048, cx_2392, cx_2371, cx_2012, cx_2021, cx_2391]) ai_TbK (ai_D1 vx_2022 (ai_D1 vx_2048 (ai_D1 vx_2392 (ai_D1 vx_2371 (ai_D1 vx_2012 (ai_D1 vx_2021 (ai_D1 vx_2391 ai_D0))))))) (by decide +kernel)
-- X10_fault
-- X8_copy
def cx_2395 : ai_C := (95, [.r 15, .r 15], [], none, ([(1015, 0), (1015, 1), (1015, 2), (1015, 3)], []))
set_option maxRecDepth 1000000 in
theorem vx_2395 : ai_valid ai_Tb cx_2395 := ai_chkH_ok (n := 18) (D := []) ai_TbK ai_D0 (by decide +kernel)
-- X8_copy
def cx_2396 : ai_C := (95, [.r 16, .r 16], [], none, ([(1016, 0), (1016, 1), (1016, 2), (1016, 3)], []))
set_option maxRecDepth 1000000 in
theorem vx_2396 : ai_valid ai_Tb cx_2396 := ai_chkH_ok (n := 18) (D := []) ai_TbK ai_D0 (by decide +kernel)
-- X1_open
def cx_2397 : ai_C := (20, [.r 6, .r 1, .r 15, .r 16, .i (-2147483648) 2147483647], [], none, ([(6, 3), (6, 4), (6, 5), (6, 6), (6, 12), (6, 13), (1015, 0), (1015, 1), (1015, 2), (1015, 3), (1016, 0), (1016, 1), (1016, 2), (1016, 3)], [7, 1010]))
set_option maxRecDepth 1000000 in
theorem vx_2397 : ai_valid ai_Tb cx_2397 := ai_chkH_ok (n := 30) (D := [cx_2020, cx_2262, cx_2334, cx_2336, cx_2264, cx_2395, cx_2396]) ai_TbK (ai_D1 vx_2020 (ai_D1 vx_2262 (ai_D1 vx_2334 (ai_D1 vx_2336 (ai_D1 vx_2264 (ai_D1 vx_2395 (ai_D1 vx_2396 ai_D0))))))) (by decide +kernel)
-- X1_reopen
def cx_2398 : ai_C := (22, [.r 6, .r 1, .r 67, .i (-2147483648) 2147483647, .i (-2147483648) 2147483647], [(35, [.r 6, .r 1, .r 67, .i (-2147483648) 2147483647, .i (-2147483648) 2147483647, .i 0 60], [], (.v 5 60, .n 8000000000, .n 8000000000))], none, ([(6, 3), (6, 4), (6, 5), (6, 6), (6, 12), (6, 13), (6, 14), (1013, 0), (1013, 1), (1013, 2), (1013, 3), (1014, 0), (1014, 1), (1014, 2), (1014, 3), (1015, 0), (1015, 1), (1015, 2), (1015, 3), (1016, 0), (1016, 1), (1016, 2), (1016, 3)], [7, 8, 1003, 1010, 1012]))
set_option maxRecDepth 1000000 in
theorem vx_2398 : ai_valid ai_Tb cx_2398 := ai_chkH_ok (n := 100) (D := [cx_2397, cx_2341, cx_2344]) ai_TbK (ai_D1 vx_2397 (ai_D1 vx_2341 (ai_D1 vx_2344 ai_D0))) (by decide +kernel)
-- X5_restore
def cx_2399 : ai_C := (76, [.r 63, .r 1, .r 5, .r 17, .r 6], [(19, [.r 63, .r 1, .r 5, .r 17, .r 6, .i 0 6], [], (.v 5 6, .n 8000000000, .n 8000000000))], none, ([(1, 0), (1, 1), (1, 2), (6, 3), (6, 4), (6, 5), (6, 6), (6, 12), (6, 13), (6, 14), (17, 1), (1013, 0), (1013, 1), (1013, 2), (1013, 3), (1014, 0), (1014, 1), (1014, 2), (1014, 3), (1015, 0), (1015, 1), (1015, 2), (1015, 3), (1016, 0), (1016, 1), (1016, 2), (1016, 3), (1102, 0), (1102, 1), (1102, 2), (1102, 3), (1103, 0), (1103, 1), (1103, 2), (1103, 3), (1104, 0), (1104, 1), (1104, 2), (1104, 3), (1105, 0), (1105, 1), (1105, 2), (1105, 3), (1106, 0), (1106, 1), (1106, 2), (1106, 3), (1107, 0), (1107, 1), (1107, 2), (1107, 3)], [7, 8, 18, 1003, 1010, 1012]))
set_option maxRecDepth 1000000 in
theorem vx_2399 : ai_valid ai_Tb cx_2399 := ai_chkH_ok (n := 56) (D := [cx_2020, cx_2398]) ai_TbK (ai_D1 vx_2020 (ai_D1 vx_2398 ai_D0)) (by decide +kernel)
-- X3_drop
def cx_2400 : ai_C := (57, [.r 23], [], some [.i (-2147483648) 2147483647], ([(23, 5)], []))
set_option maxRecDepth 1000000 in
theorem vx_2400 : ai_valid ai_Tb cx_2400 := ai_chkH_ok (n := 28) (D := [cx_2003]) ai_TbK (ai_D1 vx_2003 ai_D0) (by decide +kernel)
-- X1_reopen
def cx_2401 : ai_C := (22, [.r 6, .r 1, .r 62, .i (-2147483648) 2147483647, .i (-2147483648) 2147483647], [(35, [.r 6, .r 1, .r 62, .i (-2147483648) 2147483647, .i (-2147483648) 2147483647, .i 0 60], [], (.v 5 60, .n 8000000000, .n 8000000000))], none, ([(6, 3), (6, 4), (6, 5), (6, 6), (6, 12), (6, 13), (6, 14), (1013, 0), (1013, 1), (1013, 2), (1013, 3), (1014, 0), (1014, 1), (1014, 2), (1014, 3), (1015, 0), (1015, 1), (1015, 2), (1015, 3), (1016, 0), (1016, 1), (1016, 2), (1016, 3)], [7, 8, 1003, 1010, 1012]))
set_option maxRecDepth 1000000 in
theorem vx_2401 : ai_valid ai_Tb cx_2401 := ai_chkH_ok (n := 100) (D := [cx_2397, cx_2341, cx_2344]) ai_TbK (ai_D1 vx_2397 (ai_D1 vx_2341 (ai_D1 vx_2344 ai_D0))) (by decide +kernel)
-- X5_restore
def cx_2402 : ai_C := (76, [.r 58, .r 1, .r 5, .r 17, .r 6], [(19, [.r 58, .r 1, .r 5, .r 17, .r 6, .i 0 6], [], (.v 5 6, .n 8000000000, .n 8000000000))], none, ([(1, 0), (1, 1), (1, 2), (6, 3), (6, 4), (6, 5), (6, 6), (6, 12), (6, 13), (6, 14), (17, 1), (1013, 0), (1013, 1), (1013, 2), (1013, 3), (1014, 0), (1014, 1), (1014, 2), (1014, 3), (1015, 0), (1015, 1), (1015, 2), (1015, 3), (1016, 0), (1016, 1), (1016, 2), (1016, 3), (1102, 0), (1102, 1), (1102, 2), (1102, 3), (1103, 0), (1103, 1), (1103, 2), (1103, 3), (1104, 0), (1104, 1), (1104, 2), (1104, 3), (1105, 0), (1105, 1), (1105, 2), (1105, 3), (1106, 0), (1106, 1), (1106, 2), (1106, 3), (1107, 0), (1107, 1), (1107, 2), (1107, 3)], [7, 8, 18, 1003, 1010, 1012]))
set_option maxRecDepth 1000000 in
theorem vx_2402 : ai_valid ai_Tb cx_2402 := ai_chkH_ok (n := 56) (D := [cx_2020, cx_2401]) ai_TbK (ai_D1 vx_2020 (ai_D1 vx_2401 ai_D0)) (by decide +kernel)
-- X1_reopen
def cx_2403 : ai_C := (22, [.r 6, .r 1, .r 57, .i (-2147483648) 2147483647, .i (-2147483648) 2147483647], [(35, [.r 6, .r 1, .r 57, .i (-2147483648) 2147483647, .i (-2147483648) 2147483647, .i 0 60], [], (.v 5 60, .n 8000000000, .n 8000000000))], none, ([(6, 3), (6, 4), (6, 5), (6, 6), (6, 12), (6, 13), (6, 14), (1013, 0), (1013, 1), (1013, 2), (1013, 3), (1014, 0), (1014, 1), (1014, 2), (1014, 3), (1015, 0), (1015, 1), (1015, 2), (1015, 3), (1016, 0), (1016, 1), (1016, 2), (1016, 3)], [7, 8, 1003, 1010, 1012]))
set_option maxRecDepth 1000000 in
theorem vx_2403 : ai_valid ai_Tb cx_2403 := ai_chkH_ok (n := 100) (D := [cx_2397, cx_2341, cx_2344]) ai_TbK (ai_D1 vx_2397 (ai_D1 vx_2341 (ai_D1 vx_2344 ai_D0))) (by decide +kernel)
-- X5_restore
def cx_2404 : ai_C := (76, [.r 53, .r 1, .r 5, .r 17, .r 6], [(19, [.r 53, .r 1, .r 5, .r 17, .r 6, .i 0 6], [], (.v 5 6, .n 8000000000, .n 8000000000))], none, ([(1, 0), (1, 1), (1, 2), (6, 3), (6, 4), (6, 5), (6, 6), (6, 12), (6, 13), (6, 14), (17, 1), (1013, 0), (1013, 1), (1013, 2), (1013, 3), (1014, 0), (1014, 1), (1014, 2), (1014, 3), (1015, 0), (1015, 1), (1015, 2), (1015, 3), (1016, 0), (1016, 1), (1016, 2), (1016, 3), (1102, 0), (1102, 1), (1102, 2), (1102, 3), (1103, 0), (1103, 1), (1103, 2), (1103, 3), (1104, 0), (1104, 1), (1104, 2), (1104, 3), (1105, 0), (1105, 1), (1105, 2), (1105, 3), (1106, 0), (1106, 1), (1106, 2), (1106, 3), (1107, 0), (1107, 1), (1107, 2), (1107, 3)], [7, 8, 18, 1003, 1010, 1012]))
set_option maxRecDepth 1000000 in
theorem vx_2404 : ai_valid ai_Tb cx_2404 := ai_chkH_ok (n := 56) (D := [cx_2020, cx_2403]) ai_TbK (ai_D1 vx_2020 (ai_D1 vx_2403 ai_D0)) (by decide +kernel)
-- X1_reopen
def cx_2405 : ai_C := (22, [.r 6, .r 1, .r 52, .i (-2147483648) 2147483647, .i (-2147483648) 2147483647], [(35, [.r 6, .r 1, .r 52, .i (-2147483648) 2147483647, .i (-2147483648) 2147483647, .i 0 60], [], (.v 5 60, .n 8000000000, .n 8000000000))], none, ([(6, 3), (6, 4), (6, 5), (6, 6), (6, 12), (6, 13), (6, 14), (1013, 0), (1013, 1), (1013, 2), (1013, 3), (1014, 0), (1014, 1), (1014, 2), (1014, 3), (1015, 0), (1015, 1), (1015, 2), (1015, 3), (1016, 0), (1016, 1), (1016, 2), (1016, 3)], [7, 8, 1003, 1010, 1012]))
set_option maxRecDepth 1000000 in
theorem vx_2405 : ai_valid ai_Tb cx_2405 := ai_chkH_ok (n := 100) (D := [cx_2397, cx_2341, cx_2344]) ai_TbK (ai_D1 vx_2397 (ai_D1 vx_2341 (ai_D1 vx_2344 ai_D0))) (by decide +kernel)
-- X5_restore
def cx_2406 : ai_C := (76, [.r 48, .r 1, .r 5, .r 17, .r 6], [(19, [.r 48, .r 1, .r 5, .r 17, .r 6, .i 0 6], [], (.v 5 6, .n 8000000000, .n 8000000000))], none, ([(1, 0), (1, 1), (1, 2), (6, 3), (6, 4), (6, 5), (6, 6), (6, 12), (6, 13), (6, 14), (17, 1), (1013, 0), (1013, 1), (1013, 2), (1013, 3), (1014, 0), (1014, 1), (1014, 2), (1014, 3), (1015, 0), (1015, 1), (1015, 2), (1015, 3), (1016, 0), (1016, 1), (1016, 2), (1016, 3), (1102, 0), (1102, 1), (1102, 2), (1102, 3), (1103, 0), (1103, 1), (1103, 2), (1103, 3), (1104, 0), (1104, 1), (1104, 2), (1104, 3), (1105, 0), (1105, 1), (1105, 2), (1105, 3), (1106, 0), (1106, 1), (1106, 2), (1106, 3), (1107, 0), (1107, 1), (1107, 2), (1107, 3)], [7, 8, 18, 1003, 1010, 1012]))
set_option maxRecDepth 1000000 in
theorem vx_2406 : ai_valid ai_Tb cx_2406 := ai_chkH_ok (n := 56) (D := [cx_2020, cx_2405]) ai_TbK (ai_D1 vx_2020 (ai_D1 vx_2405 ai_D0)) (by decide +kernel)
-- X1_reopen
def cx_2407 : ai_C := (22, [.r 6, .r 1, .r 47, .i (-2147483648) 2147483647, .i (-2147483648) 2147483647], [(35, [.r 6, .r 1, .r 47, .i (-2147483648) 2147483647, .i (-2147483648) 2147483647, .i 0 60], [], (.v 5 60, .n 8000000000, .n 8000000000))], none, ([(6, 3), (6, 4), (6, 5), (6, 6), (6, 12), (6, 13), (6, 14), (1013, 0), (1013, 1), (1013, 2), (1013, 3), (1014, 0), (1014, 1), (1014, 2), (1014, 3), (1015, 0), (1015, 1), (1015, 2), (1015, 3), (1016, 0), (1016, 1), (1016, 2), (1016, 3)], [7, 8, 1003, 1010, 1012]))
set_option maxRecDepth 1000000 in
theorem vx_2407 : ai_valid ai_Tb cx_2407 := ai_chkH_ok (n := 100) (D := [cx_2397, cx_2341, cx_2344]) ai_TbK (ai_D1 vx_2397 (ai_D1 vx_2341 (ai_D1 vx_2344 ai_D0))) (by decide +kernel)
-- X5_restore
def cx_2408 : ai_C := (76, [.r 43, .r 1, .r 5, .r 17, .r 6], [(19, [.r 43, .r 1, .r 5, .r 17, .r 6, .i 0 6], [], (.v 5 6, .n 8000000000, .n 8000000000))], none, ([(1, 0), (1, 1), (1, 2), (6, 3), (6, 4), (6, 5), (6, 6), (6, 12), (6, 13), (6, 14), (17, 1), (1013, 0), (1013, 1), (1013, 2), (1013, 3), (1014, 0), (1014, 1), (1014, 2), (1014, 3), (1015, 0), (1015, 1), (1015, 2), (1015, 3), (1016, 0), (1016, 1), (1016, 2), (1016, 3), (1102, 0), (1102, 1), (1102, 2), (1102, 3), (1103, 0), (1103, 1), (1103, 2), (1103, 3), (1104, 0), (1104, 1), (1104, 2), (1104, 3), (1105, 0), (1105, 1), (1105, 2), (1105, 3), (1106, 0), (1106, 1), (1106, 2), (1106, 3), (1107, 0), (1107, 1), (1107, 2), (1107, 3)], [7, 8, 18, 1003, 1010, 1012]))
set_option maxRecDepth 1000000 in
theorem vx_2408 : ai_valid ai_Tb cx_2408 := ai_chkH_ok (n := 56) (D := [cx_2020, cx_2407]) ai_TbK (ai_D1 vx_2020 (ai_D1 vx_2407 ai_D0)) (by decide +kernel)
-- X1_reopen
def cx_2409 : ai_C := (22, [.r 6, .r 1, .r 42, .i (-2147483648) 2147483647, .i (-2147483648) 2147483647], [(35, [.r 6, .r 1, .r 42, .i (-2147483648) 2147483647, .i (-2147483648) 2147483647, .i 0 60], [], (.v 5 60, .n 8000000000, .n 8000000000))], none, ([(6, 3), (6, 4), (6, 5), (6, 6), (6, 12), (6, 13), (6, 14), (1013, 0), (1013, 1), (1013, 2), (1013, 3), (1014, 0), (1014, 1), (1014, 2), (1014, 3), (1015, 0), (1015, 1), (1015, 2), (1015, 3), (1016, 0), (1016, 1), (1016, 2), (1016, 3)], [7, 8, 1003, 1010, 1012]))
set_option maxRecDepth 1000000 in
theorem vx_2409 : ai_valid ai_Tb cx_2409 := ai_chkH_ok (n := 100) (D := [cx_2397, cx_2341, cx_2344]) ai_TbK (ai_D1 vx_2397 (ai_D1 vx_2341 (ai_D1 vx_2344 ai_D0))) (by decide +kernel)
-- X5_restore
def cx_2410 : ai_C := (76, [.r 38, .r 1, .r 5, .r 17, .r 6], [(19, [.r 38, .r 1, .r 5, .r 17, .r 6, .i 0 6], [], (.v 5 6, .n 8000000000, .n 8000000000))], none, ([(1, 0), (1, 1), (1, 2), (6, 3), (6, 4), (6, 5), (6, 6), (6, 12), (6, 13), (6, 14), (17, 1), (1013, 0), (1013, 1), (1013, 2), (1013, 3), (1014, 0), (1014, 1), (1014, 2), (1014, 3), (1015, 0), (1015, 1), (1015, 2), (1015, 3), (1016, 0), (1016, 1), (1016, 2), (1016, 3), (1102, 0), (1102, 1), (1102, 2), (1102, 3), (1103, 0), (1103, 1), (1103, 2), (1103, 3), (1104, 0), (1104, 1), (1104, 2), (1104, 3), (1105, 0), (1105, 1), (1105, 2), (1105, 3), (1106, 0), (1106, 1), (1106, 2), (1106, 3), (1107, 0), (1107, 1), (1107, 2), (1107, 3)], [7, 8, 18, 1003, 1010, 1012]))
set_option maxRecDepth 1000000 in
theorem vx_2410 : ai_valid ai_Tb cx_2410 := ai_chkH_ok (n := 56) (D := [cx_2020, cx_2409]) ai_TbK (ai_D1 vx_2020 (ai_D1 vx_2409 ai_D0)) (by decide +kernel)
-- X1_reopen
def cx_2411 : ai_C := (22, [.r 6, .r 1, .r 37, .i (-2147483648) 2147483647, .i (-2147483648) 2147483647], [(35, [.r 6, .r 1, .r 37, .i (-2147483648) 2147483647, .i (-2147483648) 2147483647, .i 0 60], [], (.v 5 60, .n 8000000000, .n 8000000000))], none, ([(6, 3), (6, 4), (6, 5), (6, 6), (6, 12), (6, 13), (6, 14), (1013, 0), (1013, 1), (1013, 2), (1013, 3), (1014, 0), (1014, 1), (1014, 2), (1014, 3), (1015, 0), (1015, 1), (1015, 2), (1015, 3), (1016, 0), (1016, 1), (1016, 2), (1016, 3)], [7, 8, 1003, 1010, 1012]))
set_option maxRecDepth 1000000 in
theorem vx_2411 : ai_valid ai_Tb cx_2411 := ai_chkH_ok (n := 100) (D := [cx_2397, cx_2341, cx_2344]) ai_TbK (ai_D1 vx_2397 (ai_D1 vx_2341 (ai_D1 vx_2344 ai_D0))) (by decide +kernel)
-- X5_restore
def cx_2412 : ai_C := (76, [.r 33, .r 1, .r 5, .r 17, .r 6], [(19, [.r 33, .r 1, .r 5, .r 17, .r 6, .i 0 6], [], (.v 5 6, .n 8000000000, .n 8000000000))], none, ([(1, 0), (1, 1), (1, 2), (6, 3), (6, 4), (6, 5), (6, 6), (6, 12), (6, 13), (6, 14), (17, 1), (1013, 0), (1013, 1), (1013, 2), (1013, 3), (1014, 0), (1014, 1), (1014, 2), (1014, 3), (1015, 0), (1015, 1), (1015, 2), (1015, 3), (1016, 0), (1016, 1), (1016, 2), (1016, 3), (1102, 0), (1102, 1), (1102, 2), (1102, 3), (1103, 0), (1103, 1), (1103, 2), (1103, 3), (1104, 0), (1104, 1), (1104, 2), (1104, 3), (1105, 0), (1105, 1), (1105, 2), (1105, 3), (1106, 0), (1106, 1), (1106, 2), (1106, 3), (1107, 0), (1107, 1), (1107, 2), (1107, 3)], [7, 8, 18, 1003, 1010, 1012]))
set_option maxRecDepth 1000000 in
theorem vx_2412 : ai_valid ai_Tb cx_2412 := ai_chkH_ok (n := 56) (D := [cx_2020, cx_2411]) ai_TbK (ai_D1 vx_2020 (ai_D1 vx_2411 ai_D0)) (by decide +kernel)
-- X1_reopen
def cx_2413 : ai_C := (22, [.r 6, .r 1, .r 32, .i (-2147483648) 2147483647, .i (-2147483648) 2147483647], [(35, [.r 6, .r 1, .r 32, .i (-2147483648) 2147483647, .i (-2147483648) 2147483647, .i 0 60], [], (.v 5 60, .n 8000000000, .n 8000000000))], none, ([(6, 3), (6, 4), (6, 5), (6, 6), (6, 12), (6, 13), (6, 14), (1013, 0), (1013, 1), (1013, 2), (1013, 3), (1014, 0), (1014, 1), (1014, 2), (1014, 3), (1015, 0), (1015, 1), (1015, 2), (1015, 3), (1016, 0), (1016, 1), (1016, 2), (1016, 3)], [7, 8, 1003, 1010, 1012]))
set_option maxRecDepth 1000000 in
theorem vx_2413 : ai_valid ai_Tb cx_2413 := ai_chkH_ok (n := 100) (D := [cx_2397, cx_2341, cx_2344]) ai_TbK (ai_D1 vx_2397 (ai_D1 vx_2341 (ai_D1 vx_2344 ai_D0))) (by decide +kernel)
end
noncomputable section
-- PART b55.cx
-- contexts of the class, checked by the kernel
-- X5_restore
def cx_2414 : ai_C := (76, [.r 28, .r 1, .r 5, .r 17, .r 6], [(19, [.r 28, .r 1, .r 5, .r 17, .r 6, .i 0 6], [], (.v 5 6, .n 8000000000, .n 8000000000))], none, ([(1, 0), (1, 1), (1, 2), (6, 3), (6, 4), (6, 5), (6, 6), (6, 12), (6, 13), (6, 14), (17, 1), (1013, 0), (1013, 1), (1013, 2), (1013, 3), (1014, 0), (1014, 1), (1014, 2), (1014, 3), (1015, 0), (1015, 1), (1015, 2), (1015, 3), (1016, 0), (1016, 1), (1016, 2), (1016, 3), (1102, 0), (1102, 1), (1102, 2), (1102, 3), (1103, 0), (1103, 1), (1103, 2), (1103, 3), (1104, 0), (1104, 1), (1104, 2), (1104, 3), (1105, 0), (1105, 1), (1105, 2), (1105, 3), (1106, 0), (1106, 1), (1106, 2), (1106, 3), (1107, 0), (1107, 1), (1107, 2), (1107, 3)], [7, 8, 18, 1003, 1010, 1012]))
set_option maxRecDepth 1000000 in
theorem vx_2414 : ai_valid ai_Tb cx_2414 := ai_chkH_ok (n := 56) (D := [cx_2020, cx_2413]) ai_TbK (ai_D1 vx_2020 (ai_D1 vx_2413 ai_D0)) (by decide +kernel)
-- X10_undo
def cx_2415 : ai_C := (124, [.r 0], [], some [.i (-2147483648) 2147483647], ([(1, 0), (1, 1), (1, 2), (6, 3), (6, 4), (6, 5), (6, 6), (6, 12), (6, 13), (6, 14), (17, 1), (23, 5), (78, 1), (79, 3), (1013, 0), (1013, 1), (1013, 2), (1013, 3), (1014, 0), (1014, 1), (1014, 2), (1014, 3), (1015, 0), (1015, 1), (1015, 2), (1015, 3), (1016, 0), (1016, 1), (1016, 2), (1016, 3), (1102, 0), (1102, 1), (1102, 2), (1102, 3), (1103, 0), (1103, 1), (1103, 2), (1103, 3), (1104, 0), (1104, 1), (1104, 2), (1104, 3), (1105, 0), (1105, 1), (1105, 2), (1105, 3), (1106, 0), (1106, 1), (1106, 2), (1106, 3), (1107, 0), (1107, 1), (1107, 2), (1107, 3)], [7, 8, 18, 1003, 1010, 1012]))
set_option maxRecDepth 1000000 in
theorem vx_2415 : ai_valid ai_Tb cx_2415 := ai_chkH_ok (n := 45) (D := [cx_2400, cx_2399, cx_2402, cx_2404, cx_2406, cx_2408, cx_2410, cx_2412, cx_2414, cx_2003]) ai_TbK (ai_D1 vx_2400 (ai_D1 vx_2399 (ai_D1 vx_2402 (ai_D1 vx_2404 (ai_D1 vx_2406 (ai_D1 vx_2408 (ai_D1 vx_2410 (ai_D1 vx_2412 (ai_D1 vx_2414 (ai_D1 vx_2003 ai_D0)))))))))) (by decide +kernel)
-- X5_take
def cx_2416 : ai_C := (75, [.r 73, .r 1, .r 5, .r 17, .r 6], [(27, [.r 73, .r 1, .r 5, .r 17, .r 6, .i 0 6], [], (.v 5 6, .n 8000000000, .n 8000000000))], none, ([(73, 0), (73, 1), (73, 2), (73, 6), (73, 7), (74, 0), (74, 1), (74, 2), (74, 3), (74, 4), (74, 5), (74, 6), (74, 7), (74, 8), (74, 9), (74, 10), (74, 11), (74, 12), (74, 13), (74, 14), (74, 15), (74, 16), (74, 17), (74, 18), (74, 19), (74, 20), (74, 21), (74, 22), (74, 23), (75, 1)], [76, 77]))
set_option maxRecDepth 1000000 in
theorem vx_2416 : ai_valid ai_Tb cx_2416 := ai_chkH_ok (n := 56) (D := []) ai_TbK ai_D0 (by decide +kernel)
-- X10_stepsOrNone
def cx_2417 : ai_C := (157, [.r 0], [], some [.i (-1) 60], ([], []))
set_option maxRecDepth 1000000 in
theorem vx_2417 : ai_valid ai_Tb cx_2417 := ai_chkH_ok (n := 10) (D := [cx_2314]) ai_TbK (ai_D1 vx_2314 ai_D0) (by decide +kernel)
-- X5_take
def cx_2418 : ai_C := (75, [.r 68, .r 1, .r 5, .r 17, .r 6], [(27, [.r 68, .r 1, .r 5, .r 17, .r 6, .i 0 6], [], (.v 5 6, .n 8000000000, .n 8000000000))], none, ([(68, 0), (68, 1), (68, 2), (68, 6), (68, 7), (69, 0), (69, 1), (69, 2), (69, 3), (69, 4), (69, 5), (69, 6), (69, 7), (69, 8), (69, 9), (69, 10), (69, 11), (69, 12), (69, 13), (69, 14), (69, 15), (69, 16), (69, 17), (69, 18), (69, 19), (69, 20), (69, 21), (69, 22), (69, 23), (70, 1)], [71, 72]))
set_option maxRecDepth 1000000 in
theorem vx_2418 : ai_valid ai_Tb cx_2418 := ai_chkH_ok (n := 56) (D := []) ai_TbK ai_D0 (by decide +kernel)
-- X10_image
def cx_2419 : ai_C := (125, [.r 0, .i (-2147483648) 2147483647], [], some [.i (-1) 60], ([(68, 0), (68, 1), (68, 2), (68, 6), (68, 7), (69, 0), (69, 1), (69, 2), (69, 3), (69, 4), (69, 5), (69, 6), (69, 7), (69, 8), (69, 9), (69, 10), (69, 11), (69, 12), (69, 13), (69, 14), (69, 15), (69, 16), (69, 17), (69, 18), (69, 19), (69, 20), (69, 21), (69, 22), (69, 23), (70, 1), (73, 0), (73, 1), (73, 2), (73, 6), (73, 7), (74, 0), (74, 1), (74, 2), (74, 3), (74, 4), (74, 5), (74, 6), (74, 7), (74, 8), (74, 9), (74, 10), (74, 11), (74, 12), (74, 13), (74, 14), (74, 15), (74, 16), (74, 17), (74, 18), (74, 19), (74, 20), (74, 21), (74, 22), (74, 23), (75, 1), (78, 1), (79, 0)], [27, 71, 72, 76, 77]))
set_option maxRecDepth 1000000 in
theorem vx_2419 : ai_valid ai_Tb cx_2419 := ai_chkH_ok (n := 37) (D := [cx_2416, cx_2418, cx_2417]) ai_TbK (ai_D1 vx_2416 (ai_D1 vx_2418 (ai_D1 vx_2417 ai_D0))) (by decide +kernel)
-- X1_reopen
def cx_2420 : ai_C := (22, [.r 6, .r 1, .r 77, .i (-2147483648) 2147483647, .i (-2147483648) 2147483647], [(35, [.r 6, .r 1, .r 77, .i (-2147483648) 2147483647, .i (-2147483648) 2147483647, .i 0 60], [], (.v 5 60, .n 8000000000, .n 8000000000))], none, ([(6, 3), (6, 4), (6, 5), (6, 6), (6, 12), (6, 13), (6, 14), (1013, 0), (1013, 1), (1013, 2), (1013, 3), (1014, 0), (1014, 1), (1014, 2), (1014, 3), (1015, 0), (1015, 1), (1015, 2), (1015, 3), (1016, 0), (1016, 1), (1016, 2), (1016, 3)], [7, 8, 1003, 1010, 1012]))
set_option maxRecDepth 1000000 in
theorem vx_2420 : ai_valid ai_Tb cx_2420 := ai_chkH_ok (n := 100) (D := [cx_2397, cx_2341, cx_2344]) ai_TbK (ai_D1 vx_2397 (ai_D1 vx_2341 (ai_D1 vx_2344 ai_D0))) (by decide +kernel)
-- X5_restore
def cx_2421 : ai_C := (76, [.r 73, .r 1, .r 5, .r 17, .r 6], [(19, [.r 73, .r 1, .r 5, .r 17, .r 6, .i 0 6], [], (.v 5 6, .n 8000000000, .n 8000000000))], none, ([(1, 0), (1, 1), (1, 2), (6, 3), (6, 4), (6, 5), (6, 6), (6, 12), (6, 13), (6, 14), (17, 1), (1013, 0), (1013, 1), (1013, 2), (1013, 3), (1014, 0), (1014, 1), (1014, 2), (1014, 3), (1015, 0), (1015, 1), (1015, 2), (1015, 3), (1016, 0), (1016, 1), (1016, 2), (1016, 3), (1102, 0), (1102, 1), (1102, 2), (1102, 3), (1103, 0), (1103, 1), (1103, 2), (1103, 3), (1104, 0), (1104, 1), (1104, 2), (1104, 3), (1105, 0), (1105, 1), (1105, 2), (1105, 3), (1106, 0), (1106, 1), (1106, 2), (1106, 3), (1107, 0), (1107, 1), (1107, 2), (1107, 3)], [7, 8, 18, 1003, 1010, 1012]))
set_option maxRecDepth 1000000 in
theorem vx_2421 : ai_valid ai_Tb cx_2421 := ai_chkH_ok (n := 56) (D := [cx_2020, cx_2420]) ai_TbK (ai_D1 vx_2020 (ai_D1 vx_2420 ai_D0)) (by decide +kernel)
-- X1_reopen
def cx_2422 : ai_C := (22, [.r 6, .r 1, .r 72, .i (-2147483648) 2147483647, .i (-2147483648) 2147483647], [(35, [.r 6, .r 1, .r 72, .i (-2147483648) 2147483647, .i (-2147483648) 2147483647, .i 0 60], [], (.v 5 60, .n 8000000000, .n 8000000000))], none, ([(6, 3), (6, 4), (6, 5), (6, 6), (6, 12), (6, 13), (6, 14), (1013, 0), (1013, 1), (1013, 2), (1013, 3), (1014, 0), (1014, 1), (1014, 2), (1014, 3), (1015, 0), (1015, 1), (1015, 2), (1015, 3), (1016, 0), (1016, 1), (1016, 2), (1016, 3)], [7, 8, 1003, 1010, 1012]))
set_option maxRecDepth 1000000 in
theorem vx_2422 : ai_valid ai_Tb cx_2422 := ai_chkH_ok (n := 100) (D := [cx_2397, cx_2341, cx_2344]) ai_TbK (ai_D1 vx_2397 (ai_D1 vx_2341 (ai_D1 vx_2344 ai_D0))) (by decide +kernel)
-- X5_restore
def cx_2423 : ai_C := (76, [.r 68, .r 1, .r 5, .r 17, .r 6], [(19, [.r 68, .r 1, .r 5, .r 17, .r 6, .i 0 6], [], (.v 5 6, .n 8000000000, .n 8000000000))], none, ([(1, 0), (1, 1), (1, 2), (6, 3), (6, 4), (6, 5), (6, 6), (6, 12), (6, 13), (6, 14), (17, 1), (1013, 0), (1013, 1), (1013, 2), (1013, 3), (1014, 0), (1014, 1), (1014, 2), (1014, 3), (1015, 0), (1015, 1), (1015, 2), (1015, 3), (1016, 0), (1016, 1), (1016, 2), (1016, 3), (1102, 0), (1102, 1), (1102, 2), (1102, 3), (1103, 0), (1103, 1), (1103, 2), (1103, 3), (1104, 0), (1104, 1), (1104, 2), (1104, 3), (1105, 0), (1105, 1), (1105, 2), (1105, 3), (1106, 0), (1106, 1), (1106, 2), (1106, 3), (1107, 0), (1107, 1), (1107, 2), (1107, 3)], [7, 8, 18, 1003, 1010, 1012]))
set_option maxRecDepth 1000000 in
theorem vx_2423 : ai_valid ai_Tb cx_2423 := ai_chkH_ok (n := 56) (D := [cx_2020, cx_2422]) ai_TbK (ai_D1 vx_2020 (ai_D1 vx_2422 ai_D0)) (by decide +kernel)
-- X10_back
def cx_2424 : ai_C := (126, [.r 0, .i (-2147483648) 2147483647], [], some [.i (-2) 60], ([(1, 0), (1, 1), (1, 2), (6, 3), (6, 4), (6, 5), (6, 6), (6, 12), (6, 13), (6, 14), (17, 1), (23, 5), (78, 1), (79, 0), (79, 1), (1013, 0), (1013, 1), (1013, 2), (1013, 3), (1014, 0), (1014, 1), (1014, 2), (1014, 3), (1015, 0), (1015, 1), (1015, 2), (1015, 3), (1016, 0), (1016, 1), (1016, 2), (1016, 3), (1102, 0), (1102, 1), (1102, 2), (1102, 3), (1103, 0), (1103, 1), (1103, 2), (1103, 3), (1104, 0), (1104, 1), (1104, 2), (1104, 3), (1105, 0), (1105, 1), (1105, 2), (1105, 3), (1106, 0), (1106, 1), (1106, 2), (1106, 3), (1107, 0), (1107, 1), (1107, 2), (1107, 3)], [7, 8, 18, 1003, 1010, 1012]))
set_option maxRecDepth 1000000 in
theorem vx_2424 : ai_valid ai_Tb cx_2424 := ai_chkH_ok (n := 44) (D := [cx_2421, cx_2423, cx_2417]) ai_TbK (ai_D1 vx_2421 (ai_D1 vx_2423 (ai_D1 vx_2417 ai_D0))) (by decide +kernel)
-- X10_value
def cx_2425 : ai_C := (127, [.r 0, .i (-2147483648) 2147483647, .i (-2147483648) 2147483647], [], some [.i (-2147483648) 2147483647], ([], []))
set_option maxRecDepth 1000000 in
theorem vx_2425 : ai_valid ai_Tb cx_2425 := ai_chkH_ok (n := 41) (D := [cx_2212, cx_2215, cx_2218, cx_2221, cx_2224, cx_2227, cx_2027, cx_2029, cx_2031, cx_2033, cx_2035, cx_2037]) ai_TbK (ai_D1 vx_2212 (ai_D1 vx_2215 (ai_D1 vx_2218 (ai_D1 vx_2221 (ai_D1 vx_2224 (ai_D1 vx_2227 (ai_D1 vx_2027 (ai_D1 vx_2029 (ai_D1 vx_2031 (ai_D1 vx_2033 (ai_D1 vx_2035 (ai_D1 vx_2037 ai_D0)))))))))))) (by decide +kernel)
-- X10_matrix
def cx_2426 : ai_C := (128, [.r 0, .i (-2147483648) 2147483647, .i (-2147483648) 2147483647, .i (-2147483648) 2147483647], [], some [.l (-9223372036854775808) 9223372036854775807], ([], [1003]))
set_option maxRecDepth 1000000 in
theorem vx_2426 : ai_valid ai_Tb cx_2426 := ai_chkH_ok (n := 54) (D := [cx_2053, cx_2054]) ai_TbK (ai_D1 vx_2053 (ai_D1 vx_2054 ai_D0)) (by decide +kernel)
-- X10_lowest
def cx_2427 : ai_C := (164, [.l (-9223372036854775808) 9223372036854775807, .l (-9223372036854775808) 9223372036854775807, .i (-2147483648) 2147483647], [], some [.l (-9223372036854775808) 9223372036854775807], ([], []))
set_option maxRecDepth 1000000 in
theorem vx_2427 : ai_valid ai_Tb cx_2427 := ai_chkH_ok (n := 16) (D := [cx_2013]) ai_TbK (ai_D1 vx_2013 ai_D0) (by decide +kernel)
-- X10_norm
def cx_2428 : ai_C := (129, [.r 0, .i (-2147483648) 2147483647, .i (-2147483648) 2147483647, .i (-2147483648) 2147483647], [], some [.l (-9223372036854775808) 9223372036854775807], ([], [1003]))
set_option maxRecDepth 1000000 in
theorem vx_2428 : ai_valid ai_Tb cx_2428 := ai_chkH_ok (n := 62) (D := [cx_2053, cx_2058, cx_2427]) ai_TbK (ai_D1 vx_2053 (ai_D1 vx_2058 (ai_D1 vx_2427 ai_D0))) (by decide +kernel)
-- X2_signOfDifference
def cx_2429 : ai_C := (48, [.r 1, .r 107, .r 107], [], some [.i (-1) 1], ([], []))
set_option maxRecDepth 1000000 in
theorem vx_2429 : ai_valid ai_Tb cx_2429 := ai_chkH_ok (n := 37) (D := [cx_2025]) ai_TbK (ai_D1 vx_2025 ai_D0) (by decide +kernel)
-- X2_signOfDifference
def cx_2430 : ai_C := (48, [.r 1, .r 107, .r 106], [], some [.i (-1) 1], ([], []))
set_option maxRecDepth 1000000 in
theorem vx_2430 : ai_valid ai_Tb cx_2430 := ai_chkH_ok (n := 37) (D := [cx_2025]) ai_TbK (ai_D1 vx_2025 ai_D0) (by decide +kernel)
-- X2_signOfDifference
def cx_2431 : ai_C := (48, [.r 1, .r 107, .r 105], [], some [.i (-1) 1], ([], []))
set_option maxRecDepth 1000000 in
theorem vx_2431 : ai_valid ai_Tb cx_2431 := ai_chkH_ok (n := 37) (D := [cx_2025]) ai_TbK (ai_D1 vx_2025 ai_D0) (by decide +kernel)
-- X2_signOfDifference
def cx_2432 : ai_C := (48, [.r 1, .r 107, .r 104], [], some [.i (-1) 1], ([], []))
set_option maxRecDepth 1000000 in
theorem vx_2432 : ai_valid ai_Tb cx_2432 := ai_chkH_ok (n := 37) (D := [cx_2025]) ai_TbK (ai_D1 vx_2025 ai_D0) (by decide +kernel)
-- X2_signOfDifference
def cx_2433 : ai_C := (48, [.r 1, .r 107, .r 103], [], some [.i (-1) 1], ([], []))
set_option maxRecDepth 1000000 in
theorem vx_2433 : ai_valid ai_Tb cx_2433 := ai_chkH_ok (n := 37) (D := [cx_2025]) ai_TbK (ai_D1 vx_2025 ai_D0) (by decide +kernel)
-- X2_signOfDifference
def cx_2434 : ai_C := (48, [.r 1, .r 107, .r 102], [], some [.i (-1) 1], ([], []))
set_option maxRecDepth 1000000 in
theorem vx_2434 : ai_valid ai_Tb cx_2434 := ai_chkH_ok (n := 37) (D := [cx_2025]) ai_TbK (ai_D1 vx_2025 ai_D0) (by decide +kernel)
-- X2_signOfDifference
def cx_2435 : ai_C := (48, [.r 1, .r 106, .r 107], [], some [.i (-1) 1], ([], []))
set_option maxRecDepth 1000000 in
theorem vx_2435 : ai_valid ai_Tb cx_2435 := ai_chkH_ok (n := 37) (D := [cx_2025]) ai_TbK (ai_D1 vx_2025 ai_D0) (by decide +kernel)
-- X2_signOfDifference
def cx_2436 : ai_C := (48, [.r 1, .r 106, .r 106], [], some [.i (-1) 1], ([], []))
set_option maxRecDepth 1000000 in
theorem vx_2436 : ai_valid ai_Tb cx_2436 := ai_chkH_ok (n := 37) (D := [cx_2025]) ai_TbK (ai_D1 vx_2025 ai_D0) (by decide +kernel)
-- X2_signOfDifference
def cx_2437 : ai_C := (48, [.r 1, .r 106, .r 105], [], some [.i (-1) 1], ([], []))
set_option maxRecDepth 1000000 in
theorem vx_2437 : ai_valid ai_Tb cx_2437 := ai_chkH_ok (n := 37) (D := [cx_2025]) ai_TbK (ai_D1 vx_2025 ai_D0) (by decide +kernel)
-- X2_signOfDifference
def cx_2438 : ai_C := (48, [.r 1, .r 106, .r 104], [], some [.i (-1) 1], ([], []))
set_option maxRecDepth 1000000 in
theorem vx_2438 : ai_valid ai_Tb cx_2438 := ai_chkH_ok (n := 37) (D := [cx_2025]) ai_TbK (ai_D1 vx_2025 ai_D0) (by decide +kernel)
-- X2_signOfDifference
def cx_2439 : ai_C := (48, [.r 1, .r 106, .r 103], [], some [.i (-1) 1], ([], []))
set_option maxRecDepth 1000000 in
theorem vx_2439 : ai_valid ai_Tb cx_2439 := ai_chkH_ok (n := 37) (D := [cx_2025]) ai_TbK (ai_D1 vx_2025 ai_D0) (by decide +kernel)
-- X2_signOfDifference
def cx_2440 : ai_C := (48, [.r 1, .r 106, .r 102], [], some [.i (-1) 1], ([], []))
set_option maxRecDepth 1000000 in
theorem vx_2440 : ai_valid ai_Tb cx_2440 := ai_chkH_ok (n := 37) (D := [cx_2025]) ai_TbK (ai_D1 vx_2025 ai_D0) (by decide +kernel)
-- X2_signOfDifference
def cx_2441 : ai_C := (48, [.r 1, .r 105, .r 107], [], some [.i (-1) 1], ([], []))
set_option maxRecDepth 1000000 in
theorem vx_2441 : ai_valid ai_Tb cx_2441 := ai_chkH_ok (n := 37) (D := [cx_2025]) ai_TbK (ai_D1 vx_2025 ai_D0) (by decide +kernel)
-- X2_signOfDifference
def cx_2442 : ai_C := (48, [.r 1, .r 105, .r 106], [], some [.i (-1) 1], ([], []))
set_option maxRecDepth 1000000 in
theorem vx_2442 : ai_valid ai_Tb cx_2442 := ai_chkH_ok (n := 37) (D := [cx_2025]) ai_TbK (ai_D1 vx_2025 ai_D0) (by decide +kernel)
-- X2_signOfDifference
def cx_2443 : ai_C := (48, [.r 1, .r 105, .r 105], [], some [.i (-1) 1], ([], []))
set_option maxRecDepth 1000000 in
theorem vx_2443 : ai_valid ai_Tb cx_2443 := ai_chkH_ok (n := 37) (D := [cx_2025]) ai_TbK (ai_D1 vx_2025 ai_D0) (by decide +kernel)
-- X2_signOfDifference
def cx_2444 : ai_C := (48, [.r 1, .r 105, .r 104], [], some [.i (-1) 1], ([], []))
set_option maxRecDepth 1000000 in
theorem vx_2444 : ai_valid ai_Tb cx_2444 := ai_chkH_ok (n := 37) (D := [cx_2025]) ai_TbK (ai_D1 vx_2025 ai_D0) (by decide +kernel)
-- X2_signOfDifference
def cx_2445 : ai_C := (48, [.r 1, .r 105, .r 103], [], some [.i (-1) 1], ([], []))
set_option maxRecDepth 1000000 in
theorem vx_2445 : ai_valid ai_Tb cx_2445 := ai_chkH_ok (n := 37) (D := [cx_2025]) ai_TbK (ai_D1 vx_2025 ai_D0) (by decide +kernel)
-- X2_signOfDifference
def cx_2446 : ai_C := (48, [.r 1, .r 105, .r 102], [], some [.i (-1) 1], ([], []))
set_option maxRecDepth 1000000 in
theorem vx_2446 : ai_valid ai_Tb cx_2446 := ai_chkH_ok (n := 37) (D := [cx_2025]) ai_TbK (ai_D1 vx_2025 ai_D0) (by decide +kernel)
-- X2_signOfDifference
def cx_2447 : ai_C := (48, [.r 1, .r 104, .r 107], [], some [.i (-1) 1], ([], []))
set_option maxRecDepth 1000000 in
theorem vx_2447 : ai_valid ai_Tb cx_2447 := ai_chkH_ok (n := 37) (D := [cx_2025]) ai_TbK (ai_D1 vx_2025 ai_D0) (by decide +kernel)
-- X2_signOfDifference
def cx_2448 : ai_C := (48, [.r 1, .r 104, .r 106], [], some [.i (-1) 1], ([], []))
set_option maxRecDepth 1000000 in
theorem vx_2448 : ai_valid ai_Tb cx_2448 := ai_chkH_ok (n := 37) (D := [cx_2025]) ai_TbK (ai_D1 vx_2025 ai_D0) (by decide +kernel)
-- X2_signOfDifference
def cx_2449 : ai_C := (48, [.r 1, .r 104, .r 105], [], some [.i (-1) 1], ([], []))
set_option maxRecDepth 1000000 in
theorem vx_2449 : ai_valid ai_Tb cx_2449 := ai_chkH_ok (n := 37) (D := [cx_2025]) ai_TbK (ai_D1 vx_2025 ai_D0) (by decide +kernel)
-- X2_signOfDifference
def cx_2450 : ai_C := (48, [.r 1, .r 104, .r 104], [], some [.i (-1) 1], ([], []))
set_option maxRecDepth 1000000 in
theorem vx_2450 : ai_valid ai_Tb cx_2450 := ai_chkH_ok (n := 37) (D := [cx_2025]) ai_TbK (ai_D1 vx_2025 ai_D0) (by decide +kernel)
-- X2_signOfDifference
def cx_2451 : ai_C := (48, [.r 1, .r 104, .r 103], [], some [.i (-1) 1], ([], []))
set_option maxRecDepth 1000000 in
theorem vx_2451 : ai_valid ai_Tb cx_2451 := ai_chkH_ok (n := 37) (D := [cx_2025]) ai_TbK (ai_D1 vx_2025 ai_D0) (by decide +kernel)
-- X2_signOfDifference
def cx_2452 : ai_C := (48, [.r 1, .r 104, .r 102], [], some [.i (-1) 1], ([], []))
set_option maxRecDepth 1000000 in
theorem vx_2452 : ai_valid ai_Tb cx_2452 := ai_chkH_ok (n := 37) (D := [cx_2025]) ai_TbK (ai_D1 vx_2025 ai_D0) (by decide +kernel)
-- X2_signOfDifference
def cx_2453 : ai_C := (48, [.r 1, .r 103, .r 107], [], some [.i (-1) 1], ([], []))
set_option maxRecDepth 1000000 in
theorem vx_2453 : ai_valid ai_Tb cx_2453 := ai_chkH_ok (n := 37) (D := [cx_2025]) ai_TbK (ai_D1 vx_2025 ai_D0) (by decide +kernel)
-- X2_signOfDifference
def cx_2454 : ai_C := (48, [.r 1, .r 103, .r 106], [], some [.i (-1) 1], ([], []))
set_option maxRecDepth 1000000 in
theorem vx_2454 : ai_valid ai_Tb cx_2454 := ai_chkH_ok (n := 37) (D := [cx_2025]) ai_TbK (ai_D1 vx_2025 ai_D0) (by decide +kernel)
-- X2_signOfDifference
def cx_2455 : ai_C := (48, [.r 1, .r 103, .r 105], [], some [.i (-1) 1], ([], []))
set_option maxRecDepth 1000000 in
theorem vx_2455 : ai_valid ai_Tb cx_2455 := ai_chkH_ok (n := 37) (D := [cx_2025]) ai_TbK (ai_D1 vx_2025 ai_D0) (by decide +kernel)
-- X2_signOfDifference
def cx_2456 : ai_C := (48, [.r 1, .r 103, .r 104], [], some [.i (-1) 1], ([], []))
set_option maxRecDepth 1000000 in
theorem vx_2456 : ai_valid ai_Tb cx_2456 := ai_chkH_ok (n := 37) (D := [cx_2025]) ai_TbK (ai_D1 vx_2025 ai_D0) (by decide +kernel)
-- X2_signOfDifference
def cx_2457 : ai_C := (48, [.r 1, .r 103, .r 103], [], some [.i (-1) 1], ([], []))
set_option maxRecDepth 1000000 in
theorem vx_2457 : ai_valid ai_Tb cx_2457 := ai_chkH_ok (n := 37) (D := [cx_2025]) ai_TbK (ai_D1 vx_2025 ai_D0) (by decide +kernel)
-- X2_signOfDifference
def cx_2458 : ai_C := (48, [.r 1, .r 103, .r 102], [], some [.i (-1) 1], ([], []))
set_option maxRecDepth 1000000 in
theorem vx_2458 : ai_valid ai_Tb cx_2458 := ai_chkH_ok (n := 37) (D := [cx_2025]) ai_TbK (ai_D1 vx_2025 ai_D0) (by decide +kernel)
-- X2_signOfDifference
def cx_2459 : ai_C := (48, [.r 1, .r 102, .r 107], [], some [.i (-1) 1], ([], []))
set_option maxRecDepth 1000000 in
theorem vx_2459 : ai_valid ai_Tb cx_2459 := ai_chkH_ok (n := 37) (D := [cx_2025]) ai_TbK (ai_D1 vx_2025 ai_D0) (by decide +kernel)
-- X2_signOfDifference
def cx_2460 : ai_C := (48, [.r 1, .r 102, .r 106], [], some [.i (-1) 1], ([], []))
set_option maxRecDepth 1000000 in
theorem vx_2460 : ai_valid ai_Tb cx_2460 := ai_chkH_ok (n := 37) (D := [cx_2025]) ai_TbK (ai_D1 vx_2025 ai_D0) (by decide +kernel)
-- X2_signOfDifference
def cx_2461 : ai_C := (48, [.r 1, .r 102, .r 105], [], some [.i (-1) 1], ([], []))
set_option maxRecDepth 1000000 in
theorem vx_2461 : ai_valid ai_Tb cx_2461 := ai_chkH_ok (n := 37) (D := [cx_2025]) ai_TbK (ai_D1 vx_2025 ai_D0) (by decide +kernel)
-- X2_signOfDifference
def cx_2462 : ai_C := (48, [.r 1, .r 102, .r 104], [], some [.i (-1) 1], ([], []))
set_option maxRecDepth 1000000 in
theorem vx_2462 : ai_valid ai_Tb cx_2462 := ai_chkH_ok (n := 37) (D := [cx_2025]) ai_TbK (ai_D1 vx_2025 ai_D0) (by decide +kernel)
-- X2_signOfDifference
def cx_2463 : ai_C := (48, [.r 1, .r 102, .r 103], [], some [.i (-1) 1], ([], []))
set_option maxRecDepth 1000000 in
theorem vx_2463 : ai_valid ai_Tb cx_2463 := ai_chkH_ok (n := 37) (D := [cx_2025]) ai_TbK (ai_D1 vx_2025 ai_D0) (by decide +kernel)
-- X2_signOfDifference
def cx_2464 : ai_C := (48, [.r 1, .r 102, .r 102], [], some [.i (-1) 1], ([], []))
set_option maxRecDepth 1000000 in
theorem vx_2464 : ai_valid ai_Tb cx_2464 := ai_chkH_ok (n := 37) (D := [cx_2025]) ai_TbK (ai_D1 vx_2025 ai_D0) (by decide +kernel)
-- X10_compare
def cx_2465 : ai_C := (130, [.r 0, .i (-2147483648) 2147483647, .i (-2147483648) 2147483647], [], some [.i (-2) 1], ([], []))
set_option maxRecDepth 1000000 in
theorem vx_2465 : ai_valid ai_Tb cx_2465 := ai_chkH_ok (n := 35) (D := [cx_2429, cx_2430, cx_2431, cx_2432, cx_2433, cx_2434, cx_2435, cx_2436, cx_2437, cx_2438, cx_2439, cx_2440, cx_2441, cx_2442, cx_2443, cx_2444, cx_2445, cx_2446, cx_2447, cx_2448, cx_2449, cx_2450, cx_2451, cx_2452, cx_2453, cx_2454, cx_2455, cx_2456, cx_2457, cx_2458, cx_2459, cx_2460, cx_2461, cx_2462, cx_2463, cx_2464]) ai_TbK (ai_D1 vx_2429 (ai_D1 vx_2430 (ai_D1 vx_2431 (ai_D1 vx_2432 (ai_D1 vx_2433 (ai_D1 vx_2434 (ai_D1 vx_2435 (ai_D1 vx_2436 (ai_D1 vx_2437 (ai_D1 vx_2438 (ai_D1 vx_2439 (ai_D1 vx_2440 (ai_D1 vx_2441 (ai_D1 vx_2442 (ai_D1 vx_2443 (ai_D1 vx_2444 (ai_D1 vx_2445 (ai_D1 vx_2446 (ai_D1 vx_2447 (ai_D1 vx_2448 (ai_D1 vx_2449 (ai_D1 vx_2450 (ai_D1 vx_2451 (ai_D1 vx_2452 (ai_D1 vx_2453 (ai_D1 vx_2454 (ai_D1 vx_2455 (ai_D1 vx_2456 (ai_D1 vx_2457 (ai_D1 vx_2458 (ai_D1 vx_2459 (ai_D1 vx_2460 (ai_D1 vx_2461 (ai_D1 vx_2462 (ai_D1 vx_2463 (ai_D1 vx_2464 ai_D0)))))))))))))))))))))))))))))))))))) (by decide +kernel)
-- X1_hasState
def cx_2466 : ai_C := (13, [.r 6, .i (-2147483648) 2147483647], [], some [.i 0 1], ([], []))
set_option maxRecDepth 1000000 in
theorem vx_2466 : ai_valid ai_Tb cx_2466 := ai_chkH_ok (n := 13) (D := [cx_2314]) ai_TbK (ai_D1 vx_2314 ai_D0) (by decide +kernel)
-- X10_state
def cx_2467 : ai_C := (131, [.r 0, .i (-2147483648) 2147483647, .i (-2147483648) 2147483647, .i (-2147483648) 2147483647], [], some [.i (-2147483648) 2147483647], ([], []))
set_option maxRecDepth 1000000 in
theorem vx_2467 : ai_valid ai_Tb cx_2467 := ai_chkH_ok (n := 21) (D := [cx_2466, cx_2311]) ai_TbK (ai_D1 vx_2466 (ai_D1 vx_2311 ai_D0)) (by decide +kernel)
-- X1_digitOf
def cx_2468 : ai_C := (17, [.r 6, .i (-2147483648) 2147483647, .i (-2147483648) 2147483647], [], some [.i (-2147483648) 2147483647], ([], []))
set_option maxRecDepth 1000000 in
theorem vx_2468 : ai_valid ai_Tb cx_2468 := ai_chkH_ok (n := 23) (D := [cx_2312]) ai_TbK (ai_D1 vx_2312 ai_D0) (by decide +kernel)
-- X10_digit
def cx_2469 : ai_C := (132, [.r 0, .i (-2147483648) 2147483647, .i (-2147483648) 2147483647], [], some [.i (-2147483648) 2147483647], ([], []))
set_option maxRecDepth 1000000 in
theorem vx_2469 : ai_valid ai_Tb cx_2469 := ai_chkH_ok (n := 19) (D := [cx_2314, cx_2468]) ai_TbK (ai_D1 vx_2314 (ai_D1 vx_2468 ai_D0)) (by decide +kernel)
-- X4_cell
def cx_2470 : ai_C := (62, [.r 9, .i (-2147483648) 2147483647, .i (-2147483648) 2147483647], [], some [.l (-9223372036854775808) 9223372036854775807], ([], []))
set_option maxRecDepth 1000000 in
theorem vx_2470 : ai_valid ai_Tb cx_2470 := ai_chkH_ok (n := 28) (D := []) ai_TbK ai_D0 (by decide +kernel)
-- X10_product
def cx_2471 : ai_C := (133, [.r 0, .i (-2147483648) 2147483647, .i (-2147483648) 2147483647], [], some [.l (-9223372036854775808) 9223372036854775807], ([], []))
set_option maxRecDepth 1000000 in
theorem vx_2471 : ai_valid ai_Tb cx_2471 := ai_chkH_ok (n := 29) (D := [cx_2314, cx_2470]) ai_TbK (ai_D1 vx_2314 (ai_D1 vx_2470 ai_D0)) (by decide +kernel)
-- X4_cofactor
def cx_2472 : ai_C := (71, [.r 9, .i (-2147483648) 2147483647, .i (-2147483648) 2147483647], [], some [.l (-9223372036854775808) 9223372036854775807], ([], []))
set_option maxRecDepth 1000000 in
theorem vx_2472 : ai_valid ai_Tb cx_2472 := ai_chkH_ok (n := 74) (D := []) ai_TbK ai_D0 (by decide +kernel)
-- X4_equate
def cx_2473 : ai_C := (72, [.r 9, .i (-2147483648) 2147483647], [], some [.l (-9223372036854775808) 9223372036854775807], ([], []))
set_option maxRecDepth 1000000 in
theorem vx_2473 : ai_valid ai_Tb cx_2473 := ai_chkH_ok (n := 36) (D := [cx_2472]) ai_TbK (ai_D1 vx_2472 ai_D0) (by decide +kernel)
-- X10_determinant
def cx_2474 : ai_C := (134, [.r 0], [], some [.i (-2147483648) 2147483647], ([], []))
set_option maxRecDepth 1000000 in
theorem vx_2474 : ai_valid ai_Tb cx_2474 := ai_chkH_ok (n := 13) (D := [cx_2314, cx_2473]) ai_TbK (ai_D1 vx_2314 (ai_D1 vx_2473 ai_D0)) (by decide +kernel)
-- X0_order
def cx_2475 : ai_C := (3, [.r 9, .i (-2147483648) 2147483647, .i (-2147483648) 2147483647, .i (-2147483648) 2147483647], [(38, [.r 9, .i (-2147483648) 2147483647, .i (-2147483648) 2147483647, .i (-2147483648) 2147483647, .l (-9223372036854775808) 9223372036854775807, .u, .l (-9223372036854775808) 9223372036854775807, .u, .l (-9223372036854775808) 9223372036854775807, .u, .l (-9223372036854775808) 9223372036854775807, .u, .i (-1) 1, .i 0 200, .u, .u, .u, .u], [], (.v 13 200, .n 8000000000, .n 8000000000))], some [.i (-1) 1], ([], []))
set_option maxRecDepth 1000000 in
theorem vx_2475 : ai_valid ai_Tb cx_2475 := ai_chkH_ok (n := 50) (D := [cx_2470]) ai_TbK (ai_D1 vx_2470 ai_D0) (by decide +kernel)
-- X0_layPart
def cx_2476 : ai_C := (2, [.r 97, .r 9, .i 0 0], [(13, [.r 97, .r 9, .i 0 0, .i 1 1, .i 0 2, .i 0 2, .i 1 3, .u], [], (.n 2, .v 6 3, .n 8000000000)), (82, [.r 97, .r 9, .i 0 0, .i 1 1, .i 0 2, .i 0 2, .i 0 2, .u], [(99, 0, 0, 2), (99, 1, 0, 2)], (.n 1, .v 6 2, .n 8000000000))], none, ([(99, 0), (99, 1)], [1098]))
set_option maxRecDepth 1000000 in
theorem vx_2476 : ai_valid ai_Tb cx_2476 := ai_chkH_ok (n := 58) (D := [cx_2475, cx_2470, cx_2427]) ai_TbK (ai_D1 vx_2475 (ai_D1 vx_2470 (ai_D1 vx_2427 ai_D0))) (by decide +kernel)
-- X0_layPart
def cx_2477 : ai_C := (2, [.r 97, .r 9, .i 1 1], [(13, [.r 97, .r 9, .i 1 1, .i 2 2, .i 0 2, .i 0 2, .i 1 3, .u], [], (.n 2, .v 6 3, .n 8000000000)), (82, [.r 97, .r 9, .i 1 1, .i 2 2, .i 0 2, .i 0 2, .i 0 2, .u], [(99, 2, 0, 2), (99, 3, 0, 2)], (.n 1, .v 6 2, .n 8000000000))], none, ([(99, 2), (99, 3)], [1098]))
set_option maxRecDepth 1000000 in
theorem vx_2477 : ai_valid ai_Tb cx_2477 := ai_chkH_ok (n := 58) (D := [cx_2475, cx_2470, cx_2427]) ai_TbK (ai_D1 vx_2475 (ai_D1 vx_2470 (ai_D1 vx_2427 ai_D0))) (by decide +kernel)
-- X0_lay
def cx_2478 : ai_C := (1, [.r 97, .r 9], [(2, [.r 97, .r 9, .i 0 3], [], (.v 2 3, .n 8000000000, .n 8000000000))], some [.i 0 1], ([(99, 0), (99, 1), (99, 2), (99, 3)], [1098]))
set_option maxRecDepth 1000000 in
theorem vx_2478 : ai_valid ai_Tb cx_2478 := ai_chkH_ok (n := 14) (D := [cx_2476, cx_2477, cx_2470]) ai_TbK (ai_D1 vx_2476 (ai_D1 vx_2477 (ai_D1 vx_2470 ai_D0))) (by decide +kernel)
-- X10_hasBounds
def cx_2479 : ai_C := (160, [.r 0], [], some [.i 0 1], ([(99, 0), (99, 1), (99, 2), (99, 3)], [1098]))
set_option maxRecDepth 1000000 in
theorem vx_2479 : ai_valid ai_Tb cx_2479 := ai_chkH_ok (n := 15) (D := [cx_2478, cx_2314]) ai_TbK (ai_D1 vx_2478 (ai_D1 vx_2314 ai_D0)) (by decide +kernel)
-- X0_endOf
def cx_2480 : ai_C := (4, [.r 97, .i (-2147483648) 2147483647, .i (-2147483648) 2147483647], [], some [.l (-9223372036854775808) 9223372036854775807], ([], []))
set_option maxRecDepth 1000000 in
theorem vx_2480 : ai_valid ai_Tb cx_2480 := ai_chkH_ok (n := 20) (D := []) ai_TbK ai_D0 (by decide +kernel)
-- X10_bounds
def cx_2481 : ai_C := (135, [.r 0, .i (-2147483648) 2147483647, .i (-2147483648) 2147483647], [], some [.l (-9223372036854775808) 9223372036854775807], ([(99, 0), (99, 1), (99, 2), (99, 3)], [1098]))
set_option maxRecDepth 1000000 in
theorem vx_2481 : ai_valid ai_Tb cx_2481 := ai_chkH_ok (n := 18) (D := [cx_2480, cx_2479]) ai_TbK (ai_D1 vx_2480 (ai_D1 vx_2479 ai_D0)) (by decide +kernel)
-- X10_outer
def cx_2482 : ai_C := (136, [.r 0, .i (-2147483648) 2147483647, .i (-2147483648) 2147483647], [], some [.i (-2147483648) 2147483647], ([(99, 0), (99, 1), (99, 2), (99, 3)], [1098]))
set_option maxRecDepth 1000000 in
theorem vx_2482 : ai_valid ai_Tb cx_2482 := ai_chkH_ok (n := 37) (D := [cx_2479]) ai_TbK (ai_D1 vx_2479 ai_D0) (by decide +kernel)
-- X4_isAbove
def cx_2483 : ai_C := (70, [.r 9, .l (-9223372036854775808) 9223372036854775807], [(2, [.r 9, .l (-9223372036854775808) 9223372036854775807, .u, .i 0 9], [], (.v 3 9, .n 8000000000, .n 8000000000))], some [.i 0 1], ([], []))
set_option maxRecDepth 1000000 in
theorem vx_2483 : ai_valid ai_Tb cx_2483 := ai_chkH_ok (n := 14) (D := []) ai_TbK ai_D0 (by decide +kernel)
-- X10_inverse
def cx_2484 : ai_C := (137, [.r 0, .i (-2147483648) 2147483647, .i (-2147483648) 2147483647], [], some [.l (-9223372036854775808) 9223372036854775807], ([], []))
set_option maxRecDepth 1000000 in
theorem vx_2484 : ai_valid ai_Tb cx_2484 := ai_chkH_ok (n := 41) (D := [cx_2314, cx_2483, cx_2472, cx_2473]) ai_TbK (ai_D1 vx_2314 (ai_D1 vx_2483 (ai_D1 vx_2472 (ai_D1 vx_2473 ai_D0)))) (by decide +kernel)
-- X1_lay
def cx_2485 : ai_C := (16, [.r 6, .i (-2147483648) 2147483647, .i (-2147483648) 2147483647, .r 100], [], none, ([(1100, 0), (1100, 1), (1100, 2), (1100, 3)], []))
set_option maxRecDepth 1000000 in
theorem vx_2485 : ai_valid ai_Tb cx_2485 := ai_chkH_ok (n := 52) (D := []) ai_TbK ai_D0 (by decide +kernel)
-- X2_signLess
def cx_2486 : ai_C := (47, [.r 1, .r 100, .l (-9223372036854775808) 9223372036854775807, .l (-9223372036854775808) 9223372036854775807], [], some [.i (-1) 1], ([], []))
set_option maxRecDepth 1000000 in
theorem vx_2486 : ai_valid ai_Tb cx_2486 := ai_chkH_ok (n := 21) (D := [cx_2025]) ai_TbK (ai_D1 vx_2025 ai_D0) (by decide +kernel)
-- X10_side
def cx_2487 : ai_C := (138, [.r 0, .i (-2147483648) 2147483647, .i (-2147483648) 2147483647, .i (-2147483648) 2147483647], [], some [.i (-2) 1], ([(1100, 0), (1100, 1), (1100, 2), (1100, 3)], []))
set_option maxRecDepth 1000000 in
theorem vx_2487 : ai_valid ai_Tb cx_2487 := ai_chkH_ok (n := 45) (D := [cx_2314, cx_2485, cx_2486]) ai_TbK (ai_D1 vx_2314 (ai_D1 vx_2485 (ai_D1 vx_2486 ai_D0))) (by decide +kernel)
-- X0_simplestOf
def cx_2488 : ai_C := (7, [.r 97, .i (-2147483648) 2147483647, .i (-2147483648) 2147483647], [(51, [.r 97, .i (-2147483648) 2147483647, .i (-2147483648) 2147483647, .l (-9223372036854775808) 9223372036854775807, .u, .l (-9223372036854775808) 9223372036854775807, .u, .l (-9223372036854775808) 9223372036854775807, .u, .l (-9223372036854775808) 9223372036854775807, .u, .l (-9223372036854775808) 9223372036854775807, .u, .l (-9223372036854775808) 9223372036854775807, .u, .i 0 200, .u, .u, .u, .u, .u, .u, .u, .u], [], (.v 15 200, .n 8000000000, .n 8000000000))], some [.l (-9223372036854775808) 9223372036854775807], ([], []))
set_option maxRecDepth 1000000 in
theorem vx_2488 : ai_valid ai_Tb cx_2488 := ai_chkH_ok (n := 57) (D := [cx_2480]) ai_TbK (ai_D1 vx_2480 ai_D0) (by decide +kernel)
-- X10_simplest
def cx_2489 : ai_C := (139, [.r 0, .i (-2147483648) 2147483647, .i (-2147483648) 2147483647], [], some [.l (-9223372036854775808) 9223372036854775807], ([(99, 0), (99, 1), (99, 2), (99, 3)], [1098]))
set_option maxRecDepth 1000000 in
theorem vx_2489 : ai_valid ai_Tb cx_2489 := ai_chkH_ok (n := 18) (D := [cx_2488, cx_2479]) ai_TbK (ai_D1 vx_2488 (ai_D1 vx_2479 ai_D0)) (by decide +kernel)
-- X0_isAbove
def cx_2490 : ai_C := (6, [.r 97, .l (-9223372036854775808) 9223372036854775807], [(2, [.r 97, .l (-9223372036854775808) 9223372036854775807, .u, .i 0 8], [], (.v 3 8, .n 8000000000, .n 8000000000))], some [.i 0 1], ([], []))
set_option maxRecDepth 1000000 in
theorem vx_2490 : ai_valid ai_Tb cx_2490 := ai_chkH_ok (n := 14) (D := []) ai_TbK ai_D0 (by decide +kernel)
-- X0_leastWhole
def cx_2491 : ai_C := (9, [.r 97, .i (-2147483648) 2147483647, .i (-2147483648) 2147483647], [], some [.l (-9223372036854775808) 9223372036854775807], ([], []))
set_option maxRecDepth 1000000 in
theorem vx_2491 : ai_valid ai_Tb cx_2491 := ai_chkH_ok (n := 48) (D := [cx_2480]) ai_TbK (ai_D1 vx_2480 ai_D0) (by decide +kernel)
-- X0_sharedBy
def cx_2492 : ai_C := (8, [.r 97, .i (-2147483648) 2147483647], [(2, [.r 97, .i (-2147483648) 2147483647, .i 1 10000, .u, .u, .u, .u], [], (.v 2 10000, .n 8000000000, .n 8000000000))], some [.l (-9223372036854775808) 9223372036854775807], ([], []))
set_option maxRecDepth 1000000 in
theorem vx_2492 : ai_valid ai_Tb cx_2492 := ai_chkH_ok (n := 30) (D := [cx_2491]) ai_TbK (ai_D1 vx_2491 ai_D0) (by decide +kernel)
-- X10_shared
def cx_2493 : ai_C := (140, [.r 0, .i (-2147483648) 2147483647], [], some [.l (-9223372036854775808) 9223372036854775807], ([(99, 0), (99, 1), (99, 2), (99, 3)], [1098]))
set_option maxRecDepth 1000000 in
theorem vx_2493 : ai_valid ai_Tb cx_2493 := ai_chkH_ok (n := 19) (D := [cx_2490, cx_2492, cx_2479]) ai_TbK (ai_D1 vx_2490 (ai_D1 vx_2492 (ai_D1 vx_2479 ai_D0))) (by decide +kernel)
-- X10_period
def cx_2494 : ai_C := (141, [.r 0, .i (-2147483648) 2147483647], [], some [.i (-1) 61], ([], []))
set_option maxRecDepth 1000000 in
theorem vx_2494 : ai_valid ai_Tb cx_2494 := ai_chkH_ok (n := 17) (D := [cx_2346]) ai_TbK (ai_D1 vx_2346 ai_D0) (by decide +kernel)
-- X1_layRound
def cx_2495 : ai_C := (33, [.r 6, .r 95], [(11, [.r 6, .r 95, .i 0 61], [], (.v 2 61, .n 8000000000, .n 8000000000))], none, ([], [1096]))
set_option maxRecDepth 1000000 in
theorem vx_2495 : ai_valid ai_Tb cx_2495 := ai_chkH_ok (n := 34) (D := [cx_2468, cx_2368, cx_2370]) ai_TbK (ai_D1 vx_2468 (ai_D1 vx_2368 (ai_D1 vx_2370 ai_D0))) (by decide +kernel)
-- X10_round
def cx_2496 : ai_C := (142, [.r 0, .i (-2147483648) 2147483647, .i (-2147483648) 2147483647], [], some [.l (-9223372036854775808) 9223372036854775807], ([], [1096]))
set_option maxRecDepth 1000000 in
theorem vx_2496 : ai_valid ai_Tb cx_2496 := ai_chkH_ok (n := 40) (D := [cx_2346, cx_2495, cx_2376]) ai_TbK (ai_D1 vx_2346 (ai_D1 vx_2495 (ai_D1 vx_2376 ai_D0))) (by decide +kernel)
-- X1_lay
def cx_2497 : ai_C := (16, [.r 6, .i (-2147483648) 2147483647, .i (-2147483648) 2147483647, .r 15], [], none, ([(1015, 0), (1015, 1), (1015, 2), (1015, 3)], []))
set_option maxRecDepth 1000000 in
theorem vx_2497 : ai_valid ai_Tb cx_2497 := ai_chkH_ok (n := 52) (D := []) ai_TbK ai_D0 (by decide +kernel)
-- X1_lay
def cx_2498 : ai_C := (16, [.r 6, .i (-2147483648) 2147483647, .i (-2147483648) 2147483647, .r 16], [], none, ([(1016, 0), (1016, 1), (1016, 2), (1016, 3)], []))
set_option maxRecDepth 1000000 in
theorem vx_2498 : ai_valid ai_Tb cx_2498 := ai_chkH_ok (n := 52) (D := []) ai_TbK ai_D0 (by decide +kernel)
-- J9_floorDiv_f86c9
def cx_2499 : ai_C := (290, [.l (-9223372036854775808) 9223372036854775807, .l 2147483648 2147483648], [], some [.l (-9223372036854775808) 9223372036854775807], ([], []))
set_option maxRecDepth 1000000 in
theorem vx_2499 : ai_valid ai_Tb cx_2499 := ai_chkH_ok (n := 21) (D := []) ai_TbK ai_D0 (by decide +kernel)
-- J9_floorMod_f86c9
def cx_2500 : ai_C := (292, [.l (-9223372036854775808) 9223372036854775807, .l 2147483648 2147483648], [], some [.l (-9223372036854775808) 9223372036854775807], ([], []))
set_option maxRecDepth 1000000 in
theorem vx_2500 : ai_valid ai_Tb cx_2500 := ai_chkH_ok (n := 19) (D := []) ai_TbK ai_D0 (by decide +kernel)
-- X1_together
def cx_2501 : ai_C := (35, [.r 95, .l (-9223372036854775808) 9223372036854775807, .l (-9223372036854775808) 9223372036854775807, .l (-9223372036854775808) 9223372036854775807], [], some [.l (-9223372036854775808) 9223372036854775807], ([], []))
set_option maxRecDepth 1000000 in
theorem vx_2501 : ai_valid ai_Tb cx_2501 := ai_chkH_ok (n := 75) (D := [cx_2376, cx_2499, cx_2500]) ai_TbK (ai_D1 vx_2376 (ai_D1 vx_2499 (ai_D1 vx_2500 ai_D0))) (by decide +kernel)
-- X1_layUnit
def cx_2502 : ai_C := (34, [.r 6, .r 95, .r 100], [], some [.i 0 1], ([(1015, 0), (1015, 1), (1015, 2), (1015, 3), (1016, 0), (1016, 1), (1016, 2), (1016, 3), (1100, 0), (1100, 1), (1100, 2), (1100, 3)], []))
set_option maxRecDepth 1000000 in
theorem vx_2502 : ai_valid ai_Tb cx_2502 := ai_chkH_ok (n := 102) (D := [cx_2497, cx_2498, cx_2501, cx_2039, cx_2041]) ai_TbK (ai_D1 vx_2497 (ai_D1 vx_2498 (ai_D1 vx_2501 (ai_D1 vx_2039 (ai_D1 vx_2041 ai_D0))))) (by decide +kernel)
-- X10_unit
def cx_2503 : ai_C := (143, [.r 0, .i (-2147483648) 2147483647], [], some [.i (-2147483648) 2147483647], ([(1015, 0), (1015, 1), (1015, 2), (1015, 3), (1016, 0), (1016, 1), (1016, 2), (1016, 3), (1100, 0), (1100, 1), (1100, 2), (1100, 3)], [1096]))
set_option maxRecDepth 1000000 in
theorem vx_2503 : ai_valid ai_Tb cx_2503 := ai_chkH_ok (n := 43) (D := [cx_2346, cx_2495, cx_2502, cx_2372]) ai_TbK (ai_D1 vx_2346 (ai_D1 vx_2495 (ai_D1 vx_2502 (ai_D1 vx_2372 ai_D0)))) (by decide +kernel)
-- X10_equation
def cx_2504 : ai_C := (144, [.r 0, .i (-2147483648) 2147483647], [], some [.l (-9223372036854775808) 9223372036854775807], ([], [1096]))
set_option maxRecDepth 1000000 in
theorem vx_2504 : ai_valid ai_Tb cx_2504 := ai_chkH_ok (n := 29) (D := [cx_2346, cx_2495, cx_2372, cx_2373, cx_2375]) ai_TbK (ai_D1 vx_2346 (ai_D1 vx_2495 (ai_D1 vx_2372 (ai_D1 vx_2373 (ai_D1 vx_2375 ai_D0))))) (by decide +kernel)
-- X1_relates
def cx_2505 : ai_C := (37, [.r 6, .i (-2147483648) 2147483647, .i (-2147483648) 2147483647, .i (-2147483648) 2147483647], [(20, [.r 6, .i (-2147483648) 2147483647, .i (-2147483648) 2147483647, .i (-2147483648) 2147483647, .i (-2147483648) 2147483647, .i (-2147483648) 2147483647, .i (-1) 2, .u], [], (.w 6 (-1), .n 8000000000, .n 8000000000))], some [.i 0 1], ([], []))
set_option maxRecDepth 1000000 in
theorem vx_2505 : ai_valid ai_Tb cx_2505 := ai_chkH_ok (n := 38) (D := []) ai_TbK ai_D0 (by decide +kernel)
-- X10_isRelation
def cx_2506 : ai_C := (145, [.r 0, .i (-2147483648) 2147483647, .i (-2147483648) 2147483647, .i (-2147483648) 2147483647], [], some [.i 0 1], ([], []))
set_option maxRecDepth 1000000 in
theorem vx_2506 : ai_valid ai_Tb cx_2506 := ai_chkH_ok (n := 57) (D := [cx_2314, cx_2505]) ai_TbK (ai_D1 vx_2314 (ai_D1 vx_2505 ai_D0)) (by decide +kernel)
end
