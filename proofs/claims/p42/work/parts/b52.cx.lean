-- contexts of the class, checked by the kernel
-- X2_add
def cx_158 : ai_C := (50, [.r 1, .r 104, .r 103, .i (-2147483648) 2147483647, .r 100], [], none, ([(1100, 0), (1100, 1), (1100, 2), (1100, 3)], []))
set_option maxRecDepth 1000000 in
theorem vx_158 : ai_valid ai_Tb cx_158 := ai_chk_ok (n := 45) (D := [cx_36]) ai_TbK (ai_D1 vx_36 ai_D0) (by decide +kernel)
-- X2_multiply
def cx_159 : ai_C := (51, [.r 1, .r 104, .r 103, .r 100], [], none, ([(1100, 0), (1100, 1), (1100, 2), (1100, 3)], [1003]))
set_option maxRecDepth 1000000 in
theorem vx_159 : ai_valid ai_Tb cx_159 := ai_chk_ok (n := 32) (D := [cx_41, cx_60, cx_36]) ai_TbK (ai_D1 vx_41 (ai_D1 vx_60 (ai_D1 vx_36 ai_D0))) (by decide +kernel)
-- X2_divide
def cx_160 : ai_C := (52, [.r 1, .r 104, .r 103, .r 100], [], none, ([(1100, 0), (1100, 1), (1100, 2), (1100, 3)], [1003]))
set_option maxRecDepth 1000000 in
theorem vx_160 : ai_valid ai_Tb cx_160 := ai_chk_ok (n := 62) (D := [cx_41, cx_45, cx_46, cx_60, cx_36]) ai_TbK (ai_D1 vx_41 (ai_D1 vx_45 (ai_D1 vx_46 (ai_D1 vx_60 (ai_D1 vx_36 ai_D0))))) (by decide +kernel)
-- X10_join
def cx_161 : ai_C := (158, [.r 0, .i (-2147483648) 2147483647, .r 104, .r 103], [], none, ([(1100, 0), (1100, 1), (1100, 2), (1100, 3)], [1003]))
set_option maxRecDepth 1000000 in
theorem vx_161 : ai_valid ai_Tb cx_161 := ai_chk_ok (n := 21) (D := [cx_158, cx_159, cx_160]) ai_TbK (ai_D1 vx_158 (ai_D1 vx_159 (ai_D1 vx_160 ai_D0))) (by decide +kernel)
-- X2_add
def cx_162 : ai_C := (50, [.r 1, .r 103, .r 103, .i (-2147483648) 2147483647, .r 100], [], none, ([(1100, 0), (1100, 1), (1100, 2), (1100, 3)], []))
set_option maxRecDepth 1000000 in
theorem vx_162 : ai_valid ai_Tb cx_162 := ai_chk_ok (n := 45) (D := [cx_36]) ai_TbK (ai_D1 vx_36 ai_D0) (by decide +kernel)
-- X2_multiply
def cx_163 : ai_C := (51, [.r 1, .r 103, .r 103, .r 100], [], none, ([(1100, 0), (1100, 1), (1100, 2), (1100, 3)], [1003]))
set_option maxRecDepth 1000000 in
theorem vx_163 : ai_valid ai_Tb cx_163 := ai_chk_ok (n := 32) (D := [cx_41, cx_65, cx_36]) ai_TbK (ai_D1 vx_41 (ai_D1 vx_65 (ai_D1 vx_36 ai_D0))) (by decide +kernel)
-- X2_divide
def cx_164 : ai_C := (52, [.r 1, .r 103, .r 103, .r 100], [], none, ([(1100, 0), (1100, 1), (1100, 2), (1100, 3)], [1003]))
set_option maxRecDepth 1000000 in
theorem vx_164 : ai_valid ai_Tb cx_164 := ai_chk_ok (n := 62) (D := [cx_41, cx_45, cx_46, cx_65, cx_36]) ai_TbK (ai_D1 vx_41 (ai_D1 vx_45 (ai_D1 vx_46 (ai_D1 vx_65 (ai_D1 vx_36 ai_D0))))) (by decide +kernel)
-- X10_join
def cx_165 : ai_C := (158, [.r 0, .i (-2147483648) 2147483647, .r 103, .r 103], [], none, ([(1100, 0), (1100, 1), (1100, 2), (1100, 3)], [1003]))
set_option maxRecDepth 1000000 in
theorem vx_165 : ai_valid ai_Tb cx_165 := ai_chk_ok (n := 21) (D := [cx_162, cx_163, cx_164]) ai_TbK (ai_D1 vx_162 (ai_D1 vx_163 (ai_D1 vx_164 ai_D0))) (by decide +kernel)
-- X2_add
def cx_166 : ai_C := (50, [.r 1, .r 102, .r 103, .i (-2147483648) 2147483647, .r 100], [], none, ([(1100, 0), (1100, 1), (1100, 2), (1100, 3)], []))
set_option maxRecDepth 1000000 in
theorem vx_166 : ai_valid ai_Tb cx_166 := ai_chk_ok (n := 45) (D := [cx_36]) ai_TbK (ai_D1 vx_36 ai_D0) (by decide +kernel)
-- X2_multiply
def cx_167 : ai_C := (51, [.r 1, .r 102, .r 103, .r 100], [], none, ([(1100, 0), (1100, 1), (1100, 2), (1100, 3)], [1003]))
set_option maxRecDepth 1000000 in
theorem vx_167 : ai_valid ai_Tb cx_167 := ai_chk_ok (n := 32) (D := [cx_41, cx_70, cx_36]) ai_TbK (ai_D1 vx_41 (ai_D1 vx_70 (ai_D1 vx_36 ai_D0))) (by decide +kernel)
-- X2_divide
def cx_168 : ai_C := (52, [.r 1, .r 102, .r 103, .r 100], [], none, ([(1100, 0), (1100, 1), (1100, 2), (1100, 3)], [1003]))
set_option maxRecDepth 1000000 in
theorem vx_168 : ai_valid ai_Tb cx_168 := ai_chk_ok (n := 62) (D := [cx_41, cx_45, cx_46, cx_70, cx_36]) ai_TbK (ai_D1 vx_41 (ai_D1 vx_45 (ai_D1 vx_46 (ai_D1 vx_70 (ai_D1 vx_36 ai_D0))))) (by decide +kernel)
-- X10_join
def cx_169 : ai_C := (158, [.r 0, .i (-2147483648) 2147483647, .r 102, .r 103], [], none, ([(1100, 0), (1100, 1), (1100, 2), (1100, 3)], [1003]))
set_option maxRecDepth 1000000 in
theorem vx_169 : ai_valid ai_Tb cx_169 := ai_chk_ok (n := 21) (D := [cx_166, cx_167, cx_168]) ai_TbK (ai_D1 vx_166 (ai_D1 vx_167 (ai_D1 vx_168 ai_D0))) (by decide +kernel)
-- X2_add
def cx_170 : ai_C := (50, [.r 1, .r 107, .r 102, .i (-2147483648) 2147483647, .r 100], [], none, ([(1100, 0), (1100, 1), (1100, 2), (1100, 3)], []))
set_option maxRecDepth 1000000 in
theorem vx_170 : ai_valid ai_Tb cx_170 := ai_chk_ok (n := 45) (D := [cx_36]) ai_TbK (ai_D1 vx_36 ai_D0) (by decide +kernel)
-- X2_multiply
def cx_171 : ai_C := (51, [.r 1, .r 107, .r 102, .r 100], [], none, ([(1100, 0), (1100, 1), (1100, 2), (1100, 3)], [1003]))
set_option maxRecDepth 1000000 in
theorem vx_171 : ai_valid ai_Tb cx_171 := ai_chk_ok (n := 32) (D := [cx_41, cx_43, cx_36]) ai_TbK (ai_D1 vx_41 (ai_D1 vx_43 (ai_D1 vx_36 ai_D0))) (by decide +kernel)
-- X2_divide
def cx_172 : ai_C := (52, [.r 1, .r 107, .r 102, .r 100], [], none, ([(1100, 0), (1100, 1), (1100, 2), (1100, 3)], [1003]))
set_option maxRecDepth 1000000 in
theorem vx_172 : ai_valid ai_Tb cx_172 := ai_chk_ok (n := 62) (D := [cx_41, cx_45, cx_46, cx_43, cx_36]) ai_TbK (ai_D1 vx_41 (ai_D1 vx_45 (ai_D1 vx_46 (ai_D1 vx_43 (ai_D1 vx_36 ai_D0))))) (by decide +kernel)
-- X10_join
def cx_173 : ai_C := (158, [.r 0, .i (-2147483648) 2147483647, .r 107, .r 102], [], none, ([(1100, 0), (1100, 1), (1100, 2), (1100, 3)], [1003]))
set_option maxRecDepth 1000000 in
theorem vx_173 : ai_valid ai_Tb cx_173 := ai_chk_ok (n := 21) (D := [cx_170, cx_171, cx_172]) ai_TbK (ai_D1 vx_170 (ai_D1 vx_171 (ai_D1 vx_172 ai_D0))) (by decide +kernel)
-- X2_add
def cx_174 : ai_C := (50, [.r 1, .r 106, .r 102, .i (-2147483648) 2147483647, .r 100], [], none, ([(1100, 0), (1100, 1), (1100, 2), (1100, 3)], []))
set_option maxRecDepth 1000000 in
theorem vx_174 : ai_valid ai_Tb cx_174 := ai_chk_ok (n := 45) (D := [cx_36]) ai_TbK (ai_D1 vx_36 ai_D0) (by decide +kernel)
-- X2_multiply
def cx_175 : ai_C := (51, [.r 1, .r 106, .r 102, .r 100], [], none, ([(1100, 0), (1100, 1), (1100, 2), (1100, 3)], [1003]))
set_option maxRecDepth 1000000 in
theorem vx_175 : ai_valid ai_Tb cx_175 := ai_chk_ok (n := 32) (D := [cx_41, cx_50, cx_36]) ai_TbK (ai_D1 vx_41 (ai_D1 vx_50 (ai_D1 vx_36 ai_D0))) (by decide +kernel)
-- X2_divide
def cx_176 : ai_C := (52, [.r 1, .r 106, .r 102, .r 100], [], none, ([(1100, 0), (1100, 1), (1100, 2), (1100, 3)], [1003]))
set_option maxRecDepth 1000000 in
theorem vx_176 : ai_valid ai_Tb cx_176 := ai_chk_ok (n := 62) (D := [cx_41, cx_45, cx_46, cx_50, cx_36]) ai_TbK (ai_D1 vx_41 (ai_D1 vx_45 (ai_D1 vx_46 (ai_D1 vx_50 (ai_D1 vx_36 ai_D0))))) (by decide +kernel)
-- X10_join
def cx_177 : ai_C := (158, [.r 0, .i (-2147483648) 2147483647, .r 106, .r 102], [], none, ([(1100, 0), (1100, 1), (1100, 2), (1100, 3)], [1003]))
set_option maxRecDepth 1000000 in
theorem vx_177 : ai_valid ai_Tb cx_177 := ai_chk_ok (n := 21) (D := [cx_174, cx_175, cx_176]) ai_TbK (ai_D1 vx_174 (ai_D1 vx_175 (ai_D1 vx_176 ai_D0))) (by decide +kernel)
-- X2_add
def cx_178 : ai_C := (50, [.r 1, .r 105, .r 102, .i (-2147483648) 2147483647, .r 100], [], none, ([(1100, 0), (1100, 1), (1100, 2), (1100, 3)], []))
set_option maxRecDepth 1000000 in
theorem vx_178 : ai_valid ai_Tb cx_178 := ai_chk_ok (n := 45) (D := [cx_36]) ai_TbK (ai_D1 vx_36 ai_D0) (by decide +kernel)
-- X2_multiply
def cx_179 : ai_C := (51, [.r 1, .r 105, .r 102, .r 100], [], none, ([(1100, 0), (1100, 1), (1100, 2), (1100, 3)], [1003]))
set_option maxRecDepth 1000000 in
theorem vx_179 : ai_valid ai_Tb cx_179 := ai_chk_ok (n := 32) (D := [cx_41, cx_55, cx_36]) ai_TbK (ai_D1 vx_41 (ai_D1 vx_55 (ai_D1 vx_36 ai_D0))) (by decide +kernel)
-- X2_divide
def cx_180 : ai_C := (52, [.r 1, .r 105, .r 102, .r 100], [], none, ([(1100, 0), (1100, 1), (1100, 2), (1100, 3)], [1003]))
set_option maxRecDepth 1000000 in
theorem vx_180 : ai_valid ai_Tb cx_180 := ai_chk_ok (n := 62) (D := [cx_41, cx_45, cx_46, cx_55, cx_36]) ai_TbK (ai_D1 vx_41 (ai_D1 vx_45 (ai_D1 vx_46 (ai_D1 vx_55 (ai_D1 vx_36 ai_D0))))) (by decide +kernel)
-- X10_join
def cx_181 : ai_C := (158, [.r 0, .i (-2147483648) 2147483647, .r 105, .r 102], [], none, ([(1100, 0), (1100, 1), (1100, 2), (1100, 3)], [1003]))
set_option maxRecDepth 1000000 in
theorem vx_181 : ai_valid ai_Tb cx_181 := ai_chk_ok (n := 21) (D := [cx_178, cx_179, cx_180]) ai_TbK (ai_D1 vx_178 (ai_D1 vx_179 (ai_D1 vx_180 ai_D0))) (by decide +kernel)
-- X2_add
def cx_182 : ai_C := (50, [.r 1, .r 104, .r 102, .i (-2147483648) 2147483647, .r 100], [], none, ([(1100, 0), (1100, 1), (1100, 2), (1100, 3)], []))
set_option maxRecDepth 1000000 in
theorem vx_182 : ai_valid ai_Tb cx_182 := ai_chk_ok (n := 45) (D := [cx_36]) ai_TbK (ai_D1 vx_36 ai_D0) (by decide +kernel)
-- X2_multiply
def cx_183 : ai_C := (51, [.r 1, .r 104, .r 102, .r 100], [], none, ([(1100, 0), (1100, 1), (1100, 2), (1100, 3)], [1003]))
set_option maxRecDepth 1000000 in
theorem vx_183 : ai_valid ai_Tb cx_183 := ai_chk_ok (n := 32) (D := [cx_41, cx_60, cx_36]) ai_TbK (ai_D1 vx_41 (ai_D1 vx_60 (ai_D1 vx_36 ai_D0))) (by decide +kernel)
-- X2_divide
def cx_184 : ai_C := (52, [.r 1, .r 104, .r 102, .r 100], [], none, ([(1100, 0), (1100, 1), (1100, 2), (1100, 3)], [1003]))
set_option maxRecDepth 1000000 in
theorem vx_184 : ai_valid ai_Tb cx_184 := ai_chk_ok (n := 62) (D := [cx_41, cx_45, cx_46, cx_60, cx_36]) ai_TbK (ai_D1 vx_41 (ai_D1 vx_45 (ai_D1 vx_46 (ai_D1 vx_60 (ai_D1 vx_36 ai_D0))))) (by decide +kernel)
-- X10_join
def cx_185 : ai_C := (158, [.r 0, .i (-2147483648) 2147483647, .r 104, .r 102], [], none, ([(1100, 0), (1100, 1), (1100, 2), (1100, 3)], [1003]))
set_option maxRecDepth 1000000 in
theorem vx_185 : ai_valid ai_Tb cx_185 := ai_chk_ok (n := 21) (D := [cx_182, cx_183, cx_184]) ai_TbK (ai_D1 vx_182 (ai_D1 vx_183 (ai_D1 vx_184 ai_D0))) (by decide +kernel)
-- X2_add
def cx_186 : ai_C := (50, [.r 1, .r 103, .r 102, .i (-2147483648) 2147483647, .r 100], [], none, ([(1100, 0), (1100, 1), (1100, 2), (1100, 3)], []))
set_option maxRecDepth 1000000 in
theorem vx_186 : ai_valid ai_Tb cx_186 := ai_chk_ok (n := 45) (D := [cx_36]) ai_TbK (ai_D1 vx_36 ai_D0) (by decide +kernel)
-- X2_multiply
def cx_187 : ai_C := (51, [.r 1, .r 103, .r 102, .r 100], [], none, ([(1100, 0), (1100, 1), (1100, 2), (1100, 3)], [1003]))
set_option maxRecDepth 1000000 in
theorem vx_187 : ai_valid ai_Tb cx_187 := ai_chk_ok (n := 32) (D := [cx_41, cx_65, cx_36]) ai_TbK (ai_D1 vx_41 (ai_D1 vx_65 (ai_D1 vx_36 ai_D0))) (by decide +kernel)
-- X2_divide
def cx_188 : ai_C := (52, [.r 1, .r 103, .r 102, .r 100], [], none, ([(1100, 0), (1100, 1), (1100, 2), (1100, 3)], [1003]))
set_option maxRecDepth 1000000 in
theorem vx_188 : ai_valid ai_Tb cx_188 := ai_chk_ok (n := 62) (D := [cx_41, cx_45, cx_46, cx_65, cx_36]) ai_TbK (ai_D1 vx_41 (ai_D1 vx_45 (ai_D1 vx_46 (ai_D1 vx_65 (ai_D1 vx_36 ai_D0))))) (by decide +kernel)
-- X10_join
def cx_189 : ai_C := (158, [.r 0, .i (-2147483648) 2147483647, .r 103, .r 102], [], none, ([(1100, 0), (1100, 1), (1100, 2), (1100, 3)], [1003]))
set_option maxRecDepth 1000000 in
theorem vx_189 : ai_valid ai_Tb cx_189 := ai_chk_ok (n := 21) (D := [cx_186, cx_187, cx_188]) ai_TbK (ai_D1 vx_186 (ai_D1 vx_187 (ai_D1 vx_188 ai_D0))) (by decide +kernel)
-- X2_add
def cx_190 : ai_C := (50, [.r 1, .r 102, .r 102, .i (-2147483648) 2147483647, .r 100], [], none, ([(1100, 0), (1100, 1), (1100, 2), (1100, 3)], []))
set_option maxRecDepth 1000000 in
theorem vx_190 : ai_valid ai_Tb cx_190 := ai_chk_ok (n := 45) (D := [cx_36]) ai_TbK (ai_D1 vx_36 ai_D0) (by decide +kernel)
-- X2_multiply
def cx_191 : ai_C := (51, [.r 1, .r 102, .r 102, .r 100], [], none, ([(1100, 0), (1100, 1), (1100, 2), (1100, 3)], [1003]))
set_option maxRecDepth 1000000 in
theorem vx_191 : ai_valid ai_Tb cx_191 := ai_chk_ok (n := 32) (D := [cx_41, cx_70, cx_36]) ai_TbK (ai_D1 vx_41 (ai_D1 vx_70 (ai_D1 vx_36 ai_D0))) (by decide +kernel)
-- X2_divide
def cx_192 : ai_C := (52, [.r 1, .r 102, .r 102, .r 100], [], none, ([(1100, 0), (1100, 1), (1100, 2), (1100, 3)], [1003]))
set_option maxRecDepth 1000000 in
theorem vx_192 : ai_valid ai_Tb cx_192 := ai_chk_ok (n := 62) (D := [cx_41, cx_45, cx_46, cx_70, cx_36]) ai_TbK (ai_D1 vx_41 (ai_D1 vx_45 (ai_D1 vx_46 (ai_D1 vx_70 (ai_D1 vx_36 ai_D0))))) (by decide +kernel)
-- X10_join
def cx_193 : ai_C := (158, [.r 0, .i (-2147483648) 2147483647, .r 102, .r 102], [], none, ([(1100, 0), (1100, 1), (1100, 2), (1100, 3)], [1003]))
set_option maxRecDepth 1000000 in
theorem vx_193 : ai_valid ai_Tb cx_193 := ai_chk_ok (n := 21) (D := [cx_190, cx_191, cx_192]) ai_TbK (ai_D1 vx_190 (ai_D1 vx_191 (ai_D1 vx_192 ai_D0))) (by decide +kernel)
-- X10_combine
def cx_194 : ai_C := (114, [.r 0, .i (-2147483648) 2147483647, .i (-2147483648) 2147483647, .i (-2147483648) 2147483647, .i (-2147483648) 2147483647], [(94, [.r 0, .i 0 3, .i 0 5, .i 0 5, .i 0 5], [], (.n 4, .n 0, .n 8000000000)), (104, [.r 0, .i 0 3, .i 0 5, .i 0 5, .i 0 5], [], (.n 3, .n 0, .n 8000000000)), (114, [.r 0, .i 0 3, .i 0 5, .i 0 5, .i 0 5], [], (.n 2, .n 0, .n 8000000000)), (119, [.r 0, .i 0 3, .i 0 5, .i 0 5, .i 0 5], [], (.n 1, .n 0, .n 8000000000))], some [.i (-2147483648) 2147483647], ([(23, 4), (23, 5), (28, 0), (28, 1), (28, 2), (28, 6), (28, 7), (29, 0), (29, 1), (29, 2), (29, 3), (29, 4), (29, 5), (29, 6), (29, 7), (29, 8), (29, 9), (29, 10), (29, 11), (29, 12), (29, 13), (29, 14), (29, 15), (29, 16), (29, 17), (29, 18), (29, 19), (29, 20), (29, 21), (29, 22), (29, 23), (30, 1), (33, 0), (33, 1), (33, 2), (33, 6), (33, 7), (34, 0), (34, 1), (34, 2), (34, 3), (34, 4), (34, 5), (34, 6), (34, 7), (34, 8), (34, 9), (34, 10), (34, 11), (34, 12), (34, 13), (34, 14), (34, 15), (34, 16), (34, 17), (34, 18), (34, 19), (34, 20), (34, 21), (34, 22), (34, 23), (35, 1), (38, 0), (38, 1), (38, 2), (38, 6), (38, 7), (39, 0), (39, 1), (39, 2), (39, 3), (39, 4), (39, 5), (39, 6), (39, 7), (39, 8), (39, 9), (39, 10), (39, 11), (39, 12), (39, 13), (39, 14), (39, 15), (39, 16), (39, 17), (39, 18), (39, 19), (39, 20), (39, 21), (39, 22), (39, 23), (40, 1), (43, 0), (43, 1), (43, 2), (43, 6), (43, 7), (44, 0), (44, 1), (44, 2), (44, 3), (44, 4), (44, 5), (44, 6), (44, 7), (44, 8), (44, 9), (44, 10), (44, 11), (44, 12), (44, 13), (44, 14), (44, 15), (44, 16), (44, 17), (44, 18), (44, 19), (44, 20), (44, 21), (44, 22), (44, 23), (45, 1), (48, 0), (48, 1), (48, 2), (48, 6), (48, 7), (49, 0), (49, 1), (49, 2), (49, 3), (49, 4), (49, 5), (49, 6), (49, 7), (49, 8), (49, 9), (49, 10), (49, 11), (49, 12), (49, 13), (49, 14), (49, 15), (49, 16), (49, 17), (49, 18), (49, 19), (49, 20), (49, 21), (49, 22), (49, 23), (50, 1), (53, 0), (53, 1), (53, 2), (53, 6), (53, 7), (54, 0), (54, 1), (54, 2), (54, 3), (54, 4), (54, 5), (54, 6), (54, 7), (54, 8), (54, 9), (54, 10), (54, 11), (54, 12), (54, 13), (54, 14), (54, 15), (54, 16), (54, 17), (54, 18), (54, 19), (54, 20), (54, 21), (54, 22), (54, 23), (55, 1), (58, 0), (58, 1), (58, 2), (58, 6), (58, 7), (59, 0), (59, 1), (59, 2), (59, 3), (59, 4), (59, 5), (59, 6), (59, 7), (59, 8), (59, 9), (59, 10), (59, 11), (59, 12), (59, 13), (59, 14), (59, 15), (59, 16), (59, 17), (59, 18), (59, 19), (59, 20), (59, 21), (59, 22), (59, 23), (60, 1), (63, 0), (63, 1), (63, 2), (63, 6), (63, 7), (64, 0), (64, 1), (64, 2), (64, 3), (64, 4), (64, 5), (64, 6), (64, 7), (64, 8), (64, 9), (64, 10), (64, 11), (64, 12), (64, 13), (64, 14), (64, 15), (64, 16), (64, 17), (64, 18), (64, 19), (64, 20), (64, 21), (64, 22), (64, 23), (65, 1), (78, 1), (79, 0), (79, 1), (79, 3), (79, 4), (1100, 0), (1100, 1), (1100, 2), (1100, 3), (1102, 0), (1102, 1), (1102, 2), (1102, 3), (1103, 0), (1103, 1), (1103, 2), (1103, 3), (1104, 0), (1104, 1), (1104, 2), (1104, 3), (1105, 0), (1105, 1), (1105, 2), (1105, 3), (1106, 0), (1106, 1), (1106, 2), (1106, 3), (1107, 0), (1107, 1), (1107, 2), (1107, 3)], [25, 31, 32, 36, 37, 41, 42, 46, 47, 51, 52, 56, 57, 61, 62, 66, 67, 1003]))
set_option maxRecDepth 1000000 in
theorem vx_194 : ai_valid ai_Tb cx_194 := ai_chk_ok (n := 92) (D := [cx_24, cx_26, cx_28, cx_30, cx_32, cx_34, cx_37, cx_11, cx_48, cx_53, cx_58, cx_63, cx_68, cx_73, cx_77, cx_81, cx_85, cx_89, cx_93, cx_97, cx_101, cx_105, cx_109, cx_113, cx_117, cx_121, cx_125, cx_129, cx_133, cx_137, cx_141, cx_145, cx_149, cx_153, cx_157, cx_161, cx_165, cx_169, cx_173, cx_177, cx_181, cx_185, cx_189, cx_193]) ai_TbK (ai_D1 vx_24 (ai_D1 vx_26 (ai_D1 vx_28 (ai_D1 vx_30 (ai_D1 vx_32 (ai_D1 vx_34 (ai_D1 vx_37 (ai_D1 vx_11 (ai_D1 vx_48 (ai_D1 vx_53 (ai_D1 vx_58 (ai_D1 vx_63 (ai_D1 vx_68 (ai_D1 vx_73 (ai_D1 vx_77 (ai_D1 vx_81 (ai_D1 vx_85 (ai_D1 vx_89 (ai_D1 vx_93 (ai_D1 vx_97 (ai_D1 vx_101 (ai_D1 vx_105 (ai_D1 vx_109 (ai_D1 vx_113 (ai_D1 vx_117 (ai_D1 vx_121 (ai_D1 vx_125 (ai_D1 vx_129 (ai_D1 vx_133 (ai_D1 vx_137 (ai_D1 vx_141 (ai_D1 vx_145 (ai_D1 vx_149 (ai_D1 vx_153 (ai_D1 vx_157 (ai_D1 vx_161 (ai_D1 vx_165 (ai_D1 vx_169 (ai_D1 vx_173 (ai_D1 vx_177 (ai_D1 vx_181 (ai_D1 vx_185 (ai_D1 vx_189 (ai_D1 vx_193 ai_D0)))))))))))))))))))))))))))))))))))))))))))) (by decide +kernel)
-- X2_sign
def cx_195 : ai_C := (46, [.r 1, .r 107], [], some [.i (-1) 1], ([], []))
set_option maxRecDepth 1000000 in
theorem vx_195 : ai_valid ai_Tb cx_195 := ai_chk_ok (n := 10) (D := [cx_22]) ai_TbK (ai_D1 vx_22 ai_D0) (by decide +kernel)
-- X1_isFit
def cx_196 : ai_C := (19, [.r 1, .r 107], [], some [.i 0 1], ([], []))
set_option maxRecDepth 1000000 in
theorem vx_196 : ai_valid ai_Tb cx_196 := ai_chk_ok (n := 13) (D := [cx_195, cx_24]) ai_TbK (ai_D1 vx_195 (ai_D1 vx_24 ai_D0)) (by decide +kernel)
-- X1_canOpen
def cx_197 : ai_C := (18, [.r 1, .r 107, .r 107], [], some [.i 0 1], ([], []))
set_option maxRecDepth 1000000 in
theorem vx_197 : ai_valid ai_Tb cx_197 := ai_chk_ok (n := 12) (D := [cx_196]) ai_TbK (ai_D1 vx_196 ai_D0) (by decide +kernel)
-- X1_saveState
def cx_198 : ai_C := (28, [.r 6], [], none, ([], [7]))
set_option maxRecDepth 1000000 in
theorem vx_198 : ai_valid ai_Tb cx_198 := ai_chk_ok (n := 124) (D := []) ai_TbK ai_D0 (by decide +kernel)
-- X1_open
def cx_199 : ai_C := (20, [.r 6, .r 1, .r 107, .r 107, .i (-2147483648) 2147483647], [], none, ([(6, 3), (6, 4), (6, 5), (6, 6), (6, 12), (6, 13), (1015, 0), (1015, 1), (1015, 2), (1015, 3), (1016, 0), (1016, 1), (1016, 2), (1016, 3)], [7, 1010]))
set_option maxRecDepth 1000000 in
theorem vx_199 : ai_valid ai_Tb cx_199 := ai_chk_ok (n := 225) (D := [cx_198, cx_24]) ai_TbK (ai_D1 vx_198 (ai_D1 vx_24 ai_D0)) (by decide +kernel)
-- X2_sign
def cx_200 : ai_C := (46, [.r 1, .r 106], [], some [.i (-1) 1], ([], []))
set_option maxRecDepth 1000000 in
theorem vx_200 : ai_valid ai_Tb cx_200 := ai_chk_ok (n := 10) (D := [cx_22]) ai_TbK (ai_D1 vx_22 ai_D0) (by decide +kernel)
-- X1_isFit
def cx_201 : ai_C := (19, [.r 1, .r 106], [], some [.i 0 1], ([], []))
set_option maxRecDepth 1000000 in
theorem vx_201 : ai_valid ai_Tb cx_201 := ai_chk_ok (n := 13) (D := [cx_200, cx_26]) ai_TbK (ai_D1 vx_200 (ai_D1 vx_26 ai_D0)) (by decide +kernel)
-- X1_canOpen
def cx_202 : ai_C := (18, [.r 1, .r 107, .r 106], [], some [.i 0 1], ([], []))
set_option maxRecDepth 1000000 in
theorem vx_202 : ai_valid ai_Tb cx_202 := ai_chk_ok (n := 12) (D := [cx_196, cx_201]) ai_TbK (ai_D1 vx_196 (ai_D1 vx_201 ai_D0)) (by decide +kernel)
-- X1_open
def cx_203 : ai_C := (20, [.r 6, .r 1, .r 107, .r 106, .i (-2147483648) 2147483647], [], none, ([(6, 3), (6, 4), (6, 5), (6, 6), (6, 12), (6, 13), (1015, 0), (1015, 1), (1015, 2), (1015, 3), (1016, 0), (1016, 1), (1016, 2), (1016, 3)], [7, 1010]))
set_option maxRecDepth 1000000 in
theorem vx_203 : ai_valid ai_Tb cx_203 := ai_chk_ok (n := 225) (D := [cx_198, cx_24, cx_26]) ai_TbK (ai_D1 vx_198 (ai_D1 vx_24 (ai_D1 vx_26 ai_D0))) (by decide +kernel)
-- X2_sign
def cx_204 : ai_C := (46, [.r 1, .r 105], [], some [.i (-1) 1], ([], []))
set_option maxRecDepth 1000000 in
theorem vx_204 : ai_valid ai_Tb cx_204 := ai_chk_ok (n := 10) (D := [cx_22]) ai_TbK (ai_D1 vx_22 ai_D0) (by decide +kernel)
-- X1_isFit
def cx_205 : ai_C := (19, [.r 1, .r 105], [], some [.i 0 1], ([], []))
set_option maxRecDepth 1000000 in
theorem vx_205 : ai_valid ai_Tb cx_205 := ai_chk_ok (n := 13) (D := [cx_204, cx_28]) ai_TbK (ai_D1 vx_204 (ai_D1 vx_28 ai_D0)) (by decide +kernel)
-- X1_canOpen
def cx_206 : ai_C := (18, [.r 1, .r 107, .r 105], [], some [.i 0 1], ([], []))
set_option maxRecDepth 1000000 in
theorem vx_206 : ai_valid ai_Tb cx_206 := ai_chk_ok (n := 12) (D := [cx_196, cx_205]) ai_TbK (ai_D1 vx_196 (ai_D1 vx_205 ai_D0)) (by decide +kernel)
-- X1_open
def cx_207 : ai_C := (20, [.r 6, .r 1, .r 107, .r 105, .i (-2147483648) 2147483647], [], none, ([(6, 3), (6, 4), (6, 5), (6, 6), (6, 12), (6, 13), (1015, 0), (1015, 1), (1015, 2), (1015, 3), (1016, 0), (1016, 1), (1016, 2), (1016, 3)], [7, 1010]))
set_option maxRecDepth 1000000 in
theorem vx_207 : ai_valid ai_Tb cx_207 := ai_chk_ok (n := 225) (D := [cx_198, cx_24, cx_28]) ai_TbK (ai_D1 vx_198 (ai_D1 vx_24 (ai_D1 vx_28 ai_D0))) (by decide +kernel)
-- X2_sign
def cx_208 : ai_C := (46, [.r 1, .r 104], [], some [.i (-1) 1], ([], []))
set_option maxRecDepth 1000000 in
theorem vx_208 : ai_valid ai_Tb cx_208 := ai_chk_ok (n := 10) (D := [cx_22]) ai_TbK (ai_D1 vx_22 ai_D0) (by decide +kernel)
-- X1_isFit
def cx_209 : ai_C := (19, [.r 1, .r 104], [], some [.i 0 1], ([], []))
set_option maxRecDepth 1000000 in
theorem vx_209 : ai_valid ai_Tb cx_209 := ai_chk_ok (n := 13) (D := [cx_208, cx_30]) ai_TbK (ai_D1 vx_208 (ai_D1 vx_30 ai_D0)) (by decide +kernel)
-- X1_canOpen
def cx_210 : ai_C := (18, [.r 1, .r 107, .r 104], [], some [.i 0 1], ([], []))
set_option maxRecDepth 1000000 in
theorem vx_210 : ai_valid ai_Tb cx_210 := ai_chk_ok (n := 12) (D := [cx_196, cx_209]) ai_TbK (ai_D1 vx_196 (ai_D1 vx_209 ai_D0)) (by decide +kernel)
-- X1_open
def cx_211 : ai_C := (20, [.r 6, .r 1, .r 107, .r 104, .i (-2147483648) 2147483647], [], none, ([(6, 3), (6, 4), (6, 5), (6, 6), (6, 12), (6, 13), (1015, 0), (1015, 1), (1015, 2), (1015, 3), (1016, 0), (1016, 1), (1016, 2), (1016, 3)], [7, 1010]))
set_option maxRecDepth 1000000 in
theorem vx_211 : ai_valid ai_Tb cx_211 := ai_chk_ok (n := 225) (D := [cx_198, cx_24, cx_30]) ai_TbK (ai_D1 vx_198 (ai_D1 vx_24 (ai_D1 vx_30 ai_D0))) (by decide +kernel)
-- X2_sign
def cx_212 : ai_C := (46, [.r 1, .r 103], [], some [.i (-1) 1], ([], []))
set_option maxRecDepth 1000000 in
theorem vx_212 : ai_valid ai_Tb cx_212 := ai_chk_ok (n := 10) (D := [cx_22]) ai_TbK (ai_D1 vx_22 ai_D0) (by decide +kernel)
-- X1_isFit
def cx_213 : ai_C := (19, [.r 1, .r 103], [], some [.i 0 1], ([], []))
set_option maxRecDepth 1000000 in
theorem vx_213 : ai_valid ai_Tb cx_213 := ai_chk_ok (n := 13) (D := [cx_212, cx_32]) ai_TbK (ai_D1 vx_212 (ai_D1 vx_32 ai_D0)) (by decide +kernel)
-- X1_canOpen
def cx_214 : ai_C := (18, [.r 1, .r 107, .r 103], [], some [.i 0 1], ([], []))
set_option maxRecDepth 1000000 in
theorem vx_214 : ai_valid ai_Tb cx_214 := ai_chk_ok (n := 12) (D := [cx_196, cx_213]) ai_TbK (ai_D1 vx_196 (ai_D1 vx_213 ai_D0)) (by decide +kernel)
-- X1_open
def cx_215 : ai_C := (20, [.r 6, .r 1, .r 107, .r 103, .i (-2147483648) 2147483647], [], none, ([(6, 3), (6, 4), (6, 5), (6, 6), (6, 12), (6, 13), (1015, 0), (1015, 1), (1015, 2), (1015, 3), (1016, 0), (1016, 1), (1016, 2), (1016, 3)], [7, 1010]))
set_option maxRecDepth 1000000 in
theorem vx_215 : ai_valid ai_Tb cx_215 := ai_chk_ok (n := 225) (D := [cx_198, cx_24, cx_32]) ai_TbK (ai_D1 vx_198 (ai_D1 vx_24 (ai_D1 vx_32 ai_D0))) (by decide +kernel)
-- X2_sign
def cx_216 : ai_C := (46, [.r 1, .r 102], [], some [.i (-1) 1], ([], []))
set_option maxRecDepth 1000000 in
theorem vx_216 : ai_valid ai_Tb cx_216 := ai_chk_ok (n := 10) (D := [cx_22]) ai_TbK (ai_D1 vx_22 ai_D0) (by decide +kernel)
-- X1_isFit
def cx_217 : ai_C := (19, [.r 1, .r 102], [], some [.i 0 1], ([], []))
set_option maxRecDepth 1000000 in
theorem vx_217 : ai_valid ai_Tb cx_217 := ai_chk_ok (n := 13) (D := [cx_216, cx_34]) ai_TbK (ai_D1 vx_216 (ai_D1 vx_34 ai_D0)) (by decide +kernel)
-- X1_canOpen
def cx_218 : ai_C := (18, [.r 1, .r 107, .r 102], [], some [.i 0 1], ([], []))
set_option maxRecDepth 1000000 in
theorem vx_218 : ai_valid ai_Tb cx_218 := ai_chk_ok (n := 12) (D := [cx_196, cx_217]) ai_TbK (ai_D1 vx_196 (ai_D1 vx_217 ai_D0)) (by decide +kernel)
-- X1_open
def cx_219 : ai_C := (20, [.r 6, .r 1, .r 107, .r 102, .i (-2147483648) 2147483647], [], none, ([(6, 3), (6, 4), (6, 5), (6, 6), (6, 12), (6, 13), (1015, 0), (1015, 1), (1015, 2), (1015, 3), (1016, 0), (1016, 1), (1016, 2), (1016, 3)], [7, 1010]))
set_option maxRecDepth 1000000 in
theorem vx_219 : ai_valid ai_Tb cx_219 := ai_chk_ok (n := 225) (D := [cx_198, cx_24, cx_34]) ai_TbK (ai_D1 vx_198 (ai_D1 vx_24 (ai_D1 vx_34 ai_D0))) (by decide +kernel)
-- X1_canOpen
def cx_220 : ai_C := (18, [.r 1, .r 106, .r 107], [], some [.i 0 1], ([], []))
set_option maxRecDepth 1000000 in
theorem vx_220 : ai_valid ai_Tb cx_220 := ai_chk_ok (n := 12) (D := [cx_201, cx_196]) ai_TbK (ai_D1 vx_201 (ai_D1 vx_196 ai_D0)) (by decide +kernel)
-- X1_open
def cx_221 : ai_C := (20, [.r 6, .r 1, .r 106, .r 107, .i (-2147483648) 2147483647], [], none, ([(6, 3), (6, 4), (6, 5), (6, 6), (6, 12), (6, 13), (1015, 0), (1015, 1), (1015, 2), (1015, 3), (1016, 0), (1016, 1), (1016, 2), (1016, 3)], [7, 1010]))
set_option maxRecDepth 1000000 in
theorem vx_221 : ai_valid ai_Tb cx_221 := ai_chk_ok (n := 225) (D := [cx_198, cx_26, cx_24]) ai_TbK (ai_D1 vx_198 (ai_D1 vx_26 (ai_D1 vx_24 ai_D0))) (by decide +kernel)
-- X1_canOpen
def cx_222 : ai_C := (18, [.r 1, .r 106, .r 106], [], some [.i 0 1], ([], []))
set_option maxRecDepth 1000000 in
theorem vx_222 : ai_valid ai_Tb cx_222 := ai_chk_ok (n := 12) (D := [cx_201]) ai_TbK (ai_D1 vx_201 ai_D0) (by decide +kernel)
-- X1_open
def cx_223 : ai_C := (20, [.r 6, .r 1, .r 106, .r 106, .i (-2147483648) 2147483647], [], none, ([(6, 3), (6, 4), (6, 5), (6, 6), (6, 12), (6, 13), (1015, 0), (1015, 1), (1015, 2), (1015, 3), (1016, 0), (1016, 1), (1016, 2), (1016, 3)], [7, 1010]))
set_option maxRecDepth 1000000 in
theorem vx_223 : ai_valid ai_Tb cx_223 := ai_chk_ok (n := 225) (D := [cx_198, cx_26]) ai_TbK (ai_D1 vx_198 (ai_D1 vx_26 ai_D0)) (by decide +kernel)
-- X1_canOpen
def cx_224 : ai_C := (18, [.r 1, .r 106, .r 105], [], some [.i 0 1], ([], []))
set_option maxRecDepth 1000000 in
theorem vx_224 : ai_valid ai_Tb cx_224 := ai_chk_ok (n := 12) (D := [cx_201, cx_205]) ai_TbK (ai_D1 vx_201 (ai_D1 vx_205 ai_D0)) (by decide +kernel)
-- X1_open
def cx_225 : ai_C := (20, [.r 6, .r 1, .r 106, .r 105, .i (-2147483648) 2147483647], [], none, ([(6, 3), (6, 4), (6, 5), (6, 6), (6, 12), (6, 13), (1015, 0), (1015, 1), (1015, 2), (1015, 3), (1016, 0), (1016, 1), (1016, 2), (1016, 3)], [7, 1010]))
set_option maxRecDepth 1000000 in
theorem vx_225 : ai_valid ai_Tb cx_225 := ai_chk_ok (n := 225) (D := [cx_198, cx_26, cx_28]) ai_TbK (ai_D1 vx_198 (ai_D1 vx_26 (ai_D1 vx_28 ai_D0))) (by decide +kernel)
-- X1_canOpen
def cx_226 : ai_C := (18, [.r 1, .r 106, .r 104], [], some [.i 0 1], ([], []))
set_option maxRecDepth 1000000 in
theorem vx_226 : ai_valid ai_Tb cx_226 := ai_chk_ok (n := 12) (D := [cx_201, cx_209]) ai_TbK (ai_D1 vx_201 (ai_D1 vx_209 ai_D0)) (by decide +kernel)
-- X1_open
def cx_227 : ai_C := (20, [.r 6, .r 1, .r 106, .r 104, .i (-2147483648) 2147483647], [], none, ([(6, 3), (6, 4), (6, 5), (6, 6), (6, 12), (6, 13), (1015, 0), (1015, 1), (1015, 2), (1015, 3), (1016, 0), (1016, 1), (1016, 2), (1016, 3)], [7, 1010]))
set_option maxRecDepth 1000000 in
theorem vx_227 : ai_valid ai_Tb cx_227 := ai_chk_ok (n := 225) (D := [cx_198, cx_26, cx_30]) ai_TbK (ai_D1 vx_198 (ai_D1 vx_26 (ai_D1 vx_30 ai_D0))) (by decide +kernel)
-- X1_canOpen
def cx_228 : ai_C := (18, [.r 1, .r 106, .r 103], [], some [.i 0 1], ([], []))
set_option maxRecDepth 1000000 in
theorem vx_228 : ai_valid ai_Tb cx_228 := ai_chk_ok (n := 12) (D := [cx_201, cx_213]) ai_TbK (ai_D1 vx_201 (ai_D1 vx_213 ai_D0)) (by decide +kernel)
-- X1_open
def cx_229 : ai_C := (20, [.r 6, .r 1, .r 106, .r 103, .i (-2147483648) 2147483647], [], none, ([(6, 3), (6, 4), (6, 5), (6, 6), (6, 12), (6, 13), (1015, 0), (1015, 1), (1015, 2), (1015, 3), (1016, 0), (1016, 1), (1016, 2), (1016, 3)], [7, 1010]))
set_option maxRecDepth 1000000 in
theorem vx_229 : ai_valid ai_Tb cx_229 := ai_chk_ok (n := 225) (D := [cx_198, cx_26, cx_32]) ai_TbK (ai_D1 vx_198 (ai_D1 vx_26 (ai_D1 vx_32 ai_D0))) (by decide +kernel)
-- X1_canOpen
def cx_230 : ai_C := (18, [.r 1, .r 106, .r 102], [], some [.i 0 1], ([], []))
set_option maxRecDepth 1000000 in
theorem vx_230 : ai_valid ai_Tb cx_230 := ai_chk_ok (n := 12) (D := [cx_201, cx_217]) ai_TbK (ai_D1 vx_201 (ai_D1 vx_217 ai_D0)) (by decide +kernel)
-- X1_open
def cx_231 : ai_C := (20, [.r 6, .r 1, .r 106, .r 102, .i (-2147483648) 2147483647], [], none, ([(6, 3), (6, 4), (6, 5), (6, 6), (6, 12), (6, 13), (1015, 0), (1015, 1), (1015, 2), (1015, 3), (1016, 0), (1016, 1), (1016, 2), (1016, 3)], [7, 1010]))
set_option maxRecDepth 1000000 in
theorem vx_231 : ai_valid ai_Tb cx_231 := ai_chk_ok (n := 225) (D := [cx_198, cx_26, cx_34]) ai_TbK (ai_D1 vx_198 (ai_D1 vx_26 (ai_D1 vx_34 ai_D0))) (by decide +kernel)
-- X1_canOpen
def cx_232 : ai_C := (18, [.r 1, .r 105, .r 107], [], some [.i 0 1], ([], []))
set_option maxRecDepth 1000000 in
theorem vx_232 : ai_valid ai_Tb cx_232 := ai_chk_ok (n := 12) (D := [cx_205, cx_196]) ai_TbK (ai_D1 vx_205 (ai_D1 vx_196 ai_D0)) (by decide +kernel)
-- X1_open
def cx_233 : ai_C := (20, [.r 6, .r 1, .r 105, .r 107, .i (-2147483648) 2147483647], [], none, ([(6, 3), (6, 4), (6, 5), (6, 6), (6, 12), (6, 13), (1015, 0), (1015, 1), (1015, 2), (1015, 3), (1016, 0), (1016, 1), (1016, 2), (1016, 3)], [7, 1010]))
set_option maxRecDepth 1000000 in
theorem vx_233 : ai_valid ai_Tb cx_233 := ai_chk_ok (n := 225) (D := [cx_198, cx_28, cx_24]) ai_TbK (ai_D1 vx_198 (ai_D1 vx_28 (ai_D1 vx_24 ai_D0))) (by decide +kernel)
-- X1_canOpen
def cx_234 : ai_C := (18, [.r 1, .r 105, .r 106], [], some [.i 0 1], ([], []))
set_option maxRecDepth 1000000 in
theorem vx_234 : ai_valid ai_Tb cx_234 := ai_chk_ok (n := 12) (D := [cx_205, cx_201]) ai_TbK (ai_D1 vx_205 (ai_D1 vx_201 ai_D0)) (by decide +kernel)
-- X1_open
def cx_235 : ai_C := (20, [.r 6, .r 1, .r 105, .r 106, .i (-2147483648) 2147483647], [], none, ([(6, 3), (6, 4), (6, 5), (6, 6), (6, 12), (6, 13), (1015, 0), (1015, 1), (1015, 2), (1015, 3), (1016, 0), (1016, 1), (1016, 2), (1016, 3)], [7, 1010]))
set_option maxRecDepth 1000000 in
theorem vx_235 : ai_valid ai_Tb cx_235 := ai_chk_ok (n := 225) (D := [cx_198, cx_28, cx_26]) ai_TbK (ai_D1 vx_198 (ai_D1 vx_28 (ai_D1 vx_26 ai_D0))) (by decide +kernel)
-- X1_canOpen
def cx_236 : ai_C := (18, [.r 1, .r 105, .r 105], [], some [.i 0 1], ([], []))
set_option maxRecDepth 1000000 in
theorem vx_236 : ai_valid ai_Tb cx_236 := ai_chk_ok (n := 12) (D := [cx_205]) ai_TbK (ai_D1 vx_205 ai_D0) (by decide +kernel)
-- X1_open
def cx_237 : ai_C := (20, [.r 6, .r 1, .r 105, .r 105, .i (-2147483648) 2147483647], [], none, ([(6, 3), (6, 4), (6, 5), (6, 6), (6, 12), (6, 13), (1015, 0), (1015, 1), (1015, 2), (1015, 3), (1016, 0), (1016, 1), (1016, 2), (1016, 3)], [7, 1010]))
set_option maxRecDepth 1000000 in
theorem vx_237 : ai_valid ai_Tb cx_237 := ai_chk_ok (n := 225) (D := [cx_198, cx_28]) ai_TbK (ai_D1 vx_198 (ai_D1 vx_28 ai_D0)) (by decide +kernel)
-- X1_canOpen
def cx_238 : ai_C := (18, [.r 1, .r 105, .r 104], [], some [.i 0 1], ([], []))
set_option maxRecDepth 1000000 in
theorem vx_238 : ai_valid ai_Tb cx_238 := ai_chk_ok (n := 12) (D := [cx_205, cx_209]) ai_TbK (ai_D1 vx_205 (ai_D1 vx_209 ai_D0)) (by decide +kernel)
-- X1_open
def cx_239 : ai_C := (20, [.r 6, .r 1, .r 105, .r 104, .i (-2147483648) 2147483647], [], none, ([(6, 3), (6, 4), (6, 5), (6, 6), (6, 12), (6, 13), (1015, 0), (1015, 1), (1015, 2), (1015, 3), (1016, 0), (1016, 1), (1016, 2), (1016, 3)], [7, 1010]))
set_option maxRecDepth 1000000 in
theorem vx_239 : ai_valid ai_Tb cx_239 := ai_chk_ok (n := 225) (D := [cx_198, cx_28, cx_30]) ai_TbK (ai_D1 vx_198 (ai_D1 vx_28 (ai_D1 vx_30 ai_D0))) (by decide +kernel)
-- X1_canOpen
def cx_240 : ai_C := (18, [.r 1, .r 105, .r 103], [], some [.i 0 1], ([], []))
set_option maxRecDepth 1000000 in
theorem vx_240 : ai_valid ai_Tb cx_240 := ai_chk_ok (n := 12) (D := [cx_205, cx_213]) ai_TbK (ai_D1 vx_205 (ai_D1 vx_213 ai_D0)) (by decide +kernel)
-- X1_open
def cx_241 : ai_C := (20, [.r 6, .r 1, .r 105, .r 103, .i (-2147483648) 2147483647], [], none, ([(6, 3), (6, 4), (6, 5), (6, 6), (6, 12), (6, 13), (1015, 0), (1015, 1), (1015, 2), (1015, 3), (1016, 0), (1016, 1), (1016, 2), (1016, 3)], [7, 1010]))
set_option maxRecDepth 1000000 in
theorem vx_241 : ai_valid ai_Tb cx_241 := ai_chk_ok (n := 225) (D := [cx_198, cx_28, cx_32]) ai_TbK (ai_D1 vx_198 (ai_D1 vx_28 (ai_D1 vx_32 ai_D0))) (by decide +kernel)
-- X1_canOpen
def cx_242 : ai_C := (18, [.r 1, .r 105, .r 102], [], some [.i 0 1], ([], []))
set_option maxRecDepth 1000000 in
theorem vx_242 : ai_valid ai_Tb cx_242 := ai_chk_ok (n := 12) (D := [cx_205, cx_217]) ai_TbK (ai_D1 vx_205 (ai_D1 vx_217 ai_D0)) (by decide +kernel)
-- X1_open
def cx_243 : ai_C := (20, [.r 6, .r 1, .r 105, .r 102, .i (-2147483648) 2147483647], [], none, ([(6, 3), (6, 4), (6, 5), (6, 6), (6, 12), (6, 13), (1015, 0), (1015, 1), (1015, 2), (1015, 3), (1016, 0), (1016, 1), (1016, 2), (1016, 3)], [7, 1010]))
set_option maxRecDepth 1000000 in
theorem vx_243 : ai_valid ai_Tb cx_243 := ai_chk_ok (n := 225) (D := [cx_198, cx_28, cx_34]) ai_TbK (ai_D1 vx_198 (ai_D1 vx_28 (ai_D1 vx_34 ai_D0))) (by decide +kernel)
-- X1_canOpen
def cx_244 : ai_C := (18, [.r 1, .r 104, .r 107], [], some [.i 0 1], ([], []))
set_option maxRecDepth 1000000 in
theorem vx_244 : ai_valid ai_Tb cx_244 := ai_chk_ok (n := 12) (D := [cx_209, cx_196]) ai_TbK (ai_D1 vx_209 (ai_D1 vx_196 ai_D0)) (by decide +kernel)
-- X1_open
def cx_245 : ai_C := (20, [.r 6, .r 1, .r 104, .r 107, .i (-2147483648) 2147483647], [], none, ([(6, 3), (6, 4), (6, 5), (6, 6), (6, 12), (6, 13), (1015, 0), (1015, 1), (1015, 2), (1015, 3), (1016, 0), (1016, 1), (1016, 2), (1016, 3)], [7, 1010]))
set_option maxRecDepth 1000000 in
theorem vx_245 : ai_valid ai_Tb cx_245 := ai_chk_ok (n := 225) (D := [cx_198, cx_30, cx_24]) ai_TbK (ai_D1 vx_198 (ai_D1 vx_30 (ai_D1 vx_24 ai_D0))) (by decide +kernel)
-- X1_canOpen
def cx_246 : ai_C := (18, [.r 1, .r 104, .r 106], [], some [.i 0 1], ([], []))
set_option maxRecDepth 1000000 in
theorem vx_246 : ai_valid ai_Tb cx_246 := ai_chk_ok (n := 12) (D := [cx_209, cx_201]) ai_TbK (ai_D1 vx_209 (ai_D1 vx_201 ai_D0)) (by decide +kernel)
-- X1_open
def cx_247 : ai_C := (20, [.r 6, .r 1, .r 104, .r 106, .i (-2147483648) 2147483647], [], none, ([(6, 3), (6, 4), (6, 5), (6, 6), (6, 12), (6, 13), (1015, 0), (1015, 1), (1015, 2), (1015, 3), (1016, 0), (1016, 1), (1016, 2), (1016, 3)], [7, 1010]))
set_option maxRecDepth 1000000 in
theorem vx_247 : ai_valid ai_Tb cx_247 := ai_chk_ok (n := 225) (D := [cx_198, cx_30, cx_26]) ai_TbK (ai_D1 vx_198 (ai_D1 vx_30 (ai_D1 vx_26 ai_D0))) (by decide +kernel)
-- X1_canOpen
def cx_248 : ai_C := (18, [.r 1, .r 104, .r 105], [], some [.i 0 1], ([], []))
set_option maxRecDepth 1000000 in
theorem vx_248 : ai_valid ai_Tb cx_248 := ai_chk_ok (n := 12) (D := [cx_209, cx_205]) ai_TbK (ai_D1 vx_209 (ai_D1 vx_205 ai_D0)) (by decide +kernel)
-- X1_open
def cx_249 : ai_C := (20, [.r 6, .r 1, .r 104, .r 105, .i (-2147483648) 2147483647], [], none, ([(6, 3), (6, 4), (6, 5), (6, 6), (6, 12), (6, 13), (1015, 0), (1015, 1), (1015, 2), (1015, 3), (1016, 0), (1016, 1), (1016, 2), (1016, 3)], [7, 1010]))
set_option maxRecDepth 1000000 in
theorem vx_249 : ai_valid ai_Tb cx_249 := ai_chk_ok (n := 225) (D := [cx_198, cx_30, cx_28]) ai_TbK (ai_D1 vx_198 (ai_D1 vx_30 (ai_D1 vx_28 ai_D0))) (by decide +kernel)
-- X1_canOpen
def cx_250 : ai_C := (18, [.r 1, .r 104, .r 104], [], some [.i 0 1], ([], []))
set_option maxRecDepth 1000000 in
theorem vx_250 : ai_valid ai_Tb cx_250 := ai_chk_ok (n := 12) (D := [cx_209]) ai_TbK (ai_D1 vx_209 ai_D0) (by decide +kernel)
-- X1_open
def cx_251 : ai_C := (20, [.r 6, .r 1, .r 104, .r 104, .i (-2147483648) 2147483647], [], none, ([(6, 3), (6, 4), (6, 5), (6, 6), (6, 12), (6, 13), (1015, 0), (1015, 1), (1015, 2), (1015, 3), (1016, 0), (1016, 1), (1016, 2), (1016, 3)], [7, 1010]))
set_option maxRecDepth 1000000 in
theorem vx_251 : ai_valid ai_Tb cx_251 := ai_chk_ok (n := 225) (D := [cx_198, cx_30]) ai_TbK (ai_D1 vx_198 (ai_D1 vx_30 ai_D0)) (by decide +kernel)
-- X1_canOpen
def cx_252 : ai_C := (18, [.r 1, .r 104, .r 103], [], some [.i 0 1], ([], []))
set_option maxRecDepth 1000000 in
theorem vx_252 : ai_valid ai_Tb cx_252 := ai_chk_ok (n := 12) (D := [cx_209, cx_213]) ai_TbK (ai_D1 vx_209 (ai_D1 vx_213 ai_D0)) (by decide +kernel)
-- X1_open
def cx_253 : ai_C := (20, [.r 6, .r 1, .r 104, .r 103, .i (-2147483648) 2147483647], [], none, ([(6, 3), (6, 4), (6, 5), (6, 6), (6, 12), (6, 13), (1015, 0), (1015, 1), (1015, 2), (1015, 3), (1016, 0), (1016, 1), (1016, 2), (1016, 3)], [7, 1010]))
set_option maxRecDepth 1000000 in
theorem vx_253 : ai_valid ai_Tb cx_253 := ai_chk_ok (n := 225) (D := [cx_198, cx_30, cx_32]) ai_TbK (ai_D1 vx_198 (ai_D1 vx_30 (ai_D1 vx_32 ai_D0))) (by decide +kernel)
-- X1_canOpen
def cx_254 : ai_C := (18, [.r 1, .r 104, .r 102], [], some [.i 0 1], ([], []))
set_option maxRecDepth 1000000 in
theorem vx_254 : ai_valid ai_Tb cx_254 := ai_chk_ok (n := 12) (D := [cx_209, cx_217]) ai_TbK (ai_D1 vx_209 (ai_D1 vx_217 ai_D0)) (by decide +kernel)
-- X1_open
def cx_255 : ai_C := (20, [.r 6, .r 1, .r 104, .r 102, .i (-2147483648) 2147483647], [], none, ([(6, 3), (6, 4), (6, 5), (6, 6), (6, 12), (6, 13), (1015, 0), (1015, 1), (1015, 2), (1015, 3), (1016, 0), (1016, 1), (1016, 2), (1016, 3)], [7, 1010]))
set_option maxRecDepth 1000000 in
theorem vx_255 : ai_valid ai_Tb cx_255 := ai_chk_ok (n := 225) (D := [cx_198, cx_30, cx_34]) ai_TbK (ai_D1 vx_198 (ai_D1 vx_30 (ai_D1 vx_34 ai_D0))) (by decide +kernel)
-- X1_canOpen
def cx_256 : ai_C := (18, [.r 1, .r 103, .r 107], [], some [.i 0 1], ([], []))
set_option maxRecDepth 1000000 in
theorem vx_256 : ai_valid ai_Tb cx_256 := ai_chk_ok (n := 12) (D := [cx_213, cx_196]) ai_TbK (ai_D1 vx_213 (ai_D1 vx_196 ai_D0)) (by decide +kernel)
-- X1_open
def cx_257 : ai_C := (20, [.r 6, .r 1, .r 103, .r 107, .i (-2147483648) 2147483647], [], none, ([(6, 3), (6, 4), (6, 5), (6, 6), (6, 12), (6, 13), (1015, 0), (1015, 1), (1015, 2), (1015, 3), (1016, 0), (1016, 1), (1016, 2), (1016, 3)], [7, 1010]))
set_option maxRecDepth 1000000 in
theorem vx_257 : ai_valid ai_Tb cx_257 := ai_chk_ok (n := 225) (D := [cx_198, cx_32, cx_24]) ai_TbK (ai_D1 vx_198 (ai_D1 vx_32 (ai_D1 vx_24 ai_D0))) (by decide +kernel)
-- X1_canOpen
def cx_258 : ai_C := (18, [.r 1, .r 103, .r 106], [], some [.i 0 1], ([], []))
set_option maxRecDepth 1000000 in
theorem vx_258 : ai_valid ai_Tb cx_258 := ai_chk_ok (n := 12) (D := [cx_213, cx_201]) ai_TbK (ai_D1 vx_213 (ai_D1 vx_201 ai_D0)) (by decide +kernel)
-- X1_open
def cx_259 : ai_C := (20, [.r 6, .r 1, .r 103, .r 106, .i (-2147483648) 2147483647], [], none, ([(6, 3), (6, 4), (6, 5), (6, 6), (6, 12), (6, 13), (1015, 0), (1015, 1), (1015, 2), (1015, 3), (1016, 0), (1016, 1), (1016, 2), (1016, 3)], [7, 1010]))
set_option maxRecDepth 1000000 in
theorem vx_259 : ai_valid ai_Tb cx_259 := ai_chk_ok (n := 225) (D := [cx_198, cx_32, cx_26]) ai_TbK (ai_D1 vx_198 (ai_D1 vx_32 (ai_D1 vx_26 ai_D0))) (by decide +kernel)
-- X1_canOpen
def cx_260 : ai_C := (18, [.r 1, .r 103, .r 105], [], some [.i 0 1], ([], []))
set_option maxRecDepth 1000000 in
theorem vx_260 : ai_valid ai_Tb cx_260 := ai_chk_ok (n := 12) (D := [cx_213, cx_205]) ai_TbK (ai_D1 vx_213 (ai_D1 vx_205 ai_D0)) (by decide +kernel)
-- X1_open
def cx_261 : ai_C := (20, [.r 6, .r 1, .r 103, .r 105, .i (-2147483648) 2147483647], [], none, ([(6, 3), (6, 4), (6, 5), (6, 6), (6, 12), (6, 13), (1015, 0), (1015, 1), (1015, 2), (1015, 3), (1016, 0), (1016, 1), (1016, 2), (1016, 3)], [7, 1010]))
set_option maxRecDepth 1000000 in
theorem vx_261 : ai_valid ai_Tb cx_261 := ai_chk_ok (n := 225) (D := [cx_198, cx_32, cx_28]) ai_TbK (ai_D1 vx_198 (ai_D1 vx_32 (ai_D1 vx_28 ai_D0))) (by decide +kernel)
-- X1_canOpen
def cx_262 : ai_C := (18, [.r 1, .r 103, .r 104], [], some [.i 0 1], ([], []))
set_option maxRecDepth 1000000 in
theorem vx_262 : ai_valid ai_Tb cx_262 := ai_chk_ok (n := 12) (D := [cx_213, cx_209]) ai_TbK (ai_D1 vx_213 (ai_D1 vx_209 ai_D0)) (by decide +kernel)
-- X1_open
def cx_263 : ai_C := (20, [.r 6, .r 1, .r 103, .r 104, .i (-2147483648) 2147483647], [], none, ([(6, 3), (6, 4), (6, 5), (6, 6), (6, 12), (6, 13), (1015, 0), (1015, 1), (1015, 2), (1015, 3), (1016, 0), (1016, 1), (1016, 2), (1016, 3)], [7, 1010]))
set_option maxRecDepth 1000000 in
theorem vx_263 : ai_valid ai_Tb cx_263 := ai_chk_ok (n := 225) (D := [cx_198, cx_32, cx_30]) ai_TbK (ai_D1 vx_198 (ai_D1 vx_32 (ai_D1 vx_30 ai_D0))) (by decide +kernel)
-- X1_canOpen
def cx_264 : ai_C := (18, [.r 1, .r 103, .r 103], [], some [.i 0 1], ([], []))
set_option maxRecDepth 1000000 in
theorem vx_264 : ai_valid ai_Tb cx_264 := ai_chk_ok (n := 12) (D := [cx_213]) ai_TbK (ai_D1 vx_213 ai_D0) (by decide +kernel)
-- X1_open
def cx_265 : ai_C := (20, [.r 6, .r 1, .r 103, .r 103, .i (-2147483648) 2147483647], [], none, ([(6, 3), (6, 4), (6, 5), (6, 6), (6, 12), (6, 13), (1015, 0), (1015, 1), (1015, 2), (1015, 3), (1016, 0), (1016, 1), (1016, 2), (1016, 3)], [7, 1010]))
set_option maxRecDepth 1000000 in
theorem vx_265 : ai_valid ai_Tb cx_265 := ai_chk_ok (n := 225) (D := [cx_198, cx_32]) ai_TbK (ai_D1 vx_198 (ai_D1 vx_32 ai_D0)) (by decide +kernel)
-- X1_canOpen
def cx_266 : ai_C := (18, [.r 1, .r 103, .r 102], [], some [.i 0 1], ([], []))
set_option maxRecDepth 1000000 in
theorem vx_266 : ai_valid ai_Tb cx_266 := ai_chk_ok (n := 12) (D := [cx_213, cx_217]) ai_TbK (ai_D1 vx_213 (ai_D1 vx_217 ai_D0)) (by decide +kernel)
-- X1_open
def cx_267 : ai_C := (20, [.r 6, .r 1, .r 103, .r 102, .i (-2147483648) 2147483647], [], none, ([(6, 3), (6, 4), (6, 5), (6, 6), (6, 12), (6, 13), (1015, 0), (1015, 1), (1015, 2), (1015, 3), (1016, 0), (1016, 1), (1016, 2), (1016, 3)], [7, 1010]))
set_option maxRecDepth 1000000 in
theorem vx_267 : ai_valid ai_Tb cx_267 := ai_chk_ok (n := 225) (D := [cx_198, cx_32, cx_34]) ai_TbK (ai_D1 vx_198 (ai_D1 vx_32 (ai_D1 vx_34 ai_D0))) (by decide +kernel)
-- X1_canOpen
def cx_268 : ai_C := (18, [.r 1, .r 102, .r 107], [], some [.i 0 1], ([], []))
set_option maxRecDepth 1000000 in
theorem vx_268 : ai_valid ai_Tb cx_268 := ai_chk_ok (n := 12) (D := [cx_217, cx_196]) ai_TbK (ai_D1 vx_217 (ai_D1 vx_196 ai_D0)) (by decide +kernel)
-- X1_open
def cx_269 : ai_C := (20, [.r 6, .r 1, .r 102, .r 107, .i (-2147483648) 2147483647], [], none, ([(6, 3), (6, 4), (6, 5), (6, 6), (6, 12), (6, 13), (1015, 0), (1015, 1), (1015, 2), (1015, 3), (1016, 0), (1016, 1), (1016, 2), (1016, 3)], [7, 1010]))
set_option maxRecDepth 1000000 in
theorem vx_269 : ai_valid ai_Tb cx_269 := ai_chk_ok (n := 225) (D := [cx_198, cx_34, cx_24]) ai_TbK (ai_D1 vx_198 (ai_D1 vx_34 (ai_D1 vx_24 ai_D0))) (by decide +kernel)
-- X1_canOpen
def cx_270 : ai_C := (18, [.r 1, .r 102, .r 106], [], some [.i 0 1], ([], []))
set_option maxRecDepth 1000000 in
theorem vx_270 : ai_valid ai_Tb cx_270 := ai_chk_ok (n := 12) (D := [cx_217, cx_201]) ai_TbK (ai_D1 vx_217 (ai_D1 vx_201 ai_D0)) (by decide +kernel)
-- X1_open
def cx_271 : ai_C := (20, [.r 6, .r 1, .r 102, .r 106, .i (-2147483648) 2147483647], [], none, ([(6, 3), (6, 4), (6, 5), (6, 6), (6, 12), (6, 13), (1015, 0), (1015, 1), (1015, 2), (1015, 3), (1016, 0), (1016, 1), (1016, 2), (1016, 3)], [7, 1010]))
set_option maxRecDepth 1000000 in
theorem vx_271 : ai_valid ai_Tb cx_271 := ai_chk_ok (n := 225) (D := [cx_198, cx_34, cx_26]) ai_TbK (ai_D1 vx_198 (ai_D1 vx_34 (ai_D1 vx_26 ai_D0))) (by decide +kernel)
-- X1_canOpen
def cx_272 : ai_C := (18, [.r 1, .r 102, .r 105], [], some [.i 0 1], ([], []))
set_option maxRecDepth 1000000 in
theorem vx_272 : ai_valid ai_Tb cx_272 := ai_chk_ok (n := 12) (D := [cx_217, cx_205]) ai_TbK (ai_D1 vx_217 (ai_D1 vx_205 ai_D0)) (by decide +kernel)
-- X1_open
def cx_273 : ai_C := (20, [.r 6, .r 1, .r 102, .r 105, .i (-2147483648) 2147483647], [], none, ([(6, 3), (6, 4), (6, 5), (6, 6), (6, 12), (6, 13), (1015, 0), (1015, 1), (1015, 2), (1015, 3), (1016, 0), (1016, 1), (1016, 2), (1016, 3)], [7, 1010]))
set_option maxRecDepth 1000000 in
theorem vx_273 : ai_valid ai_Tb cx_273 := ai_chk_ok (n := 225) (D := [cx_198, cx_34, cx_28]) ai_TbK (ai_D1 vx_198 (ai_D1 vx_34 (ai_D1 vx_28 ai_D0))) (by decide +kernel)
-- X1_canOpen
def cx_274 : ai_C := (18, [.r 1, .r 102, .r 104], [], some [.i 0 1], ([], []))
set_option maxRecDepth 1000000 in
theorem vx_274 : ai_valid ai_Tb cx_274 := ai_chk_ok (n := 12) (D := [cx_217, cx_209]) ai_TbK (ai_D1 vx_217 (ai_D1 vx_209 ai_D0)) (by decide +kernel)
-- X1_open
def cx_275 : ai_C := (20, [.r 6, .r 1, .r 102, .r 104, .i (-2147483648) 2147483647], [], none, ([(6, 3), (6, 4), (6, 5), (6, 6), (6, 12), (6, 13), (1015, 0), (1015, 1), (1015, 2), (1015, 3), (1016, 0), (1016, 1), (1016, 2), (1016, 3)], [7, 1010]))
set_option maxRecDepth 1000000 in
theorem vx_275 : ai_valid ai_Tb cx_275 := ai_chk_ok (n := 225) (D := [cx_198, cx_34, cx_30]) ai_TbK (ai_D1 vx_198 (ai_D1 vx_34 (ai_D1 vx_30 ai_D0))) (by decide +kernel)
-- X1_canOpen
def cx_276 : ai_C := (18, [.r 1, .r 102, .r 103], [], some [.i 0 1], ([], []))
set_option maxRecDepth 1000000 in
theorem vx_276 : ai_valid ai_Tb cx_276 := ai_chk_ok (n := 12) (D := [cx_217, cx_213]) ai_TbK (ai_D1 vx_217 (ai_D1 vx_213 ai_D0)) (by decide +kernel)
-- X1_open
def cx_277 : ai_C := (20, [.r 6, .r 1, .r 102, .r 103, .i (-2147483648) 2147483647], [], none, ([(6, 3), (6, 4), (6, 5), (6, 6), (6, 12), (6, 13), (1015, 0), (1015, 1), (1015, 2), (1015, 3), (1016, 0), (1016, 1), (1016, 2), (1016, 3)], [7, 1010]))
set_option maxRecDepth 1000000 in
theorem vx_277 : ai_valid ai_Tb cx_277 := ai_chk_ok (n := 225) (D := [cx_198, cx_34, cx_32]) ai_TbK (ai_D1 vx_198 (ai_D1 vx_34 (ai_D1 vx_32 ai_D0))) (by decide +kernel)
-- X1_canOpen
def cx_278 : ai_C := (18, [.r 1, .r 102, .r 102], [], some [.i 0 1], ([], []))
set_option maxRecDepth 1000000 in
theorem vx_278 : ai_valid ai_Tb cx_278 := ai_chk_ok (n := 12) (D := [cx_217]) ai_TbK (ai_D1 vx_217 ai_D0) (by decide +kernel)
-- X1_open
def cx_279 : ai_C := (20, [.r 6, .r 1, .r 102, .r 102, .i (-2147483648) 2147483647], [], none, ([(6, 3), (6, 4), (6, 5), (6, 6), (6, 12), (6, 13), (1015, 0), (1015, 1), (1015, 2), (1015, 3), (1016, 0), (1016, 1), (1016, 2), (1016, 3)], [7, 1010]))
set_option maxRecDepth 1000000 in
theorem vx_279 : ai_valid ai_Tb cx_279 := ai_chk_ok (n := 225) (D := [cx_198, cx_34]) ai_TbK (ai_D1 vx_198 (ai_D1 vx_34 ai_D0)) (by decide +kernel)
