-- THE CELLS behind the two constructors: shapes and references
def ip_SH : List (Nat × Nat × Nat) := [(0, 10, 14), (0, 2, 5), (0, 4, 1), (1, 1, 9), (0, 8, 4), (1, 4, 6), (0, 1, 15), (1, 0, 610), (1, 2, 61), (0, 4, 1), (1, 1, 9), (0, 4, 1), (1, 1, 9), (0, 8, 4), (0, 8, 4), (0, 8, 4), (0, 8, 4), (0, 9, 2), (1, 2, 120), (0, 6, 5), (1, 2, 200), (0, 9, 2), (1, 2, 120), (0, 3, 6), (1, 5, 8), (1, 0, 8), (1, 5, 2), (1, 3, 2), (0, 5, 8), (1, 0, 24), (0, 9, 2), (1, 2, 120), (1, 0, 8), (0, 5, 8), (1, 0, 24), (0, 9, 2), (1, 2, 120), (1, 0, 8), (0, 5, 8), (1, 0, 24), (0, 9, 2), (1, 2, 120), (1, 0, 8), (0, 5, 8), (1, 0, 24), (0, 9, 2), (1, 2, 120), (1, 0, 8), (0, 5, 8), (1, 0, 24), (0, 9, 2), (1, 2, 120), (1, 0, 8), (0, 5, 8), (1, 0, 24), (0, 9, 2), (1, 2, 120), (1, 0, 8), (0, 5, 8), (1, 0, 24), (0, 9, 2), (1, 2, 120), (1, 0, 8), (0, 5, 8), (1, 0, 24), (0, 9, 2), (1, 2, 120), (1, 0, 8), (0, 5, 8), (1, 0, 24), (0, 9, 2), (1, 2, 120), (1, 0, 8), (0, 5, 8), (1, 0, 24), (0, 9, 2), (1, 2, 120), (1, 0, 8), (0, 7, 2), (1, 0, 6), (0, 1, 15), (1, 0, 610), (1, 2, 61), (0, 4, 1), (1, 1, 9), (0, 4, 1), (1, 1, 9), (0, 8, 4), (0, 8, 4), (0, 8, 4), (0, 8, 4), (0, 2, 5), (0, 4, 1), (1, 1, 9), (0, 8, 4), (0, 4, 1), (1, 1, 9), (0, 0, 2), (1, 1, 8), (1, 0, 4), (0, 8, 4), (0, 8, 4), (0, 8, 4), (0, 8, 4), (0, 8, 4), (0, 8, 4), (0, 8, 4), (0, 8, 4), (0, 11, 48), (1, 0, 821), (1, 1, 9), (1, 0, 7), (1, 0, 6568), (1, 0, 8), (1, 0, 1642), (1, 1, 72), (1, 1, 18), (1, 3, 2), (1, 1, 9), (1, 0, 8), (1, 0, 200), (1, 0, 120), (1, 1, 200), (1, 1, 9), (1, 0, 4), (1, 0, 4), (1, 0, 821), (1, 1, 9)]
def ip_rfl : List (Nat × Nat × Nat) := [(0, 0, 1), (0, 1, 5), (0, 2, 6), (0, 3, 17), (0, 4, 19), (0, 5, 23), (0, 6, 78), (0, 8, 80), (0, 9, 91), (0, 10, 95), (0, 11, 97), (0, 12, 100), (0, 13, 101), (1, 3, 2), (1, 4, 4), (2, 0, 3), (5, 0, 102), (5, 1, 103), (5, 2, 104), (5, 3, 105), (5, 4, 106), (5, 5, 107), (6, 0, 7), (6, 1, 8), (6, 2, 9), (6, 7, 11), (6, 8, 13), (6, 9, 14), (6, 10, 15), (6, 11, 16), (9, 0, 10), (11, 0, 12), (17, 0, 18), (19, 0, 20), (19, 1, 21), (21, 0, 22), (23, 0, 24), (23, 1, 25), (23, 2, 26), (23, 3, 27), (24, 0, 28), (24, 1, 33), (24, 2, 38), (24, 3, 43), (24, 4, 48), (24, 5, 53), (24, 6, 58), (24, 7, 63), (26, 0, 68), (26, 1, 73), (28, 3, 29), (28, 4, 30), (28, 5, 32), (30, 0, 31), (33, 3, 34), (33, 4, 35), (33, 5, 37), (35, 0, 36), (38, 3, 39), (38, 4, 40), (38, 5, 42), (40, 0, 41), (43, 3, 44), (43, 4, 45), (43, 5, 47), (45, 0, 46), (48, 3, 49), (48, 4, 50), (48, 5, 52), (50, 0, 51), (53, 3, 54), (53, 4, 55), (53, 5, 57), (55, 0, 56), (58, 3, 59), (58, 4, 60), (58, 5, 62), (60, 0, 61), (63, 3, 64), (63, 4, 65), (63, 5, 67), (65, 0, 66), (68, 3, 69), (68, 4, 70), (68, 5, 72), (70, 0, 71), (73, 3, 74), (73, 4, 75), (73, 5, 77), (75, 0, 76), (78, 0, 79), (80, 0, 81), (80, 1, 82), (80, 2, 83), (80, 7, 85), (80, 8, 87), (80, 9, 88), (80, 10, 89), (80, 11, 90), (83, 0, 84), (85, 0, 86), (91, 3, 92), (91, 4, 94), (92, 0, 93), (95, 0, 96), (97, 0, 98), (97, 1, 99), (108, 1, 109), (108, 2, 110), (108, 5, 111), (108, 6, 112), (108, 7, 113), (108, 8, 114), (108, 9, 115), (108, 10, 116), (108, 11, 117), (108, 28, 118), (108, 30, 119), (108, 31, 120), (108, 39, 121), (108, 42, 122), (108, 43, 123), (108, 44, 124), (108, 45, 125), (108, 46, 126), (108, 47, 127)]
def ip_rf0 (k j : Nat) : Option Nat := (ip_rfl.find? fun q => q.1 == k && q.2.1 == j).map fun q => q.2.2
def ip_G (M : ip_H) : Prop := M.1 = ip_SH ∧ ∀ k j, k < 128 → j < 48 → M.2.2.2 k j = ip_rf0 k j
theorem gS_0 {M : ip_H} (h : ip_G M) : ip_sh M 0 = (0, 10, 14) := by unfold ip_sh; rw [h.1]; rfl
theorem gS_1 {M : ip_H} (h : ip_G M) : ip_sh M 1 = (0, 2, 5) := by unfold ip_sh; rw [h.1]; rfl
theorem gS_2 {M : ip_H} (h : ip_G M) : ip_sh M 2 = (0, 4, 1) := by unfold ip_sh; rw [h.1]; rfl
theorem gS_3 {M : ip_H} (h : ip_G M) : ip_sh M 3 = (1, 1, 9) := by unfold ip_sh; rw [h.1]; rfl
theorem gS_4 {M : ip_H} (h : ip_G M) : ip_sh M 4 = (0, 8, 4) := by unfold ip_sh; rw [h.1]; rfl
theorem gS_5 {M : ip_H} (h : ip_G M) : ip_sh M 5 = (1, 4, 6) := by unfold ip_sh; rw [h.1]; rfl
theorem gS_6 {M : ip_H} (h : ip_G M) : ip_sh M 6 = (0, 1, 15) := by unfold ip_sh; rw [h.1]; rfl
theorem gS_7 {M : ip_H} (h : ip_G M) : ip_sh M 7 = (1, 0, 610) := by unfold ip_sh; rw [h.1]; rfl
theorem gS_8 {M : ip_H} (h : ip_G M) : ip_sh M 8 = (1, 2, 61) := by unfold ip_sh; rw [h.1]; rfl
theorem gS_9 {M : ip_H} (h : ip_G M) : ip_sh M 9 = (0, 4, 1) := by unfold ip_sh; rw [h.1]; rfl
theorem gS_10 {M : ip_H} (h : ip_G M) : ip_sh M 10 = (1, 1, 9) := by unfold ip_sh; rw [h.1]; rfl
theorem gS_11 {M : ip_H} (h : ip_G M) : ip_sh M 11 = (0, 4, 1) := by unfold ip_sh; rw [h.1]; rfl
theorem gS_12 {M : ip_H} (h : ip_G M) : ip_sh M 12 = (1, 1, 9) := by unfold ip_sh; rw [h.1]; rfl
theorem gS_13 {M : ip_H} (h : ip_G M) : ip_sh M 13 = (0, 8, 4) := by unfold ip_sh; rw [h.1]; rfl
theorem gS_14 {M : ip_H} (h : ip_G M) : ip_sh M 14 = (0, 8, 4) := by unfold ip_sh; rw [h.1]; rfl
theorem gS_15 {M : ip_H} (h : ip_G M) : ip_sh M 15 = (0, 8, 4) := by unfold ip_sh; rw [h.1]; rfl
theorem gS_16 {M : ip_H} (h : ip_G M) : ip_sh M 16 = (0, 8, 4) := by unfold ip_sh; rw [h.1]; rfl
theorem gS_17 {M : ip_H} (h : ip_G M) : ip_sh M 17 = (0, 9, 2) := by unfold ip_sh; rw [h.1]; rfl
theorem gS_18 {M : ip_H} (h : ip_G M) : ip_sh M 18 = (1, 2, 120) := by unfold ip_sh; rw [h.1]; rfl
theorem gS_19 {M : ip_H} (h : ip_G M) : ip_sh M 19 = (0, 6, 5) := by unfold ip_sh; rw [h.1]; rfl
theorem gS_20 {M : ip_H} (h : ip_G M) : ip_sh M 20 = (1, 2, 200) := by unfold ip_sh; rw [h.1]; rfl
theorem gS_21 {M : ip_H} (h : ip_G M) : ip_sh M 21 = (0, 9, 2) := by unfold ip_sh; rw [h.1]; rfl
theorem gS_22 {M : ip_H} (h : ip_G M) : ip_sh M 22 = (1, 2, 120) := by unfold ip_sh; rw [h.1]; rfl
theorem gS_23 {M : ip_H} (h : ip_G M) : ip_sh M 23 = (0, 3, 6) := by unfold ip_sh; rw [h.1]; rfl
theorem gS_24 {M : ip_H} (h : ip_G M) : ip_sh M 24 = (1, 5, 8) := by unfold ip_sh; rw [h.1]; rfl
theorem gS_25 {M : ip_H} (h : ip_G M) : ip_sh M 25 = (1, 0, 8) := by unfold ip_sh; rw [h.1]; rfl
theorem gS_26 {M : ip_H} (h : ip_G M) : ip_sh M 26 = (1, 5, 2) := by unfold ip_sh; rw [h.1]; rfl
theorem gS_27 {M : ip_H} (h : ip_G M) : ip_sh M 27 = (1, 3, 2) := by unfold ip_sh; rw [h.1]; rfl
theorem gS_28 {M : ip_H} (h : ip_G M) : ip_sh M 28 = (0, 5, 8) := by unfold ip_sh; rw [h.1]; rfl
theorem gS_29 {M : ip_H} (h : ip_G M) : ip_sh M 29 = (1, 0, 24) := by unfold ip_sh; rw [h.1]; rfl
theorem gS_30 {M : ip_H} (h : ip_G M) : ip_sh M 30 = (0, 9, 2) := by unfold ip_sh; rw [h.1]; rfl
theorem gS_31 {M : ip_H} (h : ip_G M) : ip_sh M 31 = (1, 2, 120) := by unfold ip_sh; rw [h.1]; rfl
theorem gS_32 {M : ip_H} (h : ip_G M) : ip_sh M 32 = (1, 0, 8) := by unfold ip_sh; rw [h.1]; rfl
theorem gS_33 {M : ip_H} (h : ip_G M) : ip_sh M 33 = (0, 5, 8) := by unfold ip_sh; rw [h.1]; rfl
theorem gS_34 {M : ip_H} (h : ip_G M) : ip_sh M 34 = (1, 0, 24) := by unfold ip_sh; rw [h.1]; rfl
theorem gS_35 {M : ip_H} (h : ip_G M) : ip_sh M 35 = (0, 9, 2) := by unfold ip_sh; rw [h.1]; rfl
theorem gS_36 {M : ip_H} (h : ip_G M) : ip_sh M 36 = (1, 2, 120) := by unfold ip_sh; rw [h.1]; rfl
theorem gS_37 {M : ip_H} (h : ip_G M) : ip_sh M 37 = (1, 0, 8) := by unfold ip_sh; rw [h.1]; rfl
theorem gS_38 {M : ip_H} (h : ip_G M) : ip_sh M 38 = (0, 5, 8) := by unfold ip_sh; rw [h.1]; rfl
theorem gS_39 {M : ip_H} (h : ip_G M) : ip_sh M 39 = (1, 0, 24) := by unfold ip_sh; rw [h.1]; rfl
theorem gS_40 {M : ip_H} (h : ip_G M) : ip_sh M 40 = (0, 9, 2) := by unfold ip_sh; rw [h.1]; rfl
theorem gS_41 {M : ip_H} (h : ip_G M) : ip_sh M 41 = (1, 2, 120) := by unfold ip_sh; rw [h.1]; rfl
theorem gS_42 {M : ip_H} (h : ip_G M) : ip_sh M 42 = (1, 0, 8) := by unfold ip_sh; rw [h.1]; rfl
theorem gS_43 {M : ip_H} (h : ip_G M) : ip_sh M 43 = (0, 5, 8) := by unfold ip_sh; rw [h.1]; rfl
theorem gS_44 {M : ip_H} (h : ip_G M) : ip_sh M 44 = (1, 0, 24) := by unfold ip_sh; rw [h.1]; rfl
theorem gS_45 {M : ip_H} (h : ip_G M) : ip_sh M 45 = (0, 9, 2) := by unfold ip_sh; rw [h.1]; rfl
theorem gS_46 {M : ip_H} (h : ip_G M) : ip_sh M 46 = (1, 2, 120) := by unfold ip_sh; rw [h.1]; rfl
theorem gS_47 {M : ip_H} (h : ip_G M) : ip_sh M 47 = (1, 0, 8) := by unfold ip_sh; rw [h.1]; rfl
theorem gS_48 {M : ip_H} (h : ip_G M) : ip_sh M 48 = (0, 5, 8) := by unfold ip_sh; rw [h.1]; rfl
theorem gS_49 {M : ip_H} (h : ip_G M) : ip_sh M 49 = (1, 0, 24) := by unfold ip_sh; rw [h.1]; rfl
theorem gS_50 {M : ip_H} (h : ip_G M) : ip_sh M 50 = (0, 9, 2) := by unfold ip_sh; rw [h.1]; rfl
theorem gS_51 {M : ip_H} (h : ip_G M) : ip_sh M 51 = (1, 2, 120) := by unfold ip_sh; rw [h.1]; rfl
theorem gS_52 {M : ip_H} (h : ip_G M) : ip_sh M 52 = (1, 0, 8) := by unfold ip_sh; rw [h.1]; rfl
theorem gS_53 {M : ip_H} (h : ip_G M) : ip_sh M 53 = (0, 5, 8) := by unfold ip_sh; rw [h.1]; rfl
theorem gS_54 {M : ip_H} (h : ip_G M) : ip_sh M 54 = (1, 0, 24) := by unfold ip_sh; rw [h.1]; rfl
theorem gS_55 {M : ip_H} (h : ip_G M) : ip_sh M 55 = (0, 9, 2) := by unfold ip_sh; rw [h.1]; rfl
theorem gS_56 {M : ip_H} (h : ip_G M) : ip_sh M 56 = (1, 2, 120) := by unfold ip_sh; rw [h.1]; rfl
theorem gS_57 {M : ip_H} (h : ip_G M) : ip_sh M 57 = (1, 0, 8) := by unfold ip_sh; rw [h.1]; rfl
theorem gS_58 {M : ip_H} (h : ip_G M) : ip_sh M 58 = (0, 5, 8) := by unfold ip_sh; rw [h.1]; rfl
theorem gS_59 {M : ip_H} (h : ip_G M) : ip_sh M 59 = (1, 0, 24) := by unfold ip_sh; rw [h.1]; rfl
theorem gS_60 {M : ip_H} (h : ip_G M) : ip_sh M 60 = (0, 9, 2) := by unfold ip_sh; rw [h.1]; rfl
theorem gS_61 {M : ip_H} (h : ip_G M) : ip_sh M 61 = (1, 2, 120) := by unfold ip_sh; rw [h.1]; rfl
theorem gS_62 {M : ip_H} (h : ip_G M) : ip_sh M 62 = (1, 0, 8) := by unfold ip_sh; rw [h.1]; rfl
theorem gS_63 {M : ip_H} (h : ip_G M) : ip_sh M 63 = (0, 5, 8) := by unfold ip_sh; rw [h.1]; rfl
theorem gS_64 {M : ip_H} (h : ip_G M) : ip_sh M 64 = (1, 0, 24) := by unfold ip_sh; rw [h.1]; rfl
theorem gS_65 {M : ip_H} (h : ip_G M) : ip_sh M 65 = (0, 9, 2) := by unfold ip_sh; rw [h.1]; rfl
theorem gS_66 {M : ip_H} (h : ip_G M) : ip_sh M 66 = (1, 2, 120) := by unfold ip_sh; rw [h.1]; rfl
theorem gS_67 {M : ip_H} (h : ip_G M) : ip_sh M 67 = (1, 0, 8) := by unfold ip_sh; rw [h.1]; rfl
theorem gS_68 {M : ip_H} (h : ip_G M) : ip_sh M 68 = (0, 5, 8) := by unfold ip_sh; rw [h.1]; rfl
theorem gS_69 {M : ip_H} (h : ip_G M) : ip_sh M 69 = (1, 0, 24) := by unfold ip_sh; rw [h.1]; rfl
theorem gS_70 {M : ip_H} (h : ip_G M) : ip_sh M 70 = (0, 9, 2) := by unfold ip_sh; rw [h.1]; rfl
theorem gS_71 {M : ip_H} (h : ip_G M) : ip_sh M 71 = (1, 2, 120) := by unfold ip_sh; rw [h.1]; rfl
theorem gS_72 {M : ip_H} (h : ip_G M) : ip_sh M 72 = (1, 0, 8) := by unfold ip_sh; rw [h.1]; rfl
theorem gS_73 {M : ip_H} (h : ip_G M) : ip_sh M 73 = (0, 5, 8) := by unfold ip_sh; rw [h.1]; rfl
theorem gS_74 {M : ip_H} (h : ip_G M) : ip_sh M 74 = (1, 0, 24) := by unfold ip_sh; rw [h.1]; rfl
theorem gS_75 {M : ip_H} (h : ip_G M) : ip_sh M 75 = (0, 9, 2) := by unfold ip_sh; rw [h.1]; rfl
theorem gS_76 {M : ip_H} (h : ip_G M) : ip_sh M 76 = (1, 2, 120) := by unfold ip_sh; rw [h.1]; rfl
theorem gS_77 {M : ip_H} (h : ip_G M) : ip_sh M 77 = (1, 0, 8) := by unfold ip_sh; rw [h.1]; rfl
theorem gS_78 {M : ip_H} (h : ip_G M) : ip_sh M 78 = (0, 7, 2) := by unfold ip_sh; rw [h.1]; rfl
theorem gS_79 {M : ip_H} (h : ip_G M) : ip_sh M 79 = (1, 0, 6) := by unfold ip_sh; rw [h.1]; rfl
theorem gS_80 {M : ip_H} (h : ip_G M) : ip_sh M 80 = (0, 1, 15) := by unfold ip_sh; rw [h.1]; rfl
theorem gS_81 {M : ip_H} (h : ip_G M) : ip_sh M 81 = (1, 0, 610) := by unfold ip_sh; rw [h.1]; rfl
theorem gS_82 {M : ip_H} (h : ip_G M) : ip_sh M 82 = (1, 2, 61) := by unfold ip_sh; rw [h.1]; rfl
theorem gS_83 {M : ip_H} (h : ip_G M) : ip_sh M 83 = (0, 4, 1) := by unfold ip_sh; rw [h.1]; rfl
theorem gS_84 {M : ip_H} (h : ip_G M) : ip_sh M 84 = (1, 1, 9) := by unfold ip_sh; rw [h.1]; rfl
theorem gS_85 {M : ip_H} (h : ip_G M) : ip_sh M 85 = (0, 4, 1) := by unfold ip_sh; rw [h.1]; rfl
theorem gS_86 {M : ip_H} (h : ip_G M) : ip_sh M 86 = (1, 1, 9) := by unfold ip_sh; rw [h.1]; rfl
theorem gS_87 {M : ip_H} (h : ip_G M) : ip_sh M 87 = (0, 8, 4) := by unfold ip_sh; rw [h.1]; rfl
theorem gS_88 {M : ip_H} (h : ip_G M) : ip_sh M 88 = (0, 8, 4) := by unfold ip_sh; rw [h.1]; rfl
theorem gS_89 {M : ip_H} (h : ip_G M) : ip_sh M 89 = (0, 8, 4) := by unfold ip_sh; rw [h.1]; rfl
theorem gS_90 {M : ip_H} (h : ip_G M) : ip_sh M 90 = (0, 8, 4) := by unfold ip_sh; rw [h.1]; rfl
theorem gS_91 {M : ip_H} (h : ip_G M) : ip_sh M 91 = (0, 2, 5) := by unfold ip_sh; rw [h.1]; rfl
theorem gS_92 {M : ip_H} (h : ip_G M) : ip_sh M 92 = (0, 4, 1) := by unfold ip_sh; rw [h.1]; rfl
theorem gS_93 {M : ip_H} (h : ip_G M) : ip_sh M 93 = (1, 1, 9) := by unfold ip_sh; rw [h.1]; rfl
theorem gS_94 {M : ip_H} (h : ip_G M) : ip_sh M 94 = (0, 8, 4) := by unfold ip_sh; rw [h.1]; rfl
theorem gS_95 {M : ip_H} (h : ip_G M) : ip_sh M 95 = (0, 4, 1) := by unfold ip_sh; rw [h.1]; rfl
theorem gS_96 {M : ip_H} (h : ip_G M) : ip_sh M 96 = (1, 1, 9) := by unfold ip_sh; rw [h.1]; rfl
theorem gS_97 {M : ip_H} (h : ip_G M) : ip_sh M 97 = (0, 0, 2) := by unfold ip_sh; rw [h.1]; rfl
theorem gS_98 {M : ip_H} (h : ip_G M) : ip_sh M 98 = (1, 1, 8) := by unfold ip_sh; rw [h.1]; rfl
theorem gS_99 {M : ip_H} (h : ip_G M) : ip_sh M 99 = (1, 0, 4) := by unfold ip_sh; rw [h.1]; rfl
theorem gS_100 {M : ip_H} (h : ip_G M) : ip_sh M 100 = (0, 8, 4) := by unfold ip_sh; rw [h.1]; rfl
theorem gS_101 {M : ip_H} (h : ip_G M) : ip_sh M 101 = (0, 8, 4) := by unfold ip_sh; rw [h.1]; rfl
theorem gS_102 {M : ip_H} (h : ip_G M) : ip_sh M 102 = (0, 8, 4) := by unfold ip_sh; rw [h.1]; rfl
theorem gS_103 {M : ip_H} (h : ip_G M) : ip_sh M 103 = (0, 8, 4) := by unfold ip_sh; rw [h.1]; rfl
theorem gS_104 {M : ip_H} (h : ip_G M) : ip_sh M 104 = (0, 8, 4) := by unfold ip_sh; rw [h.1]; rfl
theorem gS_105 {M : ip_H} (h : ip_G M) : ip_sh M 105 = (0, 8, 4) := by unfold ip_sh; rw [h.1]; rfl
theorem gS_106 {M : ip_H} (h : ip_G M) : ip_sh M 106 = (0, 8, 4) := by unfold ip_sh; rw [h.1]; rfl
theorem gS_107 {M : ip_H} (h : ip_G M) : ip_sh M 107 = (0, 8, 4) := by unfold ip_sh; rw [h.1]; rfl
theorem gS_108 {M : ip_H} (h : ip_G M) : ip_sh M 108 = (0, 11, 48) := by unfold ip_sh; rw [h.1]; rfl
theorem gS_109 {M : ip_H} (h : ip_G M) : ip_sh M 109 = (1, 0, 821) := by unfold ip_sh; rw [h.1]; rfl
theorem gS_110 {M : ip_H} (h : ip_G M) : ip_sh M 110 = (1, 1, 9) := by unfold ip_sh; rw [h.1]; rfl
theorem gS_111 {M : ip_H} (h : ip_G M) : ip_sh M 111 = (1, 0, 7) := by unfold ip_sh; rw [h.1]; rfl
theorem gS_112 {M : ip_H} (h : ip_G M) : ip_sh M 112 = (1, 0, 6568) := by unfold ip_sh; rw [h.1]; rfl
theorem gS_113 {M : ip_H} (h : ip_G M) : ip_sh M 113 = (1, 0, 8) := by unfold ip_sh; rw [h.1]; rfl
theorem gS_114 {M : ip_H} (h : ip_G M) : ip_sh M 114 = (1, 0, 1642) := by unfold ip_sh; rw [h.1]; rfl
theorem gS_115 {M : ip_H} (h : ip_G M) : ip_sh M 115 = (1, 1, 72) := by unfold ip_sh; rw [h.1]; rfl
theorem gS_116 {M : ip_H} (h : ip_G M) : ip_sh M 116 = (1, 1, 18) := by unfold ip_sh; rw [h.1]; rfl
theorem gS_117 {M : ip_H} (h : ip_G M) : ip_sh M 117 = (1, 3, 2) := by unfold ip_sh; rw [h.1]; rfl
theorem gS_118 {M : ip_H} (h : ip_G M) : ip_sh M 118 = (1, 1, 9) := by unfold ip_sh; rw [h.1]; rfl
theorem gS_119 {M : ip_H} (h : ip_G M) : ip_sh M 119 = (1, 0, 8) := by unfold ip_sh; rw [h.1]; rfl
theorem gS_120 {M : ip_H} (h : ip_G M) : ip_sh M 120 = (1, 0, 200) := by unfold ip_sh; rw [h.1]; rfl
theorem gS_121 {M : ip_H} (h : ip_G M) : ip_sh M 121 = (1, 0, 120) := by unfold ip_sh; rw [h.1]; rfl
theorem gS_122 {M : ip_H} (h : ip_G M) : ip_sh M 122 = (1, 1, 200) := by unfold ip_sh; rw [h.1]; rfl
theorem gS_123 {M : ip_H} (h : ip_G M) : ip_sh M 123 = (1, 1, 9) := by unfold ip_sh; rw [h.1]; rfl
theorem gS_124 {M : ip_H} (h : ip_G M) : ip_sh M 124 = (1, 0, 4) := by unfold ip_sh; rw [h.1]; rfl
theorem gS_125 {M : ip_H} (h : ip_G M) : ip_sh M 125 = (1, 0, 4) := by unfold ip_sh; rw [h.1]; rfl
theorem gS_126 {M : ip_H} (h : ip_G M) : ip_sh M 126 = (1, 0, 821) := by unfold ip_sh; rw [h.1]; rfl
theorem gS_127 {M : ip_H} (h : ip_G M) : ip_sh M 127 = (1, 1, 9) := by unfold ip_sh; rw [h.1]; rfl
theorem gR_0_0 {M : ip_H} (h : ip_G M) : M.2.2.2 0 0 = some 1 := (h.2 0 0 (by decide) (by decide)).trans rfl
theorem gR_0_1 {M : ip_H} (h : ip_G M) : M.2.2.2 0 1 = some 5 := (h.2 0 1 (by decide) (by decide)).trans rfl
theorem gR_0_2 {M : ip_H} (h : ip_G M) : M.2.2.2 0 2 = some 6 := (h.2 0 2 (by decide) (by decide)).trans rfl
theorem gR_0_3 {M : ip_H} (h : ip_G M) : M.2.2.2 0 3 = some 17 := (h.2 0 3 (by decide) (by decide)).trans rfl
theorem gR_0_4 {M : ip_H} (h : ip_G M) : M.2.2.2 0 4 = some 19 := (h.2 0 4 (by decide) (by decide)).trans rfl
theorem gR_0_5 {M : ip_H} (h : ip_G M) : M.2.2.2 0 5 = some 23 := (h.2 0 5 (by decide) (by decide)).trans rfl
theorem gR_0_6 {M : ip_H} (h : ip_G M) : M.2.2.2 0 6 = some 78 := (h.2 0 6 (by decide) (by decide)).trans rfl
theorem gR_0_8 {M : ip_H} (h : ip_G M) : M.2.2.2 0 8 = some 80 := (h.2 0 8 (by decide) (by decide)).trans rfl
theorem gR_0_9 {M : ip_H} (h : ip_G M) : M.2.2.2 0 9 = some 91 := (h.2 0 9 (by decide) (by decide)).trans rfl
theorem gR_0_10 {M : ip_H} (h : ip_G M) : M.2.2.2 0 10 = some 95 := (h.2 0 10 (by decide) (by decide)).trans rfl
theorem gR_0_11 {M : ip_H} (h : ip_G M) : M.2.2.2 0 11 = some 97 := (h.2 0 11 (by decide) (by decide)).trans rfl
theorem gR_0_12 {M : ip_H} (h : ip_G M) : M.2.2.2 0 12 = some 100 := (h.2 0 12 (by decide) (by decide)).trans rfl
theorem gR_0_13 {M : ip_H} (h : ip_G M) : M.2.2.2 0 13 = some 101 := (h.2 0 13 (by decide) (by decide)).trans rfl
theorem gR_1_3 {M : ip_H} (h : ip_G M) : M.2.2.2 1 3 = some 2 := (h.2 1 3 (by decide) (by decide)).trans rfl
theorem gR_1_4 {M : ip_H} (h : ip_G M) : M.2.2.2 1 4 = some 4 := (h.2 1 4 (by decide) (by decide)).trans rfl
theorem gR_2_0 {M : ip_H} (h : ip_G M) : M.2.2.2 2 0 = some 3 := (h.2 2 0 (by decide) (by decide)).trans rfl
theorem gR_5_0 {M : ip_H} (h : ip_G M) : M.2.2.2 5 0 = some 102 := (h.2 5 0 (by decide) (by decide)).trans rfl
theorem gR_5_1 {M : ip_H} (h : ip_G M) : M.2.2.2 5 1 = some 103 := (h.2 5 1 (by decide) (by decide)).trans rfl
theorem gR_5_2 {M : ip_H} (h : ip_G M) : M.2.2.2 5 2 = some 104 := (h.2 5 2 (by decide) (by decide)).trans rfl
theorem gR_5_3 {M : ip_H} (h : ip_G M) : M.2.2.2 5 3 = some 105 := (h.2 5 3 (by decide) (by decide)).trans rfl
theorem gR_5_4 {M : ip_H} (h : ip_G M) : M.2.2.2 5 4 = some 106 := (h.2 5 4 (by decide) (by decide)).trans rfl
theorem gR_5_5 {M : ip_H} (h : ip_G M) : M.2.2.2 5 5 = some 107 := (h.2 5 5 (by decide) (by decide)).trans rfl
theorem gR_6_0 {M : ip_H} (h : ip_G M) : M.2.2.2 6 0 = some 7 := (h.2 6 0 (by decide) (by decide)).trans rfl
theorem gR_6_1 {M : ip_H} (h : ip_G M) : M.2.2.2 6 1 = some 8 := (h.2 6 1 (by decide) (by decide)).trans rfl
theorem gR_6_2 {M : ip_H} (h : ip_G M) : M.2.2.2 6 2 = some 9 := (h.2 6 2 (by decide) (by decide)).trans rfl
theorem gR_6_7 {M : ip_H} (h : ip_G M) : M.2.2.2 6 7 = some 11 := (h.2 6 7 (by decide) (by decide)).trans rfl
theorem gR_6_8 {M : ip_H} (h : ip_G M) : M.2.2.2 6 8 = some 13 := (h.2 6 8 (by decide) (by decide)).trans rfl
theorem gR_6_9 {M : ip_H} (h : ip_G M) : M.2.2.2 6 9 = some 14 := (h.2 6 9 (by decide) (by decide)).trans rfl
theorem gR_6_10 {M : ip_H} (h : ip_G M) : M.2.2.2 6 10 = some 15 := (h.2 6 10 (by decide) (by decide)).trans rfl
theorem gR_6_11 {M : ip_H} (h : ip_G M) : M.2.2.2 6 11 = some 16 := (h.2 6 11 (by decide) (by decide)).trans rfl
theorem gR_9_0 {M : ip_H} (h : ip_G M) : M.2.2.2 9 0 = some 10 := (h.2 9 0 (by decide) (by decide)).trans rfl
theorem gR_11_0 {M : ip_H} (h : ip_G M) : M.2.2.2 11 0 = some 12 := (h.2 11 0 (by decide) (by decide)).trans rfl
theorem gR_17_0 {M : ip_H} (h : ip_G M) : M.2.2.2 17 0 = some 18 := (h.2 17 0 (by decide) (by decide)).trans rfl
theorem gR_19_0 {M : ip_H} (h : ip_G M) : M.2.2.2 19 0 = some 20 := (h.2 19 0 (by decide) (by decide)).trans rfl
theorem gR_19_1 {M : ip_H} (h : ip_G M) : M.2.2.2 19 1 = some 21 := (h.2 19 1 (by decide) (by decide)).trans rfl
theorem gR_21_0 {M : ip_H} (h : ip_G M) : M.2.2.2 21 0 = some 22 := (h.2 21 0 (by decide) (by decide)).trans rfl
theorem gR_23_0 {M : ip_H} (h : ip_G M) : M.2.2.2 23 0 = some 24 := (h.2 23 0 (by decide) (by decide)).trans rfl
theorem gR_23_1 {M : ip_H} (h : ip_G M) : M.2.2.2 23 1 = some 25 := (h.2 23 1 (by decide) (by decide)).trans rfl
theorem gR_23_2 {M : ip_H} (h : ip_G M) : M.2.2.2 23 2 = some 26 := (h.2 23 2 (by decide) (by decide)).trans rfl
theorem gR_23_3 {M : ip_H} (h : ip_G M) : M.2.2.2 23 3 = some 27 := (h.2 23 3 (by decide) (by decide)).trans rfl
theorem gR_24_0 {M : ip_H} (h : ip_G M) : M.2.2.2 24 0 = some 28 := (h.2 24 0 (by decide) (by decide)).trans rfl
theorem gR_24_1 {M : ip_H} (h : ip_G M) : M.2.2.2 24 1 = some 33 := (h.2 24 1 (by decide) (by decide)).trans rfl
theorem gR_24_2 {M : ip_H} (h : ip_G M) : M.2.2.2 24 2 = some 38 := (h.2 24 2 (by decide) (by decide)).trans rfl
theorem gR_24_3 {M : ip_H} (h : ip_G M) : M.2.2.2 24 3 = some 43 := (h.2 24 3 (by decide) (by decide)).trans rfl
theorem gR_24_4 {M : ip_H} (h : ip_G M) : M.2.2.2 24 4 = some 48 := (h.2 24 4 (by decide) (by decide)).trans rfl
theorem gR_24_5 {M : ip_H} (h : ip_G M) : M.2.2.2 24 5 = some 53 := (h.2 24 5 (by decide) (by decide)).trans rfl
theorem gR_24_6 {M : ip_H} (h : ip_G M) : M.2.2.2 24 6 = some 58 := (h.2 24 6 (by decide) (by decide)).trans rfl
theorem gR_24_7 {M : ip_H} (h : ip_G M) : M.2.2.2 24 7 = some 63 := (h.2 24 7 (by decide) (by decide)).trans rfl
theorem gR_26_0 {M : ip_H} (h : ip_G M) : M.2.2.2 26 0 = some 68 := (h.2 26 0 (by decide) (by decide)).trans rfl
theorem gR_26_1 {M : ip_H} (h : ip_G M) : M.2.2.2 26 1 = some 73 := (h.2 26 1 (by decide) (by decide)).trans rfl
theorem gR_28_3 {M : ip_H} (h : ip_G M) : M.2.2.2 28 3 = some 29 := (h.2 28 3 (by decide) (by decide)).trans rfl
theorem gR_28_4 {M : ip_H} (h : ip_G M) : M.2.2.2 28 4 = some 30 := (h.2 28 4 (by decide) (by decide)).trans rfl
theorem gR_28_5 {M : ip_H} (h : ip_G M) : M.2.2.2 28 5 = some 32 := (h.2 28 5 (by decide) (by decide)).trans rfl
theorem gR_30_0 {M : ip_H} (h : ip_G M) : M.2.2.2 30 0 = some 31 := (h.2 30 0 (by decide) (by decide)).trans rfl
theorem gR_33_3 {M : ip_H} (h : ip_G M) : M.2.2.2 33 3 = some 34 := (h.2 33 3 (by decide) (by decide)).trans rfl
theorem gR_33_4 {M : ip_H} (h : ip_G M) : M.2.2.2 33 4 = some 35 := (h.2 33 4 (by decide) (by decide)).trans rfl
theorem gR_33_5 {M : ip_H} (h : ip_G M) : M.2.2.2 33 5 = some 37 := (h.2 33 5 (by decide) (by decide)).trans rfl
theorem gR_35_0 {M : ip_H} (h : ip_G M) : M.2.2.2 35 0 = some 36 := (h.2 35 0 (by decide) (by decide)).trans rfl
theorem gR_38_3 {M : ip_H} (h : ip_G M) : M.2.2.2 38 3 = some 39 := (h.2 38 3 (by decide) (by decide)).trans rfl
theorem gR_38_4 {M : ip_H} (h : ip_G M) : M.2.2.2 38 4 = some 40 := (h.2 38 4 (by decide) (by decide)).trans rfl
theorem gR_38_5 {M : ip_H} (h : ip_G M) : M.2.2.2 38 5 = some 42 := (h.2 38 5 (by decide) (by decide)).trans rfl
theorem gR_40_0 {M : ip_H} (h : ip_G M) : M.2.2.2 40 0 = some 41 := (h.2 40 0 (by decide) (by decide)).trans rfl
theorem gR_43_3 {M : ip_H} (h : ip_G M) : M.2.2.2 43 3 = some 44 := (h.2 43 3 (by decide) (by decide)).trans rfl
theorem gR_43_4 {M : ip_H} (h : ip_G M) : M.2.2.2 43 4 = some 45 := (h.2 43 4 (by decide) (by decide)).trans rfl
theorem gR_43_5 {M : ip_H} (h : ip_G M) : M.2.2.2 43 5 = some 47 := (h.2 43 5 (by decide) (by decide)).trans rfl
theorem gR_45_0 {M : ip_H} (h : ip_G M) : M.2.2.2 45 0 = some 46 := (h.2 45 0 (by decide) (by decide)).trans rfl
theorem gR_48_3 {M : ip_H} (h : ip_G M) : M.2.2.2 48 3 = some 49 := (h.2 48 3 (by decide) (by decide)).trans rfl
theorem gR_48_4 {M : ip_H} (h : ip_G M) : M.2.2.2 48 4 = some 50 := (h.2 48 4 (by decide) (by decide)).trans rfl
theorem gR_48_5 {M : ip_H} (h : ip_G M) : M.2.2.2 48 5 = some 52 := (h.2 48 5 (by decide) (by decide)).trans rfl
theorem gR_50_0 {M : ip_H} (h : ip_G M) : M.2.2.2 50 0 = some 51 := (h.2 50 0 (by decide) (by decide)).trans rfl
theorem gR_53_3 {M : ip_H} (h : ip_G M) : M.2.2.2 53 3 = some 54 := (h.2 53 3 (by decide) (by decide)).trans rfl
theorem gR_53_4 {M : ip_H} (h : ip_G M) : M.2.2.2 53 4 = some 55 := (h.2 53 4 (by decide) (by decide)).trans rfl
theorem gR_53_5 {M : ip_H} (h : ip_G M) : M.2.2.2 53 5 = some 57 := (h.2 53 5 (by decide) (by decide)).trans rfl
theorem gR_55_0 {M : ip_H} (h : ip_G M) : M.2.2.2 55 0 = some 56 := (h.2 55 0 (by decide) (by decide)).trans rfl
theorem gR_58_3 {M : ip_H} (h : ip_G M) : M.2.2.2 58 3 = some 59 := (h.2 58 3 (by decide) (by decide)).trans rfl
theorem gR_58_4 {M : ip_H} (h : ip_G M) : M.2.2.2 58 4 = some 60 := (h.2 58 4 (by decide) (by decide)).trans rfl
theorem gR_58_5 {M : ip_H} (h : ip_G M) : M.2.2.2 58 5 = some 62 := (h.2 58 5 (by decide) (by decide)).trans rfl
theorem gR_60_0 {M : ip_H} (h : ip_G M) : M.2.2.2 60 0 = some 61 := (h.2 60 0 (by decide) (by decide)).trans rfl
theorem gR_63_3 {M : ip_H} (h : ip_G M) : M.2.2.2 63 3 = some 64 := (h.2 63 3 (by decide) (by decide)).trans rfl
theorem gR_63_4 {M : ip_H} (h : ip_G M) : M.2.2.2 63 4 = some 65 := (h.2 63 4 (by decide) (by decide)).trans rfl
theorem gR_63_5 {M : ip_H} (h : ip_G M) : M.2.2.2 63 5 = some 67 := (h.2 63 5 (by decide) (by decide)).trans rfl
theorem gR_65_0 {M : ip_H} (h : ip_G M) : M.2.2.2 65 0 = some 66 := (h.2 65 0 (by decide) (by decide)).trans rfl
theorem gR_68_3 {M : ip_H} (h : ip_G M) : M.2.2.2 68 3 = some 69 := (h.2 68 3 (by decide) (by decide)).trans rfl
theorem gR_68_4 {M : ip_H} (h : ip_G M) : M.2.2.2 68 4 = some 70 := (h.2 68 4 (by decide) (by decide)).trans rfl
theorem gR_68_5 {M : ip_H} (h : ip_G M) : M.2.2.2 68 5 = some 72 := (h.2 68 5 (by decide) (by decide)).trans rfl
theorem gR_70_0 {M : ip_H} (h : ip_G M) : M.2.2.2 70 0 = some 71 := (h.2 70 0 (by decide) (by decide)).trans rfl
theorem gR_73_3 {M : ip_H} (h : ip_G M) : M.2.2.2 73 3 = some 74 := (h.2 73 3 (by decide) (by decide)).trans rfl
theorem gR_73_4 {M : ip_H} (h : ip_G M) : M.2.2.2 73 4 = some 75 := (h.2 73 4 (by decide) (by decide)).trans rfl
theorem gR_73_5 {M : ip_H} (h : ip_G M) : M.2.2.2 73 5 = some 77 := (h.2 73 5 (by decide) (by decide)).trans rfl
theorem gR_75_0 {M : ip_H} (h : ip_G M) : M.2.2.2 75 0 = some 76 := (h.2 75 0 (by decide) (by decide)).trans rfl
theorem gR_78_0 {M : ip_H} (h : ip_G M) : M.2.2.2 78 0 = some 79 := (h.2 78 0 (by decide) (by decide)).trans rfl
theorem gR_80_0 {M : ip_H} (h : ip_G M) : M.2.2.2 80 0 = some 81 := (h.2 80 0 (by decide) (by decide)).trans rfl
theorem gR_80_1 {M : ip_H} (h : ip_G M) : M.2.2.2 80 1 = some 82 := (h.2 80 1 (by decide) (by decide)).trans rfl
theorem gR_80_2 {M : ip_H} (h : ip_G M) : M.2.2.2 80 2 = some 83 := (h.2 80 2 (by decide) (by decide)).trans rfl
theorem gR_80_7 {M : ip_H} (h : ip_G M) : M.2.2.2 80 7 = some 85 := (h.2 80 7 (by decide) (by decide)).trans rfl
theorem gR_80_8 {M : ip_H} (h : ip_G M) : M.2.2.2 80 8 = some 87 := (h.2 80 8 (by decide) (by decide)).trans rfl
theorem gR_80_9 {M : ip_H} (h : ip_G M) : M.2.2.2 80 9 = some 88 := (h.2 80 9 (by decide) (by decide)).trans rfl
theorem gR_80_10 {M : ip_H} (h : ip_G M) : M.2.2.2 80 10 = some 89 := (h.2 80 10 (by decide) (by decide)).trans rfl
theorem gR_80_11 {M : ip_H} (h : ip_G M) : M.2.2.2 80 11 = some 90 := (h.2 80 11 (by decide) (by decide)).trans rfl
theorem gR_83_0 {M : ip_H} (h : ip_G M) : M.2.2.2 83 0 = some 84 := (h.2 83 0 (by decide) (by decide)).trans rfl
theorem gR_85_0 {M : ip_H} (h : ip_G M) : M.2.2.2 85 0 = some 86 := (h.2 85 0 (by decide) (by decide)).trans rfl
theorem gR_91_3 {M : ip_H} (h : ip_G M) : M.2.2.2 91 3 = some 92 := (h.2 91 3 (by decide) (by decide)).trans rfl
theorem gR_91_4 {M : ip_H} (h : ip_G M) : M.2.2.2 91 4 = some 94 := (h.2 91 4 (by decide) (by decide)).trans rfl
theorem gR_92_0 {M : ip_H} (h : ip_G M) : M.2.2.2 92 0 = some 93 := (h.2 92 0 (by decide) (by decide)).trans rfl
theorem gR_95_0 {M : ip_H} (h : ip_G M) : M.2.2.2 95 0 = some 96 := (h.2 95 0 (by decide) (by decide)).trans rfl
theorem gR_97_0 {M : ip_H} (h : ip_G M) : M.2.2.2 97 0 = some 98 := (h.2 97 0 (by decide) (by decide)).trans rfl
theorem gR_97_1 {M : ip_H} (h : ip_G M) : M.2.2.2 97 1 = some 99 := (h.2 97 1 (by decide) (by decide)).trans rfl
theorem gR_108_1 {M : ip_H} (h : ip_G M) : M.2.2.2 108 1 = some 109 := (h.2 108 1 (by decide) (by decide)).trans rfl
theorem gR_108_2 {M : ip_H} (h : ip_G M) : M.2.2.2 108 2 = some 110 := (h.2 108 2 (by decide) (by decide)).trans rfl
theorem gR_108_5 {M : ip_H} (h : ip_G M) : M.2.2.2 108 5 = some 111 := (h.2 108 5 (by decide) (by decide)).trans rfl
theorem gR_108_6 {M : ip_H} (h : ip_G M) : M.2.2.2 108 6 = some 112 := (h.2 108 6 (by decide) (by decide)).trans rfl
theorem gR_108_7 {M : ip_H} (h : ip_G M) : M.2.2.2 108 7 = some 113 := (h.2 108 7 (by decide) (by decide)).trans rfl
theorem gR_108_8 {M : ip_H} (h : ip_G M) : M.2.2.2 108 8 = some 114 := (h.2 108 8 (by decide) (by decide)).trans rfl
theorem gR_108_9 {M : ip_H} (h : ip_G M) : M.2.2.2 108 9 = some 115 := (h.2 108 9 (by decide) (by decide)).trans rfl
theorem gR_108_10 {M : ip_H} (h : ip_G M) : M.2.2.2 108 10 = some 116 := (h.2 108 10 (by decide) (by decide)).trans rfl
theorem gR_108_11 {M : ip_H} (h : ip_G M) : M.2.2.2 108 11 = some 117 := (h.2 108 11 (by decide) (by decide)).trans rfl
theorem gR_108_28 {M : ip_H} (h : ip_G M) : M.2.2.2 108 28 = some 118 := (h.2 108 28 (by decide) (by decide)).trans rfl
theorem gR_108_30 {M : ip_H} (h : ip_G M) : M.2.2.2 108 30 = some 119 := (h.2 108 30 (by decide) (by decide)).trans rfl
theorem gR_108_31 {M : ip_H} (h : ip_G M) : M.2.2.2 108 31 = some 120 := (h.2 108 31 (by decide) (by decide)).trans rfl
theorem gR_108_39 {M : ip_H} (h : ip_G M) : M.2.2.2 108 39 = some 121 := (h.2 108 39 (by decide) (by decide)).trans rfl
theorem gR_108_42 {M : ip_H} (h : ip_G M) : M.2.2.2 108 42 = some 122 := (h.2 108 42 (by decide) (by decide)).trans rfl
theorem gR_108_43 {M : ip_H} (h : ip_G M) : M.2.2.2 108 43 = some 123 := (h.2 108 43 (by decide) (by decide)).trans rfl
theorem gR_108_44 {M : ip_H} (h : ip_G M) : M.2.2.2 108 44 = some 124 := (h.2 108 44 (by decide) (by decide)).trans rfl
theorem gR_108_45 {M : ip_H} (h : ip_G M) : M.2.2.2 108 45 = some 125 := (h.2 108 45 (by decide) (by decide)).trans rfl
theorem gR_108_46 {M : ip_H} (h : ip_G M) : M.2.2.2 108 46 = some 126 := (h.2 108 46 (by decide) (by decide)).trans rfl
theorem gR_108_47 {M : ip_H} (h : ip_G M) : M.2.2.2 108 47 = some 127 := (h.2 108 47 (by decide) (by decide)).trans rfl
theorem ip_G_uI (M : ip_H) (k j : Nat) (x : Int32) : ip_G (ip_uI M k j x) = ip_G M := rfl
theorem ip_G_uL (M : ip_H) (k j : Nat) (x : Int64) : ip_G (ip_uL M k j x) = ip_G M := rfl
theorem ip_G_cpI (M : ip_H) (a b c d n : Nat) : ip_G (ip_cpI M a b c d n) = ip_G M := rfl
theorem ip_G_cpL (M : ip_H) (a b c d n : Nat) : ip_G (ip_cpL M a b c d n) = ip_G M := rfl
theorem ip_cpI_I (M : ip_H) (a b c d n p q : Nat) : (ip_cpI M a b c d n).2.1 p q = if p = b then va_cpy (M.2.1 a) (M.2.1 b) c d n q else M.2.1 p q := by
  unfold ip_cpI
  by_cases h : p = b
  · simp only [h, if_true]
  · simp only [h, if_false]
theorem ip_cpI_L (M : ip_H) (a b c d n : Nat) : (ip_cpI M a b c d n).2.2.1 = M.2.2.1 := rfl
theorem ip_cpI_R (M : ip_H) (a b c d n : Nat) : (ip_cpI M a b c d n).2.2.2 = M.2.2.2 := rfl
theorem ip_cpI_sh (M : ip_H) (a b c d n p : Nat) : ip_sh (ip_cpI M a b c d n) p = ip_sh M p := rfl
theorem ip_cpL_I (M : ip_H) (a b c d n : Nat) : (ip_cpL M a b c d n).2.1 = M.2.1 := rfl
theorem ip_cpL_L (M : ip_H) (a b c d n p q : Nat) : (ip_cpL M a b c d n).2.2.1 p q = if p = b then va_cpy (M.2.2.1 a) (M.2.2.1 b) c d n q else M.2.2.1 p q := by
  unfold ip_cpL
  by_cases h : p = b
  · simp only [h, if_true]
  · simp only [h, if_false]
theorem ip_cpL_R (M : ip_H) (a b c d n : Nat) : (ip_cpL M a b c d n).2.2.2 = M.2.2.2 := rfl
theorem ip_cpL_sh (M : ip_H) (a b c d n p : Nat) : ip_sh (ip_cpL M a b c d n) p = ip_sh M p := rfl
theorem ip_vr_some (k : Nat) : ip_vr (some k) = .ref k := rfl
