-- BEHIND THE TWO CONSTRUCTORS: all that stands between two calls
def ip_sI0 : List (Nat × Nat × Int32) := [(6, 4, 0), (6, 5, (-1)), (6, 6, (-1)), (6, 14, 0), (17, 1, 0), (19, 2, 0), (21, 1, 0), (23, 4, 0), (23, 5, 0), (30, 1, 0), (35, 1, 0), (40, 1, 0), (45, 1, 0), (50, 1, 0), (55, 1, 0), (60, 1, 0), (65, 1, 0), (70, 1, 0), (75, 1, 0), (80, 4, 0), (80, 5, (-1)), (80, 6, (-1)), (80, 14, 0), (0, 7, 0), (108, 0, 0), (108, 3, 0), (108, 12, 0), (108, 32, 0), (108, 33, (-1)), (117, 0, 0), (117, 1, 0), (109, 0, 0), (109, 1, 0), (109, 2, 2), (109, 3, 0), (109, 4, 0), (109, 5, 0), (109, 6, (-1)), (109, 7, 0), (109, 8, 0), (109, 9, 0), (109, 10, 0), (109, 11, 0), (109, 12, 1), (109, 13, 0), (109, 14, 0), (109, 15, 0), (109, 16, 1), (109, 17, 0), (109, 18, 0), (109, 19, 0), (109, 20, 1), (109, 21, 0), (109, 22, 0), (109, 23, 0), (109, 24, 1), (109, 25, 0), (109, 26, 0), (109, 27, 0), (109, 28, 1), (109, 29, 0), (109, 30, 0), (109, 31, 0), (109, 32, 1), (109, 643, 0), (109, 646, 0), (109, 649, 0), (109, 652, 0), (109, 655, 0), (109, 658, 0), (109, 661, 0), (109, 664, 0), (109, 667, 0), (109, 670, 0), (109, 673, 0), (109, 676, 0), (109, 679, 0), (109, 682, 0), (109, 685, 0), (109, 688, 0), (109, 691, 0), (109, 694, 0), (109, 697, 0), (109, 700, 0), (109, 703, 0), (109, 706, 0), (109, 709, 0), (109, 712, 0), (109, 715, 0), (109, 718, 0), (109, 721, 0), (109, 724, 0), (109, 727, 0), (109, 730, 0), (109, 733, 0), (109, 736, 0), (109, 739, 0), (109, 742, 0), (109, 745, 0), (109, 748, 0), (109, 751, 0), (109, 754, 0), (109, 757, 0), (109, 760, 0), (109, 763, 0), (109, 766, 0), (109, 769, 0), (109, 772, 0), (109, 775, 0), (109, 778, 0), (109, 781, 0), (109, 784, 0), (109, 787, 0), (109, 790, 0), (109, 793, 0), (109, 796, 0), (109, 799, 0), (109, 802, 0), (109, 805, 0), (109, 808, 0), (109, 811, 0), (109, 814, 0), (109, 817, 0), (109, 820, 0)]
set_option maxRecDepth 1000000 in
theorem ip_sI0_ok : (ip_sI0.all fun q => decide (ip_M2.2.1 q.1 q.2.1 = q.2.2)) = true := by decide +kernel
set_option maxRecDepth 1000000 in
theorem ip_sLA : (([(110, 9), (115, 72), (116, 18)] : List (Nat × Nat)).all fun q => (List.range q.2).all fun j => decide (ip_M2.2.2.1 q.1 j = 0)) = true := by decide +kernel
set_option maxRecDepth 1000000 in
theorem ip_sAA1 : (([(8, 61), (18, 120), (20, 200), (22, 120), (27, 2), (31, 120), (36, 120), (41, 120)] : List (Nat × Nat)).all fun q => (List.range q.2).all fun j => decide (ip_M2.2.1 q.1 j = 0)) = true := by decide +kernel
set_option maxRecDepth 1000000 in
theorem ip_sAA2 : (([(46, 120), (51, 120), (56, 120), (61, 120), (66, 120), (71, 120), (76, 120), (82, 61)] : List (Nat × Nat)).all fun q => (List.range q.2).all fun j => decide (ip_M2.2.1 q.1 j = 0)) = true := by decide +kernel
set_option maxRecDepth 1000000 in
theorem ip_rk_0 : (([0, 1, 2, 3, 4, 5, 6, 7, 8, 9, 10, 11, 12, 13, 14, 15] : List Nat).all fun k => (List.range 48).all fun j => decide (ip_M2.2.2.2 k j = ip_rf0 k j)) = true := by decide +kernel
set_option maxRecDepth 1000000 in
theorem ip_rk_1 : (([16, 17, 18, 19, 20, 21, 22, 23, 24, 25, 26, 27, 28, 29, 30, 31] : List Nat).all fun k => (List.range 48).all fun j => decide (ip_M2.2.2.2 k j = ip_rf0 k j)) = true := by decide +kernel
set_option maxRecDepth 1000000 in
theorem ip_rk_2 : (([32, 33, 34, 35, 36, 37, 38, 39, 40, 41, 42, 43, 44, 45, 46, 47] : List Nat).all fun k => (List.range 48).all fun j => decide (ip_M2.2.2.2 k j = ip_rf0 k j)) = true := by decide +kernel
set_option maxRecDepth 1000000 in
theorem ip_rk_3 : (([48, 49, 50, 51, 52, 53, 54, 55, 56, 57, 58, 59, 60, 61, 62, 63] : List Nat).all fun k => (List.range 48).all fun j => decide (ip_M2.2.2.2 k j = ip_rf0 k j)) = true := by decide +kernel
set_option maxRecDepth 1000000 in
theorem ip_rk_4 : (([64, 65, 66, 67, 68, 69, 70, 71, 72, 73, 74, 75, 76, 77, 78, 79] : List Nat).all fun k => (List.range 48).all fun j => decide (ip_M2.2.2.2 k j = ip_rf0 k j)) = true := by decide +kernel
set_option maxRecDepth 1000000 in
theorem ip_rk_5 : (([80, 81, 82, 83, 84, 85, 86, 87, 88, 89, 90, 91, 92, 93, 94, 95] : List Nat).all fun k => (List.range 48).all fun j => decide (ip_M2.2.2.2 k j = ip_rf0 k j)) = true := by decide +kernel
set_option maxRecDepth 1000000 in
theorem ip_rk_6 : (([96, 97, 98, 99, 100, 101, 102, 103, 104, 105, 106, 107, 108, 109, 110, 111] : List Nat).all fun k => (List.range 48).all fun j => decide (ip_M2.2.2.2 k j = ip_rf0 k j)) = true := by decide +kernel
set_option maxRecDepth 1000000 in
theorem ip_rk_7 : (([112, 113, 114, 115, 116, 117, 118, 119, 120, 121, 122, 123, 124, 125, 126, 127] : List Nat).all fun k => (List.range 48).all fun j => decide (ip_M2.2.2.2 k j = ip_rf0 k j)) = true := by decide +kernel
