-- THE FRESH OBJECTS
def ip_il : List (Nat × Nat × Int32) := [(1, 2, 2), (6, 3, (-1)), (6, 5, (-1)), (6, 6, (-1)), (19, 4, (-1)), (28, 6, (-1)), (33, 6, (-1)), (38, 6, (-1)), (43, 6, (-1)), (48, 6, (-1)), (53, 6, (-1)), (58, 6, (-1)), (63, 6, (-1)), (68, 6, (-1)), (73, 6, (-1)), (80, 3, (-1)), (80, 5, (-1)), (80, 6, (-1)), (91, 2, 2), (108, 33, (-1)), (109, 2, 2), (109, 6, (-1)), (109, 12, 1), (109, 16, 1), (109, 20, 1), (109, 24, 1), (109, 28, 1), (109, 32, 1)]
def ip_ll : List (Nat × Nat × Int64) := [(4, 3, 1), (13, 3, 1), (14, 3, 1), (15, 3, 1), (16, 3, 1), (87, 3, 1), (88, 3, 1), (89, 3, 1), (90, 3, 1), (94, 3, 1), (100, 3, 1), (101, 3, 1), (102, 3, 1), (103, 3, 1), (104, 3, 1), (105, 3, 1), (106, 3, 1), (107, 3, 1)]
def ip_i0 (k j : Nat) : Int32 := match ip_il.find? fun q => q.1 == k && q.2.1 == j with
  | some q => q.2.2
  | none => 0
def ip_l0 (k j : Nat) : Int64 := match ip_ll.find? fun q => q.1 == k && q.2.1 == j with
  | some q => q.2.2
  | none => 0
def ip_Fr (M : ip_H) : Prop := ip_G M ∧ (∀ k j, k < 128 → j < 48 → M.2.1 k j = ip_i0 k j) ∧ ∀ k j, k < 128 → j < 48 → M.2.2.1 k j = ip_l0 k j
theorem gI_0_7 {M : ip_H} (h : ip_Fr M) : M.2.1 0 7 = 0 := (h.2.1 0 7 (by decide) (by decide)).trans rfl
theorem gI_1_0 {M : ip_H} (h : ip_Fr M) : M.2.1 1 0 = 0 := (h.2.1 1 0 (by decide) (by decide)).trans rfl
theorem gI_1_1 {M : ip_H} (h : ip_Fr M) : M.2.1 1 1 = 0 := (h.2.1 1 1 (by decide) (by decide)).trans rfl
theorem gI_1_2 {M : ip_H} (h : ip_Fr M) : M.2.1 1 2 = 2 := (h.2.1 1 2 (by decide) (by decide)).trans rfl
theorem gL_3_0 {M : ip_H} (h : ip_Fr M) : M.2.2.1 3 0 = 0 := (h.2.2 3 0 (by decide) (by decide)).trans rfl
theorem gL_3_1 {M : ip_H} (h : ip_Fr M) : M.2.2.1 3 1 = 0 := (h.2.2 3 1 (by decide) (by decide)).trans rfl
theorem gL_3_2 {M : ip_H} (h : ip_Fr M) : M.2.2.1 3 2 = 0 := (h.2.2 3 2 (by decide) (by decide)).trans rfl
theorem gL_3_3 {M : ip_H} (h : ip_Fr M) : M.2.2.1 3 3 = 0 := (h.2.2 3 3 (by decide) (by decide)).trans rfl
theorem gL_3_4 {M : ip_H} (h : ip_Fr M) : M.2.2.1 3 4 = 0 := (h.2.2 3 4 (by decide) (by decide)).trans rfl
theorem gL_3_5 {M : ip_H} (h : ip_Fr M) : M.2.2.1 3 5 = 0 := (h.2.2 3 5 (by decide) (by decide)).trans rfl
theorem gL_3_6 {M : ip_H} (h : ip_Fr M) : M.2.2.1 3 6 = 0 := (h.2.2 3 6 (by decide) (by decide)).trans rfl
theorem gL_3_7 {M : ip_H} (h : ip_Fr M) : M.2.2.1 3 7 = 0 := (h.2.2 3 7 (by decide) (by decide)).trans rfl
theorem gL_3_8 {M : ip_H} (h : ip_Fr M) : M.2.2.1 3 8 = 0 := (h.2.2 3 8 (by decide) (by decide)).trans rfl
theorem gL_4_0 {M : ip_H} (h : ip_Fr M) : M.2.2.1 4 0 = 0 := (h.2.2 4 0 (by decide) (by decide)).trans rfl
theorem gL_4_1 {M : ip_H} (h : ip_Fr M) : M.2.2.1 4 1 = 0 := (h.2.2 4 1 (by decide) (by decide)).trans rfl
theorem gL_4_2 {M : ip_H} (h : ip_Fr M) : M.2.2.1 4 2 = 0 := (h.2.2 4 2 (by decide) (by decide)).trans rfl
theorem gL_4_3 {M : ip_H} (h : ip_Fr M) : M.2.2.1 4 3 = 1 := (h.2.2 4 3 (by decide) (by decide)).trans rfl
theorem gI_6_3 {M : ip_H} (h : ip_Fr M) : M.2.1 6 3 = (-1) := (h.2.1 6 3 (by decide) (by decide)).trans rfl
theorem gI_6_4 {M : ip_H} (h : ip_Fr M) : M.2.1 6 4 = 0 := (h.2.1 6 4 (by decide) (by decide)).trans rfl
theorem gI_6_5 {M : ip_H} (h : ip_Fr M) : M.2.1 6 5 = (-1) := (h.2.1 6 5 (by decide) (by decide)).trans rfl
theorem gI_6_6 {M : ip_H} (h : ip_Fr M) : M.2.1 6 6 = (-1) := (h.2.1 6 6 (by decide) (by decide)).trans rfl
theorem gI_6_12 {M : ip_H} (h : ip_Fr M) : M.2.1 6 12 = 0 := (h.2.1 6 12 (by decide) (by decide)).trans rfl
theorem gI_6_13 {M : ip_H} (h : ip_Fr M) : M.2.1 6 13 = 0 := (h.2.1 6 13 (by decide) (by decide)).trans rfl
theorem gI_6_14 {M : ip_H} (h : ip_Fr M) : M.2.1 6 14 = 0 := (h.2.1 6 14 (by decide) (by decide)).trans rfl
theorem gL_10_0 {M : ip_H} (h : ip_Fr M) : M.2.2.1 10 0 = 0 := (h.2.2 10 0 (by decide) (by decide)).trans rfl
theorem gL_10_1 {M : ip_H} (h : ip_Fr M) : M.2.2.1 10 1 = 0 := (h.2.2 10 1 (by decide) (by decide)).trans rfl
theorem gL_10_2 {M : ip_H} (h : ip_Fr M) : M.2.2.1 10 2 = 0 := (h.2.2 10 2 (by decide) (by decide)).trans rfl
theorem gL_10_3 {M : ip_H} (h : ip_Fr M) : M.2.2.1 10 3 = 0 := (h.2.2 10 3 (by decide) (by decide)).trans rfl
theorem gL_10_4 {M : ip_H} (h : ip_Fr M) : M.2.2.1 10 4 = 0 := (h.2.2 10 4 (by decide) (by decide)).trans rfl
theorem gL_10_5 {M : ip_H} (h : ip_Fr M) : M.2.2.1 10 5 = 0 := (h.2.2 10 5 (by decide) (by decide)).trans rfl
theorem gL_10_6 {M : ip_H} (h : ip_Fr M) : M.2.2.1 10 6 = 0 := (h.2.2 10 6 (by decide) (by decide)).trans rfl
theorem gL_10_7 {M : ip_H} (h : ip_Fr M) : M.2.2.1 10 7 = 0 := (h.2.2 10 7 (by decide) (by decide)).trans rfl
theorem gL_10_8 {M : ip_H} (h : ip_Fr M) : M.2.2.1 10 8 = 0 := (h.2.2 10 8 (by decide) (by decide)).trans rfl
theorem gL_12_0 {M : ip_H} (h : ip_Fr M) : M.2.2.1 12 0 = 0 := (h.2.2 12 0 (by decide) (by decide)).trans rfl
theorem gL_12_1 {M : ip_H} (h : ip_Fr M) : M.2.2.1 12 1 = 0 := (h.2.2 12 1 (by decide) (by decide)).trans rfl
theorem gL_12_2 {M : ip_H} (h : ip_Fr M) : M.2.2.1 12 2 = 0 := (h.2.2 12 2 (by decide) (by decide)).trans rfl
theorem gL_12_3 {M : ip_H} (h : ip_Fr M) : M.2.2.1 12 3 = 0 := (h.2.2 12 3 (by decide) (by decide)).trans rfl
theorem gL_12_4 {M : ip_H} (h : ip_Fr M) : M.2.2.1 12 4 = 0 := (h.2.2 12 4 (by decide) (by decide)).trans rfl
theorem gL_12_5 {M : ip_H} (h : ip_Fr M) : M.2.2.1 12 5 = 0 := (h.2.2 12 5 (by decide) (by decide)).trans rfl
theorem gL_12_6 {M : ip_H} (h : ip_Fr M) : M.2.2.1 12 6 = 0 := (h.2.2 12 6 (by decide) (by decide)).trans rfl
theorem gL_12_7 {M : ip_H} (h : ip_Fr M) : M.2.2.1 12 7 = 0 := (h.2.2 12 7 (by decide) (by decide)).trans rfl
theorem gL_12_8 {M : ip_H} (h : ip_Fr M) : M.2.2.1 12 8 = 0 := (h.2.2 12 8 (by decide) (by decide)).trans rfl
theorem gL_13_0 {M : ip_H} (h : ip_Fr M) : M.2.2.1 13 0 = 0 := (h.2.2 13 0 (by decide) (by decide)).trans rfl
theorem gL_13_1 {M : ip_H} (h : ip_Fr M) : M.2.2.1 13 1 = 0 := (h.2.2 13 1 (by decide) (by decide)).trans rfl
theorem gL_13_2 {M : ip_H} (h : ip_Fr M) : M.2.2.1 13 2 = 0 := (h.2.2 13 2 (by decide) (by decide)).trans rfl
theorem gL_13_3 {M : ip_H} (h : ip_Fr M) : M.2.2.1 13 3 = 1 := (h.2.2 13 3 (by decide) (by decide)).trans rfl
theorem gL_14_0 {M : ip_H} (h : ip_Fr M) : M.2.2.1 14 0 = 0 := (h.2.2 14 0 (by decide) (by decide)).trans rfl
theorem gL_14_1 {M : ip_H} (h : ip_Fr M) : M.2.2.1 14 1 = 0 := (h.2.2 14 1 (by decide) (by decide)).trans rfl
theorem gL_14_2 {M : ip_H} (h : ip_Fr M) : M.2.2.1 14 2 = 0 := (h.2.2 14 2 (by decide) (by decide)).trans rfl
theorem gL_14_3 {M : ip_H} (h : ip_Fr M) : M.2.2.1 14 3 = 1 := (h.2.2 14 3 (by decide) (by decide)).trans rfl
theorem gL_15_0 {M : ip_H} (h : ip_Fr M) : M.2.2.1 15 0 = 0 := (h.2.2 15 0 (by decide) (by decide)).trans rfl
theorem gL_15_1 {M : ip_H} (h : ip_Fr M) : M.2.2.1 15 1 = 0 := (h.2.2 15 1 (by decide) (by decide)).trans rfl
theorem gL_15_2 {M : ip_H} (h : ip_Fr M) : M.2.2.1 15 2 = 0 := (h.2.2 15 2 (by decide) (by decide)).trans rfl
theorem gL_15_3 {M : ip_H} (h : ip_Fr M) : M.2.2.1 15 3 = 1 := (h.2.2 15 3 (by decide) (by decide)).trans rfl
theorem gL_16_0 {M : ip_H} (h : ip_Fr M) : M.2.2.1 16 0 = 0 := (h.2.2 16 0 (by decide) (by decide)).trans rfl
theorem gL_16_1 {M : ip_H} (h : ip_Fr M) : M.2.2.1 16 1 = 0 := (h.2.2 16 1 (by decide) (by decide)).trans rfl
theorem gL_16_2 {M : ip_H} (h : ip_Fr M) : M.2.2.1 16 2 = 0 := (h.2.2 16 2 (by decide) (by decide)).trans rfl
theorem gL_16_3 {M : ip_H} (h : ip_Fr M) : M.2.2.1 16 3 = 1 := (h.2.2 16 3 (by decide) (by decide)).trans rfl
theorem gI_17_1 {M : ip_H} (h : ip_Fr M) : M.2.1 17 1 = 0 := (h.2.1 17 1 (by decide) (by decide)).trans rfl
theorem gI_19_2 {M : ip_H} (h : ip_Fr M) : M.2.1 19 2 = 0 := (h.2.1 19 2 (by decide) (by decide)).trans rfl
theorem gI_19_3 {M : ip_H} (h : ip_Fr M) : M.2.1 19 3 = 0 := (h.2.1 19 3 (by decide) (by decide)).trans rfl
theorem gI_19_4 {M : ip_H} (h : ip_Fr M) : M.2.1 19 4 = (-1) := (h.2.1 19 4 (by decide) (by decide)).trans rfl
theorem gI_21_1 {M : ip_H} (h : ip_Fr M) : M.2.1 21 1 = 0 := (h.2.1 21 1 (by decide) (by decide)).trans rfl
theorem gI_23_4 {M : ip_H} (h : ip_Fr M) : M.2.1 23 4 = 0 := (h.2.1 23 4 (by decide) (by decide)).trans rfl
theorem gI_23_5 {M : ip_H} (h : ip_Fr M) : M.2.1 23 5 = 0 := (h.2.1 23 5 (by decide) (by decide)).trans rfl
theorem gI_25_0 {M : ip_H} (h : ip_Fr M) : M.2.1 25 0 = 0 := (h.2.1 25 0 (by decide) (by decide)).trans rfl
theorem gI_25_1 {M : ip_H} (h : ip_Fr M) : M.2.1 25 1 = 0 := (h.2.1 25 1 (by decide) (by decide)).trans rfl
theorem gI_25_2 {M : ip_H} (h : ip_Fr M) : M.2.1 25 2 = 0 := (h.2.1 25 2 (by decide) (by decide)).trans rfl
theorem gI_25_3 {M : ip_H} (h : ip_Fr M) : M.2.1 25 3 = 0 := (h.2.1 25 3 (by decide) (by decide)).trans rfl
theorem gI_25_4 {M : ip_H} (h : ip_Fr M) : M.2.1 25 4 = 0 := (h.2.1 25 4 (by decide) (by decide)).trans rfl
theorem gI_25_5 {M : ip_H} (h : ip_Fr M) : M.2.1 25 5 = 0 := (h.2.1 25 5 (by decide) (by decide)).trans rfl
theorem gI_25_6 {M : ip_H} (h : ip_Fr M) : M.2.1 25 6 = 0 := (h.2.1 25 6 (by decide) (by decide)).trans rfl
theorem gI_25_7 {M : ip_H} (h : ip_Fr M) : M.2.1 25 7 = 0 := (h.2.1 25 7 (by decide) (by decide)).trans rfl
theorem gI_27_0 {M : ip_H} (h : ip_Fr M) : M.2.1 27 0 = 0 := (h.2.1 27 0 (by decide) (by decide)).trans rfl
theorem gI_27_1 {M : ip_H} (h : ip_Fr M) : M.2.1 27 1 = 0 := (h.2.1 27 1 (by decide) (by decide)).trans rfl
theorem gI_28_0 {M : ip_H} (h : ip_Fr M) : M.2.1 28 0 = 0 := (h.2.1 28 0 (by decide) (by decide)).trans rfl
theorem gI_28_1 {M : ip_H} (h : ip_Fr M) : M.2.1 28 1 = 0 := (h.2.1 28 1 (by decide) (by decide)).trans rfl
theorem gI_28_2 {M : ip_H} (h : ip_Fr M) : M.2.1 28 2 = 0 := (h.2.1 28 2 (by decide) (by decide)).trans rfl
theorem gI_28_6 {M : ip_H} (h : ip_Fr M) : M.2.1 28 6 = (-1) := (h.2.1 28 6 (by decide) (by decide)).trans rfl
theorem gI_28_7 {M : ip_H} (h : ip_Fr M) : M.2.1 28 7 = 0 := (h.2.1 28 7 (by decide) (by decide)).trans rfl
theorem gI_30_1 {M : ip_H} (h : ip_Fr M) : M.2.1 30 1 = 0 := (h.2.1 30 1 (by decide) (by decide)).trans rfl
theorem gI_33_0 {M : ip_H} (h : ip_Fr M) : M.2.1 33 0 = 0 := (h.2.1 33 0 (by decide) (by decide)).trans rfl
theorem gI_33_1 {M : ip_H} (h : ip_Fr M) : M.2.1 33 1 = 0 := (h.2.1 33 1 (by decide) (by decide)).trans rfl
theorem gI_33_2 {M : ip_H} (h : ip_Fr M) : M.2.1 33 2 = 0 := (h.2.1 33 2 (by decide) (by decide)).trans rfl
theorem gI_33_6 {M : ip_H} (h : ip_Fr M) : M.2.1 33 6 = (-1) := (h.2.1 33 6 (by decide) (by decide)).trans rfl
theorem gI_33_7 {M : ip_H} (h : ip_Fr M) : M.2.1 33 7 = 0 := (h.2.1 33 7 (by decide) (by decide)).trans rfl
theorem gI_35_1 {M : ip_H} (h : ip_Fr M) : M.2.1 35 1 = 0 := (h.2.1 35 1 (by decide) (by decide)).trans rfl
theorem gI_38_0 {M : ip_H} (h : ip_Fr M) : M.2.1 38 0 = 0 := (h.2.1 38 0 (by decide) (by decide)).trans rfl
theorem gI_38_1 {M : ip_H} (h : ip_Fr M) : M.2.1 38 1 = 0 := (h.2.1 38 1 (by decide) (by decide)).trans rfl
theorem gI_38_2 {M : ip_H} (h : ip_Fr M) : M.2.1 38 2 = 0 := (h.2.1 38 2 (by decide) (by decide)).trans rfl
theorem gI_38_6 {M : ip_H} (h : ip_Fr M) : M.2.1 38 6 = (-1) := (h.2.1 38 6 (by decide) (by decide)).trans rfl
theorem gI_38_7 {M : ip_H} (h : ip_Fr M) : M.2.1 38 7 = 0 := (h.2.1 38 7 (by decide) (by decide)).trans rfl
theorem gI_40_1 {M : ip_H} (h : ip_Fr M) : M.2.1 40 1 = 0 := (h.2.1 40 1 (by decide) (by decide)).trans rfl
theorem gI_43_0 {M : ip_H} (h : ip_Fr M) : M.2.1 43 0 = 0 := (h.2.1 43 0 (by decide) (by decide)).trans rfl
theorem gI_43_1 {M : ip_H} (h : ip_Fr M) : M.2.1 43 1 = 0 := (h.2.1 43 1 (by decide) (by decide)).trans rfl
theorem gI_43_2 {M : ip_H} (h : ip_Fr M) : M.2.1 43 2 = 0 := (h.2.1 43 2 (by decide) (by decide)).trans rfl
theorem gI_43_6 {M : ip_H} (h : ip_Fr M) : M.2.1 43 6 = (-1) := (h.2.1 43 6 (by decide) (by decide)).trans rfl
theorem gI_43_7 {M : ip_H} (h : ip_Fr M) : M.2.1 43 7 = 0 := (h.2.1 43 7 (by decide) (by decide)).trans rfl
theorem gI_45_1 {M : ip_H} (h : ip_Fr M) : M.2.1 45 1 = 0 := (h.2.1 45 1 (by decide) (by decide)).trans rfl
theorem gI_48_0 {M : ip_H} (h : ip_Fr M) : M.2.1 48 0 = 0 := (h.2.1 48 0 (by decide) (by decide)).trans rfl
theorem gI_48_1 {M : ip_H} (h : ip_Fr M) : M.2.1 48 1 = 0 := (h.2.1 48 1 (by decide) (by decide)).trans rfl
theorem gI_48_2 {M : ip_H} (h : ip_Fr M) : M.2.1 48 2 = 0 := (h.2.1 48 2 (by decide) (by decide)).trans rfl
theorem gI_48_6 {M : ip_H} (h : ip_Fr M) : M.2.1 48 6 = (-1) := (h.2.1 48 6 (by decide) (by decide)).trans rfl
theorem gI_48_7 {M : ip_H} (h : ip_Fr M) : M.2.1 48 7 = 0 := (h.2.1 48 7 (by decide) (by decide)).trans rfl
theorem gI_50_1 {M : ip_H} (h : ip_Fr M) : M.2.1 50 1 = 0 := (h.2.1 50 1 (by decide) (by decide)).trans rfl
theorem gI_53_0 {M : ip_H} (h : ip_Fr M) : M.2.1 53 0 = 0 := (h.2.1 53 0 (by decide) (by decide)).trans rfl
theorem gI_53_1 {M : ip_H} (h : ip_Fr M) : M.2.1 53 1 = 0 := (h.2.1 53 1 (by decide) (by decide)).trans rfl
theorem gI_53_2 {M : ip_H} (h : ip_Fr M) : M.2.1 53 2 = 0 := (h.2.1 53 2 (by decide) (by decide)).trans rfl
theorem gI_53_6 {M : ip_H} (h : ip_Fr M) : M.2.1 53 6 = (-1) := (h.2.1 53 6 (by decide) (by decide)).trans rfl
theorem gI_53_7 {M : ip_H} (h : ip_Fr M) : M.2.1 53 7 = 0 := (h.2.1 53 7 (by decide) (by decide)).trans rfl
theorem gI_55_1 {M : ip_H} (h : ip_Fr M) : M.2.1 55 1 = 0 := (h.2.1 55 1 (by decide) (by decide)).trans rfl
theorem gI_58_0 {M : ip_H} (h : ip_Fr M) : M.2.1 58 0 = 0 := (h.2.1 58 0 (by decide) (by decide)).trans rfl
theorem gI_58_1 {M : ip_H} (h : ip_Fr M) : M.2.1 58 1 = 0 := (h.2.1 58 1 (by decide) (by decide)).trans rfl
theorem gI_58_2 {M : ip_H} (h : ip_Fr M) : M.2.1 58 2 = 0 := (h.2.1 58 2 (by decide) (by decide)).trans rfl
theorem gI_58_6 {M : ip_H} (h : ip_Fr M) : M.2.1 58 6 = (-1) := (h.2.1 58 6 (by decide) (by decide)).trans rfl
theorem gI_58_7 {M : ip_H} (h : ip_Fr M) : M.2.1 58 7 = 0 := (h.2.1 58 7 (by decide) (by decide)).trans rfl
theorem gI_60_1 {M : ip_H} (h : ip_Fr M) : M.2.1 60 1 = 0 := (h.2.1 60 1 (by decide) (by decide)).trans rfl
theorem gI_63_0 {M : ip_H} (h : ip_Fr M) : M.2.1 63 0 = 0 := (h.2.1 63 0 (by decide) (by decide)).trans rfl
theorem gI_63_1 {M : ip_H} (h : ip_Fr M) : M.2.1 63 1 = 0 := (h.2.1 63 1 (by decide) (by decide)).trans rfl
theorem gI_63_2 {M : ip_H} (h : ip_Fr M) : M.2.1 63 2 = 0 := (h.2.1 63 2 (by decide) (by decide)).trans rfl
theorem gI_63_6 {M : ip_H} (h : ip_Fr M) : M.2.1 63 6 = (-1) := (h.2.1 63 6 (by decide) (by decide)).trans rfl
theorem gI_63_7 {M : ip_H} (h : ip_Fr M) : M.2.1 63 7 = 0 := (h.2.1 63 7 (by decide) (by decide)).trans rfl
theorem gI_65_1 {M : ip_H} (h : ip_Fr M) : M.2.1 65 1 = 0 := (h.2.1 65 1 (by decide) (by decide)).trans rfl
theorem gI_68_0 {M : ip_H} (h : ip_Fr M) : M.2.1 68 0 = 0 := (h.2.1 68 0 (by decide) (by decide)).trans rfl
theorem gI_68_1 {M : ip_H} (h : ip_Fr M) : M.2.1 68 1 = 0 := (h.2.1 68 1 (by decide) (by decide)).trans rfl
theorem gI_68_2 {M : ip_H} (h : ip_Fr M) : M.2.1 68 2 = 0 := (h.2.1 68 2 (by decide) (by decide)).trans rfl
theorem gI_68_6 {M : ip_H} (h : ip_Fr M) : M.2.1 68 6 = (-1) := (h.2.1 68 6 (by decide) (by decide)).trans rfl
theorem gI_68_7 {M : ip_H} (h : ip_Fr M) : M.2.1 68 7 = 0 := (h.2.1 68 7 (by decide) (by decide)).trans rfl
theorem gI_70_1 {M : ip_H} (h : ip_Fr M) : M.2.1 70 1 = 0 := (h.2.1 70 1 (by decide) (by decide)).trans rfl
theorem gI_73_0 {M : ip_H} (h : ip_Fr M) : M.2.1 73 0 = 0 := (h.2.1 73 0 (by decide) (by decide)).trans rfl
theorem gI_73_1 {M : ip_H} (h : ip_Fr M) : M.2.1 73 1 = 0 := (h.2.1 73 1 (by decide) (by decide)).trans rfl
theorem gI_73_2 {M : ip_H} (h : ip_Fr M) : M.2.1 73 2 = 0 := (h.2.1 73 2 (by decide) (by decide)).trans rfl
theorem gI_73_6 {M : ip_H} (h : ip_Fr M) : M.2.1 73 6 = (-1) := (h.2.1 73 6 (by decide) (by decide)).trans rfl
theorem gI_73_7 {M : ip_H} (h : ip_Fr M) : M.2.1 73 7 = 0 := (h.2.1 73 7 (by decide) (by decide)).trans rfl
theorem gI_75_1 {M : ip_H} (h : ip_Fr M) : M.2.1 75 1 = 0 := (h.2.1 75 1 (by decide) (by decide)).trans rfl
theorem gI_78_1 {M : ip_H} (h : ip_Fr M) : M.2.1 78 1 = 0 := (h.2.1 78 1 (by decide) (by decide)).trans rfl
theorem gI_79_0 {M : ip_H} (h : ip_Fr M) : M.2.1 79 0 = 0 := (h.2.1 79 0 (by decide) (by decide)).trans rfl
theorem gI_79_1 {M : ip_H} (h : ip_Fr M) : M.2.1 79 1 = 0 := (h.2.1 79 1 (by decide) (by decide)).trans rfl
theorem gI_79_2 {M : ip_H} (h : ip_Fr M) : M.2.1 79 2 = 0 := (h.2.1 79 2 (by decide) (by decide)).trans rfl
theorem gI_79_3 {M : ip_H} (h : ip_Fr M) : M.2.1 79 3 = 0 := (h.2.1 79 3 (by decide) (by decide)).trans rfl
theorem gI_79_4 {M : ip_H} (h : ip_Fr M) : M.2.1 79 4 = 0 := (h.2.1 79 4 (by decide) (by decide)).trans rfl
theorem gI_79_5 {M : ip_H} (h : ip_Fr M) : M.2.1 79 5 = 0 := (h.2.1 79 5 (by decide) (by decide)).trans rfl
theorem gI_80_3 {M : ip_H} (h : ip_Fr M) : M.2.1 80 3 = (-1) := (h.2.1 80 3 (by decide) (by decide)).trans rfl
theorem gI_80_4 {M : ip_H} (h : ip_Fr M) : M.2.1 80 4 = 0 := (h.2.1 80 4 (by decide) (by decide)).trans rfl
theorem gI_80_5 {M : ip_H} (h : ip_Fr M) : M.2.1 80 5 = (-1) := (h.2.1 80 5 (by decide) (by decide)).trans rfl
theorem gI_80_6 {M : ip_H} (h : ip_Fr M) : M.2.1 80 6 = (-1) := (h.2.1 80 6 (by decide) (by decide)).trans rfl
theorem gI_80_12 {M : ip_H} (h : ip_Fr M) : M.2.1 80 12 = 0 := (h.2.1 80 12 (by decide) (by decide)).trans rfl
theorem gI_80_13 {M : ip_H} (h : ip_Fr M) : M.2.1 80 13 = 0 := (h.2.1 80 13 (by decide) (by decide)).trans rfl
theorem gI_80_14 {M : ip_H} (h : ip_Fr M) : M.2.1 80 14 = 0 := (h.2.1 80 14 (by decide) (by decide)).trans rfl
theorem gL_87_0 {M : ip_H} (h : ip_Fr M) : M.2.2.1 87 0 = 0 := (h.2.2 87 0 (by decide) (by decide)).trans rfl
theorem gL_87_1 {M : ip_H} (h : ip_Fr M) : M.2.2.1 87 1 = 0 := (h.2.2 87 1 (by decide) (by decide)).trans rfl
theorem gL_87_2 {M : ip_H} (h : ip_Fr M) : M.2.2.1 87 2 = 0 := (h.2.2 87 2 (by decide) (by decide)).trans rfl
theorem gL_87_3 {M : ip_H} (h : ip_Fr M) : M.2.2.1 87 3 = 1 := (h.2.2 87 3 (by decide) (by decide)).trans rfl
theorem gL_88_0 {M : ip_H} (h : ip_Fr M) : M.2.2.1 88 0 = 0 := (h.2.2 88 0 (by decide) (by decide)).trans rfl
theorem gL_88_1 {M : ip_H} (h : ip_Fr M) : M.2.2.1 88 1 = 0 := (h.2.2 88 1 (by decide) (by decide)).trans rfl
theorem gL_88_2 {M : ip_H} (h : ip_Fr M) : M.2.2.1 88 2 = 0 := (h.2.2 88 2 (by decide) (by decide)).trans rfl
theorem gL_88_3 {M : ip_H} (h : ip_Fr M) : M.2.2.1 88 3 = 1 := (h.2.2 88 3 (by decide) (by decide)).trans rfl
theorem gL_89_0 {M : ip_H} (h : ip_Fr M) : M.2.2.1 89 0 = 0 := (h.2.2 89 0 (by decide) (by decide)).trans rfl
theorem gL_89_1 {M : ip_H} (h : ip_Fr M) : M.2.2.1 89 1 = 0 := (h.2.2 89 1 (by decide) (by decide)).trans rfl
theorem gL_89_2 {M : ip_H} (h : ip_Fr M) : M.2.2.1 89 2 = 0 := (h.2.2 89 2 (by decide) (by decide)).trans rfl
theorem gL_89_3 {M : ip_H} (h : ip_Fr M) : M.2.2.1 89 3 = 1 := (h.2.2 89 3 (by decide) (by decide)).trans rfl
theorem gL_90_0 {M : ip_H} (h : ip_Fr M) : M.2.2.1 90 0 = 0 := (h.2.2 90 0 (by decide) (by decide)).trans rfl
theorem gL_90_1 {M : ip_H} (h : ip_Fr M) : M.2.2.1 90 1 = 0 := (h.2.2 90 1 (by decide) (by decide)).trans rfl
theorem gL_90_2 {M : ip_H} (h : ip_Fr M) : M.2.2.1 90 2 = 0 := (h.2.2 90 2 (by decide) (by decide)).trans rfl
theorem gL_90_3 {M : ip_H} (h : ip_Fr M) : M.2.2.1 90 3 = 1 := (h.2.2 90 3 (by decide) (by decide)).trans rfl
theorem gI_91_0 {M : ip_H} (h : ip_Fr M) : M.2.1 91 0 = 0 := (h.2.1 91 0 (by decide) (by decide)).trans rfl
theorem gI_91_1 {M : ip_H} (h : ip_Fr M) : M.2.1 91 1 = 0 := (h.2.1 91 1 (by decide) (by decide)).trans rfl
theorem gI_91_2 {M : ip_H} (h : ip_Fr M) : M.2.1 91 2 = 2 := (h.2.1 91 2 (by decide) (by decide)).trans rfl
theorem gL_93_0 {M : ip_H} (h : ip_Fr M) : M.2.2.1 93 0 = 0 := (h.2.2 93 0 (by decide) (by decide)).trans rfl
theorem gL_93_1 {M : ip_H} (h : ip_Fr M) : M.2.2.1 93 1 = 0 := (h.2.2 93 1 (by decide) (by decide)).trans rfl
theorem gL_93_2 {M : ip_H} (h : ip_Fr M) : M.2.2.1 93 2 = 0 := (h.2.2 93 2 (by decide) (by decide)).trans rfl
theorem gL_93_3 {M : ip_H} (h : ip_Fr M) : M.2.2.1 93 3 = 0 := (h.2.2 93 3 (by decide) (by decide)).trans rfl
theorem gL_93_4 {M : ip_H} (h : ip_Fr M) : M.2.2.1 93 4 = 0 := (h.2.2 93 4 (by decide) (by decide)).trans rfl
theorem gL_93_5 {M : ip_H} (h : ip_Fr M) : M.2.2.1 93 5 = 0 := (h.2.2 93 5 (by decide) (by decide)).trans rfl
theorem gL_93_6 {M : ip_H} (h : ip_Fr M) : M.2.2.1 93 6 = 0 := (h.2.2 93 6 (by decide) (by decide)).trans rfl
theorem gL_93_7 {M : ip_H} (h : ip_Fr M) : M.2.2.1 93 7 = 0 := (h.2.2 93 7 (by decide) (by decide)).trans rfl
theorem gL_93_8 {M : ip_H} (h : ip_Fr M) : M.2.2.1 93 8 = 0 := (h.2.2 93 8 (by decide) (by decide)).trans rfl
theorem gL_94_0 {M : ip_H} (h : ip_Fr M) : M.2.2.1 94 0 = 0 := (h.2.2 94 0 (by decide) (by decide)).trans rfl
theorem gL_94_1 {M : ip_H} (h : ip_Fr M) : M.2.2.1 94 1 = 0 := (h.2.2 94 1 (by decide) (by decide)).trans rfl
theorem gL_94_2 {M : ip_H} (h : ip_Fr M) : M.2.2.1 94 2 = 0 := (h.2.2 94 2 (by decide) (by decide)).trans rfl
theorem gL_94_3 {M : ip_H} (h : ip_Fr M) : M.2.2.1 94 3 = 1 := (h.2.2 94 3 (by decide) (by decide)).trans rfl
theorem gL_100_0 {M : ip_H} (h : ip_Fr M) : M.2.2.1 100 0 = 0 := (h.2.2 100 0 (by decide) (by decide)).trans rfl
theorem gL_100_1 {M : ip_H} (h : ip_Fr M) : M.2.2.1 100 1 = 0 := (h.2.2 100 1 (by decide) (by decide)).trans rfl
theorem gL_100_2 {M : ip_H} (h : ip_Fr M) : M.2.2.1 100 2 = 0 := (h.2.2 100 2 (by decide) (by decide)).trans rfl
theorem gL_100_3 {M : ip_H} (h : ip_Fr M) : M.2.2.1 100 3 = 1 := (h.2.2 100 3 (by decide) (by decide)).trans rfl
theorem gL_101_0 {M : ip_H} (h : ip_Fr M) : M.2.2.1 101 0 = 0 := (h.2.2 101 0 (by decide) (by decide)).trans rfl
theorem gL_101_1 {M : ip_H} (h : ip_Fr M) : M.2.2.1 101 1 = 0 := (h.2.2 101 1 (by decide) (by decide)).trans rfl
theorem gL_101_2 {M : ip_H} (h : ip_Fr M) : M.2.2.1 101 2 = 0 := (h.2.2 101 2 (by decide) (by decide)).trans rfl
theorem gL_101_3 {M : ip_H} (h : ip_Fr M) : M.2.2.1 101 3 = 1 := (h.2.2 101 3 (by decide) (by decide)).trans rfl
theorem gL_102_0 {M : ip_H} (h : ip_Fr M) : M.2.2.1 102 0 = 0 := (h.2.2 102 0 (by decide) (by decide)).trans rfl
theorem gL_102_1 {M : ip_H} (h : ip_Fr M) : M.2.2.1 102 1 = 0 := (h.2.2 102 1 (by decide) (by decide)).trans rfl
theorem gL_102_2 {M : ip_H} (h : ip_Fr M) : M.2.2.1 102 2 = 0 := (h.2.2 102 2 (by decide) (by decide)).trans rfl
theorem gL_102_3 {M : ip_H} (h : ip_Fr M) : M.2.2.1 102 3 = 1 := (h.2.2 102 3 (by decide) (by decide)).trans rfl
theorem gL_103_0 {M : ip_H} (h : ip_Fr M) : M.2.2.1 103 0 = 0 := (h.2.2 103 0 (by decide) (by decide)).trans rfl
theorem gL_103_1 {M : ip_H} (h : ip_Fr M) : M.2.2.1 103 1 = 0 := (h.2.2 103 1 (by decide) (by decide)).trans rfl
theorem gL_103_2 {M : ip_H} (h : ip_Fr M) : M.2.2.1 103 2 = 0 := (h.2.2 103 2 (by decide) (by decide)).trans rfl
theorem gL_103_3 {M : ip_H} (h : ip_Fr M) : M.2.2.1 103 3 = 1 := (h.2.2 103 3 (by decide) (by decide)).trans rfl
theorem gL_104_0 {M : ip_H} (h : ip_Fr M) : M.2.2.1 104 0 = 0 := (h.2.2 104 0 (by decide) (by decide)).trans rfl
theorem gL_104_1 {M : ip_H} (h : ip_Fr M) : M.2.2.1 104 1 = 0 := (h.2.2 104 1 (by decide) (by decide)).trans rfl
theorem gL_104_2 {M : ip_H} (h : ip_Fr M) : M.2.2.1 104 2 = 0 := (h.2.2 104 2 (by decide) (by decide)).trans rfl
theorem gL_104_3 {M : ip_H} (h : ip_Fr M) : M.2.2.1 104 3 = 1 := (h.2.2 104 3 (by decide) (by decide)).trans rfl
theorem gL_105_0 {M : ip_H} (h : ip_Fr M) : M.2.2.1 105 0 = 0 := (h.2.2 105 0 (by decide) (by decide)).trans rfl
theorem gL_105_1 {M : ip_H} (h : ip_Fr M) : M.2.2.1 105 1 = 0 := (h.2.2 105 1 (by decide) (by decide)).trans rfl
theorem gL_105_2 {M : ip_H} (h : ip_Fr M) : M.2.2.1 105 2 = 0 := (h.2.2 105 2 (by decide) (by decide)).trans rfl
theorem gL_105_3 {M : ip_H} (h : ip_Fr M) : M.2.2.1 105 3 = 1 := (h.2.2 105 3 (by decide) (by decide)).trans rfl
theorem gL_106_0 {M : ip_H} (h : ip_Fr M) : M.2.2.1 106 0 = 0 := (h.2.2 106 0 (by decide) (by decide)).trans rfl
theorem gL_106_1 {M : ip_H} (h : ip_Fr M) : M.2.2.1 106 1 = 0 := (h.2.2 106 1 (by decide) (by decide)).trans rfl
theorem gL_106_2 {M : ip_H} (h : ip_Fr M) : M.2.2.1 106 2 = 0 := (h.2.2 106 2 (by decide) (by decide)).trans rfl
theorem gL_106_3 {M : ip_H} (h : ip_Fr M) : M.2.2.1 106 3 = 1 := (h.2.2 106 3 (by decide) (by decide)).trans rfl
theorem gL_107_0 {M : ip_H} (h : ip_Fr M) : M.2.2.1 107 0 = 0 := (h.2.2 107 0 (by decide) (by decide)).trans rfl
theorem gL_107_1 {M : ip_H} (h : ip_Fr M) : M.2.2.1 107 1 = 0 := (h.2.2 107 1 (by decide) (by decide)).trans rfl
theorem gL_107_2 {M : ip_H} (h : ip_Fr M) : M.2.2.1 107 2 = 0 := (h.2.2 107 2 (by decide) (by decide)).trans rfl
theorem gL_107_3 {M : ip_H} (h : ip_Fr M) : M.2.2.1 107 3 = 1 := (h.2.2 107 3 (by decide) (by decide)).trans rfl
theorem gI_108_0 {M : ip_H} (h : ip_Fr M) : M.2.1 108 0 = 0 := (h.2.1 108 0 (by decide) (by decide)).trans rfl
theorem gI_108_3 {M : ip_H} (h : ip_Fr M) : M.2.1 108 3 = 0 := (h.2.1 108 3 (by decide) (by decide)).trans rfl
theorem gI_108_4 {M : ip_H} (h : ip_Fr M) : M.2.1 108 4 = 0 := (h.2.1 108 4 (by decide) (by decide)).trans rfl
theorem gI_108_12 {M : ip_H} (h : ip_Fr M) : M.2.1 108 12 = 0 := (h.2.1 108 12 (by decide) (by decide)).trans rfl
theorem gL_108_13 {M : ip_H} (h : ip_Fr M) : M.2.2.1 108 13 = 0 := (h.2.2 108 13 (by decide) (by decide)).trans rfl
theorem gL_108_14 {M : ip_H} (h : ip_Fr M) : M.2.2.1 108 14 = 0 := (h.2.2 108 14 (by decide) (by decide)).trans rfl
theorem gL_108_15 {M : ip_H} (h : ip_Fr M) : M.2.2.1 108 15 = 0 := (h.2.2 108 15 (by decide) (by decide)).trans rfl
theorem gL_108_16 {M : ip_H} (h : ip_Fr M) : M.2.2.1 108 16 = 0 := (h.2.2 108 16 (by decide) (by decide)).trans rfl
theorem gI_108_17 {M : ip_H} (h : ip_Fr M) : M.2.1 108 17 = 0 := (h.2.1 108 17 (by decide) (by decide)).trans rfl
theorem gI_108_18 {M : ip_H} (h : ip_Fr M) : M.2.1 108 18 = 0 := (h.2.1 108 18 (by decide) (by decide)).trans rfl
theorem gL_108_19 {M : ip_H} (h : ip_Fr M) : M.2.2.1 108 19 = 0 := (h.2.2 108 19 (by decide) (by decide)).trans rfl
theorem gL_108_20 {M : ip_H} (h : ip_Fr M) : M.2.2.1 108 20 = 0 := (h.2.2 108 20 (by decide) (by decide)).trans rfl
theorem gL_108_21 {M : ip_H} (h : ip_Fr M) : M.2.2.1 108 21 = 0 := (h.2.2 108 21 (by decide) (by decide)).trans rfl
theorem gL_108_22 {M : ip_H} (h : ip_Fr M) : M.2.2.1 108 22 = 0 := (h.2.2 108 22 (by decide) (by decide)).trans rfl
theorem gL_108_23 {M : ip_H} (h : ip_Fr M) : M.2.2.1 108 23 = 0 := (h.2.2 108 23 (by decide) (by decide)).trans rfl
theorem gL_108_24 {M : ip_H} (h : ip_Fr M) : M.2.2.1 108 24 = 0 := (h.2.2 108 24 (by decide) (by decide)).trans rfl
theorem gL_108_25 {M : ip_H} (h : ip_Fr M) : M.2.2.1 108 25 = 0 := (h.2.2 108 25 (by decide) (by decide)).trans rfl
theorem gL_108_26 {M : ip_H} (h : ip_Fr M) : M.2.2.1 108 26 = 0 := (h.2.2 108 26 (by decide) (by decide)).trans rfl
theorem gI_108_27 {M : ip_H} (h : ip_Fr M) : M.2.1 108 27 = 0 := (h.2.1 108 27 (by decide) (by decide)).trans rfl
theorem gI_108_29 {M : ip_H} (h : ip_Fr M) : M.2.1 108 29 = 0 := (h.2.1 108 29 (by decide) (by decide)).trans rfl
theorem gI_108_32 {M : ip_H} (h : ip_Fr M) : M.2.1 108 32 = 0 := (h.2.1 108 32 (by decide) (by decide)).trans rfl
theorem gI_108_33 {M : ip_H} (h : ip_Fr M) : M.2.1 108 33 = (-1) := (h.2.1 108 33 (by decide) (by decide)).trans rfl
theorem gI_108_34 {M : ip_H} (h : ip_Fr M) : M.2.1 108 34 = 0 := (h.2.1 108 34 (by decide) (by decide)).trans rfl
theorem gI_108_35 {M : ip_H} (h : ip_Fr M) : M.2.1 108 35 = 0 := (h.2.1 108 35 (by decide) (by decide)).trans rfl
theorem gI_108_36 {M : ip_H} (h : ip_Fr M) : M.2.1 108 36 = 0 := (h.2.1 108 36 (by decide) (by decide)).trans rfl
theorem gI_108_37 {M : ip_H} (h : ip_Fr M) : M.2.1 108 37 = 0 := (h.2.1 108 37 (by decide) (by decide)).trans rfl
theorem gI_108_38 {M : ip_H} (h : ip_Fr M) : M.2.1 108 38 = 0 := (h.2.1 108 38 (by decide) (by decide)).trans rfl
theorem gL_108_40 {M : ip_H} (h : ip_Fr M) : M.2.2.1 108 40 = 0 := (h.2.2 108 40 (by decide) (by decide)).trans rfl
theorem gL_108_41 {M : ip_H} (h : ip_Fr M) : M.2.2.1 108 41 = 0 := (h.2.2 108 41 (by decide) (by decide)).trans rfl
theorem gI_109_0 {M : ip_H} (h : ip_Fr M) : M.2.1 109 0 = 0 := (h.2.1 109 0 (by decide) (by decide)).trans rfl
theorem gI_109_1 {M : ip_H} (h : ip_Fr M) : M.2.1 109 1 = 0 := (h.2.1 109 1 (by decide) (by decide)).trans rfl
theorem gI_109_2 {M : ip_H} (h : ip_Fr M) : M.2.1 109 2 = 2 := (h.2.1 109 2 (by decide) (by decide)).trans rfl
theorem gI_109_3 {M : ip_H} (h : ip_Fr M) : M.2.1 109 3 = 0 := (h.2.1 109 3 (by decide) (by decide)).trans rfl
theorem gI_109_4 {M : ip_H} (h : ip_Fr M) : M.2.1 109 4 = 0 := (h.2.1 109 4 (by decide) (by decide)).trans rfl
theorem gI_109_5 {M : ip_H} (h : ip_Fr M) : M.2.1 109 5 = 0 := (h.2.1 109 5 (by decide) (by decide)).trans rfl
theorem gI_109_6 {M : ip_H} (h : ip_Fr M) : M.2.1 109 6 = (-1) := (h.2.1 109 6 (by decide) (by decide)).trans rfl
theorem gI_109_7 {M : ip_H} (h : ip_Fr M) : M.2.1 109 7 = 0 := (h.2.1 109 7 (by decide) (by decide)).trans rfl
theorem gI_109_8 {M : ip_H} (h : ip_Fr M) : M.2.1 109 8 = 0 := (h.2.1 109 8 (by decide) (by decide)).trans rfl
theorem gI_109_9 {M : ip_H} (h : ip_Fr M) : M.2.1 109 9 = 0 := (h.2.1 109 9 (by decide) (by decide)).trans rfl
theorem gI_109_10 {M : ip_H} (h : ip_Fr M) : M.2.1 109 10 = 0 := (h.2.1 109 10 (by decide) (by decide)).trans rfl
theorem gI_109_11 {M : ip_H} (h : ip_Fr M) : M.2.1 109 11 = 0 := (h.2.1 109 11 (by decide) (by decide)).trans rfl
theorem gI_109_12 {M : ip_H} (h : ip_Fr M) : M.2.1 109 12 = 1 := (h.2.1 109 12 (by decide) (by decide)).trans rfl
theorem gI_109_13 {M : ip_H} (h : ip_Fr M) : M.2.1 109 13 = 0 := (h.2.1 109 13 (by decide) (by decide)).trans rfl
theorem gI_109_14 {M : ip_H} (h : ip_Fr M) : M.2.1 109 14 = 0 := (h.2.1 109 14 (by decide) (by decide)).trans rfl
theorem gI_109_15 {M : ip_H} (h : ip_Fr M) : M.2.1 109 15 = 0 := (h.2.1 109 15 (by decide) (by decide)).trans rfl
theorem gI_109_16 {M : ip_H} (h : ip_Fr M) : M.2.1 109 16 = 1 := (h.2.1 109 16 (by decide) (by decide)).trans rfl
theorem gI_109_17 {M : ip_H} (h : ip_Fr M) : M.2.1 109 17 = 0 := (h.2.1 109 17 (by decide) (by decide)).trans rfl
theorem gI_109_18 {M : ip_H} (h : ip_Fr M) : M.2.1 109 18 = 0 := (h.2.1 109 18 (by decide) (by decide)).trans rfl
theorem gI_109_19 {M : ip_H} (h : ip_Fr M) : M.2.1 109 19 = 0 := (h.2.1 109 19 (by decide) (by decide)).trans rfl
theorem gI_109_20 {M : ip_H} (h : ip_Fr M) : M.2.1 109 20 = 1 := (h.2.1 109 20 (by decide) (by decide)).trans rfl
theorem gI_109_21 {M : ip_H} (h : ip_Fr M) : M.2.1 109 21 = 0 := (h.2.1 109 21 (by decide) (by decide)).trans rfl
theorem gI_109_22 {M : ip_H} (h : ip_Fr M) : M.2.1 109 22 = 0 := (h.2.1 109 22 (by decide) (by decide)).trans rfl
theorem gI_109_23 {M : ip_H} (h : ip_Fr M) : M.2.1 109 23 = 0 := (h.2.1 109 23 (by decide) (by decide)).trans rfl
theorem gI_109_24 {M : ip_H} (h : ip_Fr M) : M.2.1 109 24 = 1 := (h.2.1 109 24 (by decide) (by decide)).trans rfl
theorem gI_109_25 {M : ip_H} (h : ip_Fr M) : M.2.1 109 25 = 0 := (h.2.1 109 25 (by decide) (by decide)).trans rfl
theorem gI_109_26 {M : ip_H} (h : ip_Fr M) : M.2.1 109 26 = 0 := (h.2.1 109 26 (by decide) (by decide)).trans rfl
theorem gI_109_27 {M : ip_H} (h : ip_Fr M) : M.2.1 109 27 = 0 := (h.2.1 109 27 (by decide) (by decide)).trans rfl
theorem gI_109_28 {M : ip_H} (h : ip_Fr M) : M.2.1 109 28 = 1 := (h.2.1 109 28 (by decide) (by decide)).trans rfl
theorem gI_109_29 {M : ip_H} (h : ip_Fr M) : M.2.1 109 29 = 0 := (h.2.1 109 29 (by decide) (by decide)).trans rfl
theorem gI_109_30 {M : ip_H} (h : ip_Fr M) : M.2.1 109 30 = 0 := (h.2.1 109 30 (by decide) (by decide)).trans rfl
theorem gI_109_31 {M : ip_H} (h : ip_Fr M) : M.2.1 109 31 = 0 := (h.2.1 109 31 (by decide) (by decide)).trans rfl
theorem gI_109_32 {M : ip_H} (h : ip_Fr M) : M.2.1 109 32 = 1 := (h.2.1 109 32 (by decide) (by decide)).trans rfl
theorem gI_109_33 {M : ip_H} (h : ip_Fr M) : M.2.1 109 33 = 0 := (h.2.1 109 33 (by decide) (by decide)).trans rfl
theorem gI_109_34 {M : ip_H} (h : ip_Fr M) : M.2.1 109 34 = 0 := (h.2.1 109 34 (by decide) (by decide)).trans rfl
theorem gI_109_35 {M : ip_H} (h : ip_Fr M) : M.2.1 109 35 = 0 := (h.2.1 109 35 (by decide) (by decide)).trans rfl
theorem gI_109_36 {M : ip_H} (h : ip_Fr M) : M.2.1 109 36 = 0 := (h.2.1 109 36 (by decide) (by decide)).trans rfl
theorem gI_109_37 {M : ip_H} (h : ip_Fr M) : M.2.1 109 37 = 0 := (h.2.1 109 37 (by decide) (by decide)).trans rfl
theorem gI_109_38 {M : ip_H} (h : ip_Fr M) : M.2.1 109 38 = 0 := (h.2.1 109 38 (by decide) (by decide)).trans rfl
theorem gI_109_39 {M : ip_H} (h : ip_Fr M) : M.2.1 109 39 = 0 := (h.2.1 109 39 (by decide) (by decide)).trans rfl
theorem gI_109_40 {M : ip_H} (h : ip_Fr M) : M.2.1 109 40 = 0 := (h.2.1 109 40 (by decide) (by decide)).trans rfl
theorem gI_109_41 {M : ip_H} (h : ip_Fr M) : M.2.1 109 41 = 0 := (h.2.1 109 41 (by decide) (by decide)).trans rfl
theorem gI_109_42 {M : ip_H} (h : ip_Fr M) : M.2.1 109 42 = 0 := (h.2.1 109 42 (by decide) (by decide)).trans rfl
theorem gI_109_43 {M : ip_H} (h : ip_Fr M) : M.2.1 109 43 = 0 := (h.2.1 109 43 (by decide) (by decide)).trans rfl
theorem gI_109_44 {M : ip_H} (h : ip_Fr M) : M.2.1 109 44 = 0 := (h.2.1 109 44 (by decide) (by decide)).trans rfl
theorem gI_109_45 {M : ip_H} (h : ip_Fr M) : M.2.1 109 45 = 0 := (h.2.1 109 45 (by decide) (by decide)).trans rfl
theorem gI_109_46 {M : ip_H} (h : ip_Fr M) : M.2.1 109 46 = 0 := (h.2.1 109 46 (by decide) (by decide)).trans rfl
theorem gI_109_47 {M : ip_H} (h : ip_Fr M) : M.2.1 109 47 = 0 := (h.2.1 109 47 (by decide) (by decide)).trans rfl
theorem gL_110_0 {M : ip_H} (h : ip_Fr M) : M.2.2.1 110 0 = 0 := (h.2.2 110 0 (by decide) (by decide)).trans rfl
theorem gL_110_1 {M : ip_H} (h : ip_Fr M) : M.2.2.1 110 1 = 0 := (h.2.2 110 1 (by decide) (by decide)).trans rfl
theorem gL_110_2 {M : ip_H} (h : ip_Fr M) : M.2.2.1 110 2 = 0 := (h.2.2 110 2 (by decide) (by decide)).trans rfl
theorem gL_110_3 {M : ip_H} (h : ip_Fr M) : M.2.2.1 110 3 = 0 := (h.2.2 110 3 (by decide) (by decide)).trans rfl
theorem gL_110_4 {M : ip_H} (h : ip_Fr M) : M.2.2.1 110 4 = 0 := (h.2.2 110 4 (by decide) (by decide)).trans rfl
theorem gL_110_5 {M : ip_H} (h : ip_Fr M) : M.2.2.1 110 5 = 0 := (h.2.2 110 5 (by decide) (by decide)).trans rfl
theorem gL_110_6 {M : ip_H} (h : ip_Fr M) : M.2.2.1 110 6 = 0 := (h.2.2 110 6 (by decide) (by decide)).trans rfl
theorem gL_110_7 {M : ip_H} (h : ip_Fr M) : M.2.2.1 110 7 = 0 := (h.2.2 110 7 (by decide) (by decide)).trans rfl
theorem gL_110_8 {M : ip_H} (h : ip_Fr M) : M.2.2.1 110 8 = 0 := (h.2.2 110 8 (by decide) (by decide)).trans rfl
theorem gI_111_0 {M : ip_H} (h : ip_Fr M) : M.2.1 111 0 = 0 := (h.2.1 111 0 (by decide) (by decide)).trans rfl
theorem gI_111_1 {M : ip_H} (h : ip_Fr M) : M.2.1 111 1 = 0 := (h.2.1 111 1 (by decide) (by decide)).trans rfl
theorem gI_111_2 {M : ip_H} (h : ip_Fr M) : M.2.1 111 2 = 0 := (h.2.1 111 2 (by decide) (by decide)).trans rfl
theorem gI_111_3 {M : ip_H} (h : ip_Fr M) : M.2.1 111 3 = 0 := (h.2.1 111 3 (by decide) (by decide)).trans rfl
theorem gI_111_4 {M : ip_H} (h : ip_Fr M) : M.2.1 111 4 = 0 := (h.2.1 111 4 (by decide) (by decide)).trans rfl
theorem gI_111_5 {M : ip_H} (h : ip_Fr M) : M.2.1 111 5 = 0 := (h.2.1 111 5 (by decide) (by decide)).trans rfl
theorem gI_111_6 {M : ip_H} (h : ip_Fr M) : M.2.1 111 6 = 0 := (h.2.1 111 6 (by decide) (by decide)).trans rfl
theorem gI_113_0 {M : ip_H} (h : ip_Fr M) : M.2.1 113 0 = 0 := (h.2.1 113 0 (by decide) (by decide)).trans rfl
theorem gI_113_1 {M : ip_H} (h : ip_Fr M) : M.2.1 113 1 = 0 := (h.2.1 113 1 (by decide) (by decide)).trans rfl
theorem gI_113_2 {M : ip_H} (h : ip_Fr M) : M.2.1 113 2 = 0 := (h.2.1 113 2 (by decide) (by decide)).trans rfl
theorem gI_113_3 {M : ip_H} (h : ip_Fr M) : M.2.1 113 3 = 0 := (h.2.1 113 3 (by decide) (by decide)).trans rfl
theorem gI_113_4 {M : ip_H} (h : ip_Fr M) : M.2.1 113 4 = 0 := (h.2.1 113 4 (by decide) (by decide)).trans rfl
theorem gI_113_5 {M : ip_H} (h : ip_Fr M) : M.2.1 113 5 = 0 := (h.2.1 113 5 (by decide) (by decide)).trans rfl
theorem gI_113_6 {M : ip_H} (h : ip_Fr M) : M.2.1 113 6 = 0 := (h.2.1 113 6 (by decide) (by decide)).trans rfl
theorem gI_113_7 {M : ip_H} (h : ip_Fr M) : M.2.1 113 7 = 0 := (h.2.1 113 7 (by decide) (by decide)).trans rfl
theorem gI_117_0 {M : ip_H} (h : ip_Fr M) : M.2.1 117 0 = 0 := (h.2.1 117 0 (by decide) (by decide)).trans rfl
theorem gI_117_1 {M : ip_H} (h : ip_Fr M) : M.2.1 117 1 = 0 := (h.2.1 117 1 (by decide) (by decide)).trans rfl
theorem ip_ix_eq (i : Int32) (n : Nat) : (ip_ix i n = true) = (¬ i < 0 ∧ i.toNatClampNeg < n) := by
  unfold ip_ix
  rw [Bool.and_eq_true, decide_eq_true_eq, decide_eq_true_eq]
theorem ip_w_m3 : ((-3) : Int32).toInt64 = (-3) := by decide +kernel
theorem ip_w_m2 : ((-2) : Int32).toInt64 = (-2) := by decide +kernel
theorem ip_w_m1 : ((-1) : Int32).toInt64 = (-1) := by decide +kernel
theorem ip_w_0 : (0 : Int32).toInt64 = 0 := by decide +kernel
theorem ip_w_1 : (1 : Int32).toInt64 = 1 := by decide +kernel
theorem ip_w_2 : (2 : Int32).toInt64 = 2 := by decide +kernel
theorem ip_w_3 : (3 : Int32).toInt64 = 3 := by decide +kernel
theorem ip_w_4 : (4 : Int32).toInt64 = 4 := by decide +kernel
theorem ip_w_5 : (5 : Int32).toInt64 = 5 := by decide +kernel
theorem ip_w_6 : (6 : Int32).toInt64 = 6 := by decide +kernel
theorem ip_w_7 : (7 : Int32).toInt64 = 7 := by decide +kernel
theorem ip_w_8 : (8 : Int32).toInt64 = 8 := by decide +kernel
theorem ip_w_9 : (9 : Int32).toInt64 = 9 := by decide +kernel
theorem ip_w_10 : (10 : Int32).toInt64 = 10 := by decide +kernel
theorem ip_w_150 : (150 : Int32).toInt64 = 150 := by decide +kernel
theorem ip_w_m150 : ((-150) : Int32).toInt64 = (-150) := by decide +kernel
theorem ip_n_0 : (0 : Int64).toInt32 = 0 := by decide +kernel
theorem ip_n_1 : (1 : Int64).toInt32 = 1 := by decide +kernel
theorem ip_n_2 : (2 : Int64).toInt32 = 2 := by decide +kernel
theorem ip_n_3 : (3 : Int64).toInt32 = 3 := by decide +kernel
theorem ip_n_m108 : ((-108) : Int64).toInt32 = (-108) := by decide +kernel
theorem ip_q2 (x : Int32) : x < 0 ∨ x = 0 ∨ x = 1 ∨ 1 < x := by
  simp only [Int32.lt_iff_toInt_lt, ← Int32.toInt_inj, Int32.reduceToInt]
  omega
theorem ip_q3 (x : Int32) : x < 0 ∨ x = 0 ∨ x = 1 ∨ x = 2 ∨ 2 < x := by
  simp only [Int32.lt_iff_toInt_lt, ← Int32.toInt_inj, Int32.reduceToInt]
  omega
theorem ip_q6 (x : Int32) : x < 0 ∨ x = 0 ∨ x = 1 ∨ x = 2 ∨ x = 3 ∨ x = 4 ∨ x = 5 ∨ 5 < x := by
  simp only [Int32.lt_iff_toInt_lt, ← Int32.toInt_inj, Int32.reduceToInt]
  omega
theorem ip_q19 (x : Int32) : x < 0 ∨ x = 0 ∨ x = 1 ∨ x = 2 ∨ x = 3 ∨ x = 4 ∨ x = 5 ∨ x = 6 ∨ x = 7 ∨ x = 8 ∨ x = 9 ∨ x = 10 ∨ x = 11 ∨ x = 12 ∨ x = 13 ∨ x = 14 ∨ x = 15 ∨ x = 16 ∨ x = 17 ∨ x = 18 ∨ 18 < x := by
  simp only [Int32.lt_iff_toInt_lt, ← Int32.toInt_inj, Int32.reduceToInt]
  omega
