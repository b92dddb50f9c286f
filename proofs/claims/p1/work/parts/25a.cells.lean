-- THE CELLS behind the two constructors
def ip_ck (l : List Nat) : Bool := l.all fun k => (List.range 48).all fun j => decide (ip_M2.2.2.2 k j = ip_rf0 k j) && (decide (ip_M2.2.1 k j = ip_i0 k j) && decide (ip_M2.2.2.1 k j = ip_l0 k j))
theorem ip_ck_use {l : List Nat} {k : Nat} (h : ip_ck l = true) (hk : k ∈ l) (j : Nat) (hj : j < 48) : ip_M2.2.2.2 k j = ip_rf0 k j ∧ ip_M2.2.1 k j = ip_i0 k j ∧ ip_M2.2.2.1 k j = ip_l0 k j := by
  have h1 := List.all_eq_true.mp (List.all_eq_true.mp h k hk) j (List.mem_range.mpr hj)
  simp only [Bool.and_eq_true, decide_eq_true_eq] at h1
  exact h1
set_option maxRecDepth 1000000 in
theorem ip_ck_0 : ip_ck [0, 1, 2, 3, 4, 5, 6, 7] = true := by decide +kernel
set_option maxRecDepth 1000000 in
theorem ip_ck_1 : ip_ck [8, 9, 10, 11, 12, 13, 14, 15] = true := by decide +kernel
set_option maxRecDepth 1000000 in
theorem ip_ck_2 : ip_ck [16, 17, 18, 19, 20, 21, 22, 23] = true := by decide +kernel
set_option maxRecDepth 1000000 in
theorem ip_ck_3 : ip_ck [24, 25, 26, 27, 28, 29, 30, 31] = true := by decide +kernel
set_option maxRecDepth 1000000 in
theorem ip_ck_4 : ip_ck [32, 33, 34, 35, 36, 37, 38, 39] = true := by decide +kernel
set_option maxRecDepth 1000000 in
theorem ip_ck_5 : ip_ck [40, 41, 42, 43, 44, 45, 46, 47] = true := by decide +kernel
set_option maxRecDepth 1000000 in
theorem ip_ck_6 : ip_ck [48, 49, 50, 51, 52, 53, 54, 55] = true := by decide +kernel
set_option maxRecDepth 1000000 in
theorem ip_ck_7 : ip_ck [56, 57, 58, 59, 60, 61, 62, 63] = true := by decide +kernel
set_option maxRecDepth 1000000 in
theorem ip_ck_8 : ip_ck [64, 65, 66, 67, 68, 69, 70, 71] = true := by decide +kernel
set_option maxRecDepth 1000000 in
theorem ip_ck_9 : ip_ck [72, 73, 74, 75, 76, 77, 78, 79] = true := by decide +kernel
set_option maxRecDepth 1000000 in
theorem ip_ck_10 : ip_ck [80, 81, 82, 83, 84, 85, 86, 87] = true := by decide +kernel
set_option maxRecDepth 1000000 in
theorem ip_ck_11 : ip_ck [88, 89, 90, 91, 92, 93, 94, 95] = true := by decide +kernel
set_option maxRecDepth 1000000 in
theorem ip_ck_12 : ip_ck [96, 97, 98, 99, 100, 101, 102, 103] = true := by decide +kernel
set_option maxRecDepth 1000000 in
theorem ip_ck_13 : ip_ck [104, 105, 106, 107, 108, 109, 110, 111] = true := by decide +kernel
set_option maxRecDepth 1000000 in
theorem ip_ck_14 : ip_ck [112, 113, 114, 115, 116, 117, 118, 119] = true := by decide +kernel
set_option maxRecDepth 1000000 in
theorem ip_ck_15 : ip_ck [120, 121, 122, 123, 124, 125, 126, 127] = true := by decide +kernel
theorem ip_ck_all (k : Nat) (hk : k < 128) (j : Nat) (hj : j < 48) : ip_M2.2.2.2 k j = ip_rf0 k j ∧ ip_M2.2.1 k j = ip_i0 k j ∧ ip_M2.2.2.1 k j = ip_l0 k j := by
  have hc : (0 ≤ k ∧ k < 8) ∨ (8 ≤ k ∧ k < 16) ∨ (16 ≤ k ∧ k < 24) ∨ (24 ≤ k ∧ k < 32) ∨ (32 ≤ k ∧ k < 40) ∨ (40 ≤ k ∧ k < 48) ∨ (48 ≤ k ∧ k < 56) ∨ (56 ≤ k ∧ k < 64) ∨ (64 ≤ k ∧ k < 72) ∨ (72 ≤ k ∧ k < 80) ∨ (80 ≤ k ∧ k < 88) ∨ (88 ≤ k ∧ k < 96) ∨ (96 ≤ k ∧ k < 104) ∨ (104 ≤ k ∧ k < 112) ∨ (112 ≤ k ∧ k < 120) ∨ (120 ≤ k ∧ k < 128) := by omega
  rcases hc with h | h | h | h | h | h | h | h | h | h | h | h | h | h | h | h
  · exact ip_ck_use ip_ck_0 (by simp only [List.mem_cons, List.not_mem_nil, or_false]; omega) j hj
  · exact ip_ck_use ip_ck_1 (by simp only [List.mem_cons, List.not_mem_nil, or_false]; omega) j hj
  · exact ip_ck_use ip_ck_2 (by simp only [List.mem_cons, List.not_mem_nil, or_false]; omega) j hj
  · exact ip_ck_use ip_ck_3 (by simp only [List.mem_cons, List.not_mem_nil, or_false]; omega) j hj
  · exact ip_ck_use ip_ck_4 (by simp only [List.mem_cons, List.not_mem_nil, or_false]; omega) j hj
  · exact ip_ck_use ip_ck_5 (by simp only [List.mem_cons, List.not_mem_nil, or_false]; omega) j hj
  · exact ip_ck_use ip_ck_6 (by simp only [List.mem_cons, List.not_mem_nil, or_false]; omega) j hj
  · exact ip_ck_use ip_ck_7 (by simp only [List.mem_cons, List.not_mem_nil, or_false]; omega) j hj
  · exact ip_ck_use ip_ck_8 (by simp only [List.mem_cons, List.not_mem_nil, or_false]; omega) j hj
  · exact ip_ck_use ip_ck_9 (by simp only [List.mem_cons, List.not_mem_nil, or_false]; omega) j hj
  · exact ip_ck_use ip_ck_10 (by simp only [List.mem_cons, List.not_mem_nil, or_false]; omega) j hj
  · exact ip_ck_use ip_ck_11 (by simp only [List.mem_cons, List.not_mem_nil, or_false]; omega) j hj
  · exact ip_ck_use ip_ck_12 (by simp only [List.mem_cons, List.not_mem_nil, or_false]; omega) j hj
  · exact ip_ck_use ip_ck_13 (by simp only [List.mem_cons, List.not_mem_nil, or_false]; omega) j hj
  · exact ip_ck_use ip_ck_14 (by simp only [List.mem_cons, List.not_mem_nil, or_false]; omega) j hj
  · exact ip_ck_use ip_ck_15 (by simp only [List.mem_cons, List.not_mem_nil, or_false]; omega) j hj
theorem ip_M2_Fr : ip_Fr ip_M2 := ⟨⟨ip_M2_SH, fun k j hk hj => (ip_ck_all k hk j hj).1⟩, fun k j hk hj => (ip_ck_all k hk j hj).2.1, fun k j hk hj => (ip_ck_all k hk j hj).2.2⟩
