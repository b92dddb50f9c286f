-- THE SCRIPT OF ONE CALL
theorem ip_sh_nwk {M : ip_H} {q : Nat × Nat × Nat} {k : Nat} (h : M.1.length = k) : ip_sh (ip_nw M q) k = q := by
  unfold ip_sh ip_nw
  simp [← h]
set_option maxHeartbeats 4000000 in
set_option maxRecDepth 100000 in
theorem law_wp (X : ip_X) (K : Option Value → ip_H → Prop) (hL : X.1 ≤ 6) (hK : ∀ M1, ip_G M1 → K (some (.int 1)) M1) : ip_wp X 295 0 [.retAddr 0, .retAddr 1, .retAddr 1, .retAddr 1] [] ip_M0 K := by
  have hF := ip_M2_Fr
  have e0 : ip_M0.1.length = 0 := rfl
  rw [w295_0, e0, w295_3_r, w295_4 X _ _ _ _ 0 (by decide) (by rw [ip_sh_nwk e0]) (by rw [ip_sh_nwk e0]), ip_init1]
  simp only [Option.toList_none, List.nil_append]
  rw [w295_7, w295_8, ip_M1_len, w295_11_r, w295_12 X _ _ _ _ 108 (by decide) (by rw [ip_sh_nwk ip_M1_len]) (by rw [ip_sh_nwk ip_M1_len]), ip_init2]
  simp only [Option.toList_none, List.nil_append]
  rw [w295_15, w295_16, w295_17]
  have hls : ip_set1 (ip_set1 (ip_set1 [.retAddr 0, .retAddr 1, .retAddr 1, .retAddr 1] 1 (.ref 0)) 2 (.ref 108)) 3 (.int 0) = [.retAddr 0, .ref 0, .ref 108, .int 0] := rfl
  rw [hls]
  by_cases h6 : X.1 = 6
  · simp (decide := true) only [h6, w295_18, w295_19, w295_20, w295_21, w295_23, w295_24, w295_27, w295_28, w295_29, w295_30, w295_32, w295_33, ip_get_0, ip_get_s, ip_ki_int, ip_kl_long, ip_ka_ref, ip_ka_scr, ip_set1, ip_set2, ip_clr_0, ip_clr_s, ip_cat_i, ip_cat_l, ip_cat_r, ip_cat_a, List.set_cons_zero, List.set_cons_succ, ip_uI_1, ip_uI_I, ip_uI_L, ip_uI_R, ip_uI_sh, ip_uL_1, ip_uL_I, ip_uL_L, ip_uL_R, ip_uL_sh, ip_G_uI, ip_G_uL, ip_vr_some, Option.toList_some, Option.toList_none, List.nil_append, List.cons_append, List.length_nil, List.length_cons, ↓reduceIte, Nat.reduceAdd, Nat.reduceLeDiff, Nat.reduceEqDiff, Nat.reduceLT, Nat.zero_add, Nat.zero_le, true_or, or_true, false_or, or_false, true_and, and_true, false_and, and_false, and_self, ne_eq, not_true_eq_false, not_false_eq_true, Int32.reduceLT, Int32.reduceLE, Int32.reduceSub, Int32.reduceAdd, Int32.reduceMul, Int32.reduceToNatClampNeg, Int32.reduceToInt , Int64.reduceLT, Int64.reduceAdd, Int64.reduceMul, Int64.reduceSub , ip_ix_eq, ip_cmp_lt, ip_cmp_gt, ip_cmp_eq, ip_cpI_I, ip_cpI_L, ip_cpI_R, ip_cpI_sh, ip_cpL_I, ip_cpL_L, ip_cpL_R, ip_cpL_sh, ip_G_cpI, ip_G_cpL, Int32.reduceOfNat]
    generalize hx : X.2 0 &&& 63 = x
    by_cases hd : x.toInt < 0 ∨ 42 < x.toInt
    · rw [if_pos hd, law_end X _ K h6]
      exact hK _ hF.1
    · rw [if_neg hd]
      have hc : x.toInt = 0 ∨ x.toInt = 1 ∨ x.toInt = 2 ∨ x.toInt = 3 ∨ x.toInt = 4 ∨ x.toInt = 5 ∨ x.toInt = 6 ∨ x.toInt = 7 ∨ x.toInt = 8 ∨ x.toInt = 9 ∨ x.toInt = 10 ∨ x.toInt = 11 ∨ x.toInt = 12 ∨ x.toInt = 13 ∨ x.toInt = 14 ∨ x.toInt = 15 ∨ x.toInt = 16 ∨ x.toInt = 17 ∨ x.toInt = 18 ∨ x.toInt = 19 ∨ x.toInt = 20 ∨ x.toInt = 21 ∨ x.toInt = 22 ∨ x.toInt = 23 ∨ x.toInt = 24 ∨ x.toInt = 25 ∨ x.toInt = 26 ∨ x.toInt = 27 ∨ x.toInt = 28 ∨ x.toInt = 29 ∨ x.toInt = 30 ∨ x.toInt = 31 ∨ x.toInt = 32 ∨ x.toInt = 33 ∨ x.toInt = 34 ∨ x.toInt = 35 ∨ x.toInt = 36 ∨ x.toInt = 37 ∨ x.toInt = 38 ∨ x.toInt = 39 ∨ x.toInt = 40 ∨ x.toInt = 41 ∨ x.toInt = 42 := by omega
      rcases hc with h | h | h | h | h | h | h | h | h | h | h | h | h | h | h | h | h | h | h | h | h | h | h | h | h | h | h | h | h | h | h | h | h | h | h | h | h | h | h | h | h | h | h

      · rw [h]; exact op_0 X _ K h6 hF ip_M2_B hK
      · rw [h]; exact op_1 X _ K h6 hF hK
      · rw [h]; exact op_2 X _ K h6 hF ip_M2_B hK
      · rw [h]; exact op_3 X _ K h6 hF ip_M2_B hK
      · rw [h]; exact op_4 X _ K h6 hF ip_M2_B hK
      · rw [h]; exact op_5 X _ K h6 hF hK
      · rw [h]; exact op_6 X _ K h6 hF hK
      · rw [h]; exact op_7 X _ K h6 hF hK
      · rw [h]; exact op_8 X _ K h6 hF hK
      · rw [h]; exact op_9 X _ K h6 hF hK
      · rw [h]; exact op_10 X _ K h6 hF hK
      · rw [h]; exact op_11 X _ K h6 hF hK
      · rw [h]; exact op_12 X _ K h6 hF hK
      · rw [h]; exact op_13 X _ K h6 hF hK
      · rw [h]; exact op_14 X _ K h6 hF hK
      · rw [h]; exact op_15 X _ K h6 hF ip_M2_B hK
      · rw [h]; exact op_16 X _ K h6 hF hK
      · rw [h]; exact op_17 X _ K h6 hF hK
      · rw [h]; exact op_18 X _ K h6 hF hK
      · rw [h]; exact op_19 X _ K h6 hF hK
      · rw [h]; exact op_20 X _ K h6 hF hK
      · rw [h]; exact op_21 X _ K h6 hF hK
      · rw [h]; exact op_22 X _ K h6 hF hK
      · rw [h]; exact op_23 X _ K h6 hF hK
      · rw [h]; exact op_24 X _ K h6 hF hK
      · rw [h]; exact op_25 X _ K h6 hF hK
      · rw [h]; exact op_26 X _ K h6 hF hK
      · rw [h]; exact op_27 X _ K h6 hF hK
      · rw [h]; exact op_28 X _ K h6 hF hK
      · rw [h]; exact op_29 X _ K h6 hF hK
      · rw [h]; exact op_30 X _ K h6 hF hK
      · rw [h]; exact op_31 X _ K h6 hF hK
      · rw [h]; exact op_32 X _ K h6 hF hK
      · rw [h]; exact op_33 X _ K h6 hF hK
      · rw [h]; exact op_34 X _ K h6 hF hK
      · rw [h]; exact op_35 X _ K h6 hF hK
      · rw [h]; exact op_36 X _ K h6 hF hK
      · rw [h]; exact op_37 X _ K h6 hF hK
      · rw [h]; exact op_38 X _ K h6 hF hK
      · rw [h]; exact op_39 X _ K h6 hF hK
      · rw [h]; exact op_40 X _ K h6 hF hK
      · rw [h]; exact op_41 X _ K h6 hF hK
      · rw [h]; exact op_42 X _ K h6 hF hK
  · have hc : X.1 = 0 ∨ X.1 = 1 ∨ X.1 = 2 ∨ X.1 = 3 ∨ X.1 = 4 ∨ X.1 = 5 := by omega
    rcases hc with h | h | h | h | h | h <;> (simp (decide := true) only [h, w295_18, w295_19, w295_20, w295_21, w295_23, w295_24, w295_1675, w295_1676, ip_get_0, ip_get_s, ip_ki_int, ip_kl_long, ip_ka_ref, ip_ka_scr, ip_set1, ip_set2, ip_clr_0, ip_clr_s, ip_cat_i, ip_cat_l, ip_cat_r, ip_cat_a, List.set_cons_zero, List.set_cons_succ, ip_uI_1, ip_uI_I, ip_uI_L, ip_uI_R, ip_uI_sh, ip_uL_1, ip_uL_I, ip_uL_L, ip_uL_R, ip_uL_sh, ip_G_uI, ip_G_uL, ip_vr_some, Option.toList_some, Option.toList_none, List.nil_append, List.cons_append, List.length_nil, List.length_cons, ↓reduceIte, Nat.reduceAdd, Nat.reduceLeDiff, Nat.reduceEqDiff, Nat.reduceLT, Nat.zero_add, Nat.zero_le, true_or, or_true, false_or, or_false, true_and, and_true, false_and, and_false, and_self, ne_eq, not_true_eq_false, not_false_eq_true, Int32.reduceLT, Int32.reduceLE, Int32.reduceSub, Int32.reduceAdd, Int32.reduceMul, Int32.reduceToNatClampNeg, Int32.reduceToInt , Int64.reduceLT, Int64.reduceAdd, Int64.reduceMul, Int64.reduceSub , ip_ix_eq, ip_cmp_lt, ip_cmp_gt, ip_cmp_eq, ip_cpI_I, ip_cpI_L, ip_cpI_R, ip_cpI_sh, ip_cpL_I, ip_cpL_L, ip_cpL_R, ip_cpL_sh, ip_G_cpI, ip_G_cpL, Int32.reduceOfNat]; exact hK _ hF.1)

