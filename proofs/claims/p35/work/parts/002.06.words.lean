noncomputable section
-- PART 06.words
-- THE TABLES WORDS THAT THE LISTS OF 03 NEED, by their places
theorem ip_t1 {w : Cond} (h : w ∈ tables_1_1) : w ∈ lw_tbl := List.mem_append_right _ (show w ∈ tables_1 from List.mem_append_left _ h)
theorem ip_t2 {w : Cond} (h : w ∈ tables_1_2) : w ∈ lw_tbl := List.mem_append_right _ (show w ∈ tables_1 from List.mem_append_right _ (List.mem_append_left _ h))
theorem ip_t3 {w : Cond} (h : w ∈ tables_1_3) : w ∈ lw_tbl := List.mem_append_right _ (show w ∈ tables_1 from List.mem_append_right _ (List.mem_append_right _ (List.mem_append_left _ h)))
theorem ip_t4 {w : Cond} (h : w ∈ tables_1_4) : w ∈ lw_tbl := List.mem_append_right _ (show w ∈ tables_1 from List.mem_append_right _ (List.mem_append_right _ (List.mem_append_right _ (List.mem_append_left _ h))))
theorem ip_t5 {w : Cond} (h : w ∈ tables_1_5) : w ∈ lw_tbl := List.mem_append_right _ (show w ∈ tables_1 from List.mem_append_right _ (List.mem_append_right _ (List.mem_append_right _ (List.mem_append_right _ (List.mem_append_left _ h)))))
theorem ip_t6 {w : Cond} (h : w ∈ tables_1_6) : w ∈ lw_tbl := List.mem_append_right _ (show w ∈ tables_1 from List.mem_append_right _ (List.mem_append_right _ (List.mem_append_right _ (List.mem_append_right _ (List.mem_append_right _ (List.mem_append_left _ h))))))
theorem ip_t7 {w : Cond} (h : w ∈ tables_1_7) : w ∈ lw_tbl := List.mem_append_right _ (show w ∈ tables_1 from List.mem_append_right _ (List.mem_append_right _ (List.mem_append_right _ (List.mem_append_right _ (List.mem_append_right _ (List.mem_append_right _ (List.mem_append_left _ h)))))))
theorem ip_t8 {w : Cond} (h : w ∈ tables_1_8) : w ∈ lw_tbl := List.mem_append_right _ (show w ∈ tables_1 from List.mem_append_right _ (List.mem_append_right _ (List.mem_append_right _ (List.mem_append_right _ (List.mem_append_right _ (List.mem_append_right _ (List.mem_append_right _ (h))))))))
def ip_FC (r : Nat × Nat × Nat × Nat × Bool) : Cond := if r.2.2.2.2 = true then .fieldLinkNest (ip_own.getD r.1 "") r.2.1 ((ip_cl.getD r.2.2.1 (RX0, TX0, 0)).2.1 r.2.2.2.1).1 ((ip_cl.getD r.2.2.1 (RX0, TX0, 0)).2.1 r.2.2.2.1).2.1 ((ip_cl.getD r.2.2.1 (RX0, TX0, 0)).2.1 r.2.2.2.1).2.2.1 RX10 else .fieldLink (ip_own.getD r.1 "") r.2.1 ((ip_cl.getD r.2.2.1 (RX0, TX0, 0)).2.1 r.2.2.2.1).1 ((ip_cl.getD r.2.2.1 (RX0, TX0, 0)).2.1 r.2.2.2.1).2.1 ((ip_cl.getD r.2.2.1 (RX0, TX0, 0)).2.1 r.2.2.2.1).2.2.1
def ip_Fp : List Nat := [386, 387, 204, 206, 207, 209, 211, 214, 216, 218, 219, 220, 221, 222, 223, 224, 225, 159, 145, 150, 155, 169, 172, 175, 178, 180, 142, 147, 152, 157, 342, 343, 344, 346, 348, 349, 130, 143, 148, 153, 316, 317, 318, 319, 320, 321, 322, 323, 170, 173, 176, 210, 212, 205, 282, 283, 285, 287, 288, 267, 370, 371, 141, 146, 151, 156, 265, 266, 394, 395, 396, 397, 398, 399, 400, 401, 402, 403, 404, 405, 406, 407, 213, 286, 284, 268, 171, 174, 177, 289, 350, 345, 347, 144, 149, 154, 179, 158, 208, 215, 217, 372, 1142, 1143, 1146, 1147, 1148, 1149, 1150, 1151, 1152, 1169, 1171, 1172, 1174, 1180, 1183, 1184, 1185, 1186, 1187, 1188, 1145, 1153, 1141, 1154, 1155, 1156, 1157, 1144, 1158, 1159, 1163, 1160, 1161, 1162, 1167, 1164, 1165, 1166, 1168, 1170, 1173, 1175, 1177, 1176, 1179, 1178, 1181, 1182]
set_option maxRecDepth 100000 in
theorem ip_Fp_ok : ((List.range 150).all fun i => decide (lw_tbl[ip_Fp.getD i 0]? = some (ip_FC (ip_F.getD i (0, 0, 0, 0, false)))) && ip_gw (ip_FC (ip_F.getD i (0, 0, 0, 0, false)))) = true := by decide +kernel
set_option maxRecDepth 100000 in
theorem ip_F_ok : ∀ r ∈ ip_F, ip_FC r ∈ lw_tbl ∧ ip_gw (ip_FC r) = true := by
  intro r hr
  obtain ⟨i, hi⟩ := List.getElem?_of_mem hr
  have hl : i < 150 := (List.getElem?_eq_some_iff.mp hi).1
  have h := List.all_eq_true.mp ip_Fp_ok i (List.mem_range.mpr hl)
  have e : ip_F.getD i (0, 0, 0, 0, false) = r := by rw [List.getD_eq_getElem?_getD, hi]; rfl
  rw [e, Bool.and_eq_true, decide_eq_true_eq] at h
  exact ⟨List.mem_of_getElem? h.1, h.2⟩
def ip_KC (r : Nat × Nat × Nat × Nat) : Cond := if r.2.2.2 < 3 then .methodLink (ip_own.getD r.1 "") r.2.1 (ip_nm r.2.2.1) else .methodLinkNest (ip_own.getD r.1 "") r.2.1 (ip_nm r.2.2.1) RX10
def ip_KS (r : Nat × Nat × Nat × Nat) : Cond := if r.2.2.2 = 0 ∨ r.2.2.2 = 3 then .static (ip_nm r.2.2.1) else .instanceMethod (ip_nm r.2.2.1)
def ip_KV (r : Nat × Nat × Nat × Nat) : Cond := if r.2.2.2 = 1 ∨ r.2.2.2 = 4 then .selects (ip_nm r.2.2.1).cls (ip_nm r.2.2.1) (ip_nm r.2.2.1) else ip_KS r
def ip_Kok (r : Nat × Nat × Nat × Nat) : Prop := (ip_KC r ∈ lw_tbl ∧ ip_KS r ∈ lw_tbl ∧ ip_KV r ∈ lw_tbl) ∧ ip_gw (ip_KC r) = true ∧ ip_gw (ip_KS r) = true ∧ ip_gw (ip_KV r) = true
set_option maxRecDepth 100000 in
theorem ip_k_0 : ip_Kok (0, 19, 62, 1) := ⟨⟨(ip_t4 (ip_v4_4 (List.mem_of_getElem? (l := ip_u4_4.1) (i := 19) rfl))), (ip_t3 (ip_v3_0 (List.mem_of_getElem? (l := ip_u3_0.1) (i := 30) rfl))), (ip_t3 (ip_v3_0 (List.mem_of_getElem? (l := ip_u3_0.1) (i := 31) rfl)))⟩, rfl, rfl, rfl⟩
set_option maxRecDepth 100000 in
theorem ip_k_1 : ip_Kok (0, 25, 2, 1) := ⟨⟨(ip_t4 (ip_v4_4 (List.mem_of_getElem? (l := ip_u4_4.1) (i := 20) rfl))), (ip_t4 (ip_v4_4 (List.mem_of_getElem? (l := ip_u4_4.1) (i := 22) rfl))), (List.mem_of_getElem? (l := lw_tbl) (i := 19) rfl)⟩, rfl, rfl, rfl⟩
set_option maxRecDepth 100000 in
theorem ip_k_2 : ip_Kok (0, 29, 3, 0) := ⟨⟨(ip_t4 (ip_v4_4 (List.mem_of_getElem? (l := ip_u4_4.1) (i := 24) rfl))), (ip_t4 (ip_v4_4 (List.mem_of_getElem? (l := ip_u4_4.1) (i := 25) rfl))), (ip_t4 (ip_v4_4 (List.mem_of_getElem? (l := ip_u4_4.1) (i := 25) rfl)))⟩, rfl, rfl, rfl⟩
set_option maxRecDepth 100000 in
theorem ip_k_3 : ip_Kok (0, 33, 164, 3) := ⟨⟨(ip_t4 (ip_v4_4 (List.mem_of_getElem? (l := ip_u4_4.1) (i := 27) rfl))), (ip_t4 (ip_v4_3 (List.mem_of_getElem? (l := ip_u4_3.1) (i := 6) rfl))), (ip_t4 (ip_v4_3 (List.mem_of_getElem? (l := ip_u4_3.1) (i := 6) rfl)))⟩, rfl, rfl, rfl⟩
set_option maxRecDepth 100000 in
theorem ip_k_4 : ip_Kok (0, 39, 4, 1) := ⟨⟨(ip_t4 (ip_v4_5 (List.mem_of_getElem? (l := ip_u4_5.1) (i := 28) rfl))), (ip_t4 (ip_v4_4 (List.mem_of_getElem? (l := ip_u4_4.1) (i := 29) rfl))), (ip_t4 (ip_v4_4 (List.mem_of_getElem? (l := ip_u4_4.1) (i := 30) rfl)))⟩, rfl, rfl, rfl⟩
set_option maxRecDepth 100000 in
theorem ip_k_5 : ip_Kok (0, 42, 9, 1) := ⟨⟨(ip_t4 (ip_v4_6 (List.mem_of_getElem? (l := ip_u4_6.1) (i := 9) rfl))), (ip_t4 (ip_v4_6 (List.mem_of_getElem? (l := ip_u4_6.1) (i := 11) rfl))), (List.mem_of_getElem? (l := lw_tbl) (i := 20) rfl)⟩, rfl, rfl, rfl⟩
set_option maxRecDepth 100000 in
theorem ip_k_6 : ip_Kok (1, 21, 60, 5) := ⟨⟨(ip_t1 (ip_v1_3 (List.mem_of_getElem? (l := ip_u1_3.1) (i := 10) rfl))), (ip_t1 (ip_v1_1 (List.mem_of_getElem? (l := ip_u1_1.1) (i := 0) rfl))), (ip_t1 (ip_v1_1 (List.mem_of_getElem? (l := ip_u1_1.1) (i := 0) rfl)))⟩, rfl, rfl, rfl⟩
set_option maxRecDepth 100000 in
theorem ip_k_7 : ip_Kok (1, 44, 92, 5) := ⟨⟨(ip_t1 (ip_v1_3 (List.mem_of_getElem? (l := ip_u1_3.1) (i := 12) rfl))), (ip_t1 (ip_v1_1 (List.mem_of_getElem? (l := ip_u1_1.1) (i := 11) rfl))), (ip_t1 (ip_v1_1 (List.mem_of_getElem? (l := ip_u1_1.1) (i := 11) rfl)))⟩, rfl, rfl, rfl⟩
set_option maxRecDepth 100000 in
theorem ip_k_8 : ip_Kok (1, 68, 11, 1) := ⟨⟨(ip_t3 (ip_v3_2 (List.mem_of_getElem? (l := ip_u3_2.1) (i := 31) rfl))), (ip_t3 (ip_v3_3 (List.mem_of_getElem? (l := ip_u3_3.1) (i := 0) rfl))), (ip_t3 (ip_v3_3 (List.mem_of_getElem? (l := ip_u3_3.1) (i := 1) rfl)))⟩, rfl, rfl, rfl⟩
set_option maxRecDepth 100000 in
theorem ip_k_9 : ip_Kok (1, 73, 14, 1) := ⟨⟨(ip_t3 (ip_v3_2 (List.mem_of_getElem? (l := ip_u3_2.1) (i := 18) rfl))), (ip_t3 (ip_v3_2 (List.mem_of_getElem? (l := ip_u3_2.1) (i := 19) rfl))), (ip_t3 (ip_v3_2 (List.mem_of_getElem? (l := ip_u3_2.1) (i := 20) rfl)))⟩, rfl, rfl, rfl⟩
set_option maxRecDepth 100000 in
theorem ip_k_10 : ip_Kok (1, 77, 96, 1) := ⟨⟨(ip_t3 (ip_v3_3 (List.mem_of_getElem? (l := ip_u3_3.1) (i := 19) rfl))), (ip_t3 (ip_v3_3 (List.mem_of_getElem? (l := ip_u3_3.1) (i := 20) rfl))), (ip_t3 (ip_v3_3 (List.mem_of_getElem? (l := ip_u3_3.1) (i := 21) rfl)))⟩, rfl, rfl, rfl⟩
set_option maxRecDepth 100000 in
theorem ip_k_11 : ip_Kok (1, 81, 15, 1) := ⟨⟨(ip_t3 (ip_v3_3 (List.mem_of_getElem? (l := ip_u3_3.1) (i := 23) rfl))), (ip_t3 (ip_v3_2 (List.mem_of_getElem? (l := ip_u3_2.1) (i := 15) rfl))), (ip_t3 (ip_v3_2 (List.mem_of_getElem? (l := ip_u3_2.1) (i := 16) rfl)))⟩, rfl, rfl, rfl⟩
set_option maxRecDepth 100000 in
theorem ip_k_12 : ip_Kok (1, 85, 19, 0) := ⟨⟨(ip_t3 (ip_v3_1 (List.mem_of_getElem? (l := ip_u3_1.1) (i := 22) rfl))), (ip_t3 (ip_v3_1 (List.mem_of_getElem? (l := ip_u3_1.1) (i := 23) rfl))), (ip_t3 (ip_v3_1 (List.mem_of_getElem? (l := ip_u3_1.1) (i := 23) rfl)))⟩, rfl, rfl, rfl⟩
set_option maxRecDepth 100000 in
theorem ip_k_13 : ip_Kok (1, 89, 46, 1) := ⟨⟨(ip_t3 (ip_v3_1 (List.mem_of_getElem? (l := ip_u3_1.1) (i := 25) rfl))), (ip_t3 (ip_v3_1 (List.mem_of_getElem? (l := ip_u3_1.1) (i := 26) rfl))), (ip_t3 (ip_v3_1 (List.mem_of_getElem? (l := ip_u3_1.1) (i := 27) rfl)))⟩, rfl, rfl, rfl⟩
set_option maxRecDepth 100000 in
theorem ip_k_14 : ip_Kok (1, 95, 49, 1) := ⟨⟨(ip_t3 (ip_v3_1 (List.mem_of_getElem? (l := ip_u3_1.1) (i := 29) rfl))), (ip_t2 (ip_v2_6 (List.mem_of_getElem? (l := ip_u2_6.1) (i := 5) rfl))), (ip_t2 (ip_v2_6 (List.mem_of_getElem? (l := ip_u2_6.1) (i := 6) rfl)))⟩, rfl, rfl, rfl⟩
set_option maxRecDepth 100000 in
theorem ip_k_15 : ip_Kok (1, 98, 21, 1) := ⟨⟨(ip_t3 (ip_v3_2 (List.mem_of_getElem? (l := ip_u3_2.1) (i := 2) rfl))), (ip_t2 (ip_v2_5 (List.mem_of_getElem? (l := ip_u2_5.1) (i := 11) rfl))), (ip_t2 (ip_v2_5 (List.mem_of_getElem? (l := ip_u2_5.1) (i := 12) rfl)))⟩, rfl, rfl, rfl⟩
set_option maxRecDepth 100000 in
theorem ip_k_16 : ip_Kok (1, 101, 95, 1) := ⟨⟨(ip_t3 (ip_v3_2 (List.mem_of_getElem? (l := ip_u3_2.1) (i := 3) rfl))), (ip_t2 (ip_v2_7 (List.mem_of_getElem? (l := ip_u2_7.1) (i := 6) rfl))), (ip_t2 (ip_v2_7 (List.mem_of_getElem? (l := ip_u2_7.1) (i := 7) rfl)))⟩, rfl, rfl, rfl⟩
set_option maxRecDepth 100000 in
theorem ip_k_17 : ip_Kok (1, 105, 28, 1) := ⟨⟨(ip_t3 (ip_v3_2 (List.mem_of_getElem? (l := ip_u3_2.1) (i := 4) rfl))), (ip_t3 (ip_v3_2 (List.mem_of_getElem? (l := ip_u3_2.1) (i := 6) rfl))), (List.mem_of_getElem? (l := lw_tbl) (i := 5) rfl)⟩, rfl, rfl, rfl⟩
set_option maxRecDepth 100000 in
theorem ip_k_18 : ip_Kok (1, 108, 64, 1) := ⟨⟨(ip_t3 (ip_v3_2 (List.mem_of_getElem? (l := ip_u3_2.1) (i := 9) rfl))), (ip_t3 (ip_v3_2 (List.mem_of_getElem? (l := ip_u3_2.1) (i := 10) rfl))), (ip_t3 (ip_v3_2 (List.mem_of_getElem? (l := ip_u3_2.1) (i := 11) rfl)))⟩, rfl, rfl, rfl⟩
set_option maxRecDepth 100000 in
theorem ip_k_19 : ip_Kok (1, 111, 20, 1) := ⟨⟨(ip_t4 (ip_v4_1 (List.mem_of_getElem? (l := ip_u4_1.1) (i := 23) rfl))), (ip_t3 (ip_v3_1 (List.mem_of_getElem? (l := ip_u3_1.1) (i := 31) rfl))), (ip_t3 (ip_v3_2 (List.mem_of_getElem? (l := ip_u3_2.1) (i := 0) rfl)))⟩, rfl, rfl, rfl⟩
set_option maxRecDepth 100000 in
theorem ip_k_20 : ip_Kok (1, 115, 25, 1) := ⟨⟨(ip_t4 (ip_v4_1 (List.mem_of_getElem? (l := ip_u4_1.1) (i := 24) rfl))), (ip_t3 (ip_v3_2 (List.mem_of_getElem? (l := ip_u3_2.1) (i := 28) rfl))), (ip_t3 (ip_v3_2 (List.mem_of_getElem? (l := ip_u3_2.1) (i := 29) rfl)))⟩, rfl, rfl, rfl⟩
set_option maxRecDepth 100000 in
theorem ip_k_21 : ip_Kok (1, 119, 27, 1) := ⟨⟨(ip_t4 (ip_v4_1 (List.mem_of_getElem? (l := ip_u4_1.1) (i := 25) rfl))), (ip_t3 (ip_v3_4 (List.mem_of_getElem? (l := ip_u3_4.1) (i := 26) rfl))), (ip_t3 (ip_v3_4 (List.mem_of_getElem? (l := ip_u3_4.1) (i := 27) rfl)))⟩, rfl, rfl, rfl⟩
set_option maxRecDepth 100000 in
theorem ip_k_22 : ip_Kok (1, 122, 24, 1) := ⟨⟨(ip_t3 (ip_v3_3 (List.mem_of_getElem? (l := ip_u3_3.1) (i := 7) rfl))), (ip_t3 (ip_v3_3 (List.mem_of_getElem? (l := ip_u3_3.1) (i := 9) rfl))), (List.mem_of_getElem? (l := lw_tbl) (i := 6) rfl)⟩, rfl, rfl, rfl⟩
set_option maxRecDepth 100000 in
theorem ip_k_23 : ip_Kok (1, 126, 23, 1) := ⟨⟨(ip_t3 (ip_v3_3 (List.mem_of_getElem? (l := ip_u3_3.1) (i := 3) rfl))), (ip_t3 (ip_v3_3 (List.mem_of_getElem? (l := ip_u3_3.1) (i := 4) rfl))), (ip_t3 (ip_v3_3 (List.mem_of_getElem? (l := ip_u3_3.1) (i := 5) rfl)))⟩, rfl, rfl, rfl⟩
set_option maxRecDepth 100000 in
theorem ip_k_24 : ip_Kok (1, 129, 26, 1) := ⟨⟨(ip_t3 (ip_v3_3 (List.mem_of_getElem? (l := ip_u3_3.1) (i := 11) rfl))), (ip_t3 (ip_v3_3 (List.mem_of_getElem? (l := ip_u3_3.1) (i := 13) rfl))), (List.mem_of_getElem? (l := lw_tbl) (i := 7) rfl)⟩, rfl, rfl, rfl⟩
set_option maxRecDepth 100000 in
theorem ip_k_25 : ip_Kok (1, 133, 101, 1) := ⟨⟨(ip_t3 (ip_v3_4 (List.mem_of_getElem? (l := ip_u3_4.1) (i := 0) rfl))), (ip_t2 (ip_v2_7 (List.mem_of_getElem? (l := ip_u2_7.1) (i := 14) rfl))), (ip_t2 (ip_v2_7 (List.mem_of_getElem? (l := ip_u2_7.1) (i := 15) rfl)))⟩, rfl, rfl, rfl⟩
set_option maxRecDepth 100000 in
theorem ip_k_26 : ip_Kok (1, 136, 52, 1) := ⟨⟨(ip_t3 (ip_v3_4 (List.mem_of_getElem? (l := ip_u3_4.1) (i := 1) rfl))), (ip_t3 (ip_v3_1 (List.mem_of_getElem? (l := ip_u3_1.1) (i := 2) rfl))), (ip_t3 (ip_v3_1 (List.mem_of_getElem? (l := ip_u3_1.1) (i := 3) rfl)))⟩, rfl, rfl, rfl⟩
set_option maxRecDepth 100000 in
theorem ip_k_27 : ip_Kok (1, 140, 93, 1) := ⟨⟨(ip_t3 (ip_v3_4 (List.mem_of_getElem? (l := ip_u3_4.1) (i := 2) rfl))), (ip_t2 (ip_v2_5 (List.mem_of_getElem? (l := ip_u2_5.1) (i := 4) rfl))), (ip_t2 (ip_v2_5 (List.mem_of_getElem? (l := ip_u2_5.1) (i := 5) rfl)))⟩, rfl, rfl, rfl⟩
set_option maxRecDepth 100000 in
theorem ip_k_28 : ip_Kok (1, 144, 99, 1) := ⟨⟨(ip_t3 (ip_v3_4 (List.mem_of_getElem? (l := ip_u3_4.1) (i := 3) rfl))), (ip_t2 (ip_v2_6 (List.mem_of_getElem? (l := ip_u2_6.1) (i := 30) rfl))), (ip_t2 (ip_v2_6 (List.mem_of_getElem? (l := ip_u2_6.1) (i := 31) rfl)))⟩, rfl, rfl, rfl⟩
set_option maxRecDepth 100000 in
theorem ip_k_29 : ip_Kok (1, 147, 65, 1) := ⟨⟨(ip_t3 (ip_v3_4 (List.mem_of_getElem? (l := ip_u3_4.1) (i := 4) rfl))), (ip_t3 (ip_v3_4 (List.mem_of_getElem? (l := ip_u3_4.1) (i := 5) rfl))), (ip_t3 (ip_v3_4 (List.mem_of_getElem? (l := ip_u3_4.1) (i := 6) rfl)))⟩, rfl, rfl, rfl⟩
set_option maxRecDepth 100000 in
theorem ip_k_30 : ip_Kok (1, 150, 66, 1) := ⟨⟨(ip_t3 (ip_v3_4 (List.mem_of_getElem? (l := ip_u3_4.1) (i := 9) rfl))), (ip_t3 (ip_v3_4 (List.mem_of_getElem? (l := ip_u3_4.1) (i := 10) rfl))), (ip_t3 (ip_v3_4 (List.mem_of_getElem? (l := ip_u3_4.1) (i := 11) rfl)))⟩, rfl, rfl, rfl⟩
set_option maxRecDepth 100000 in
theorem ip_k_31 : ip_Kok (1, 154, 69, 1) := ⟨⟨(ip_t3 (ip_v3_4 (List.mem_of_getElem? (l := ip_u3_4.1) (i := 21) rfl))), (ip_t3 (ip_v3_4 (List.mem_of_getElem? (l := ip_u3_4.1) (i := 22) rfl))), (ip_t3 (ip_v3_4 (List.mem_of_getElem? (l := ip_u3_4.1) (i := 23) rfl)))⟩, rfl, rfl, rfl⟩
set_option maxRecDepth 100000 in
theorem ip_k_32 : ip_Kok (1, 157, 16, 1) := ⟨⟨(ip_t3 (ip_v3_3 (List.mem_of_getElem? (l := ip_u3_3.1) (i := 15) rfl))), (ip_t3 (ip_v3_3 (List.mem_of_getElem? (l := ip_u3_3.1) (i := 16) rfl))), (ip_t3 (ip_v3_3 (List.mem_of_getElem? (l := ip_u3_3.1) (i := 17) rfl)))⟩, rfl, rfl, rfl⟩
set_option maxRecDepth 100000 in
theorem ip_k_33 : ip_Kok (1, 161, 98, 1) := ⟨⟨(ip_t3 (ip_v3_3 (List.mem_of_getElem? (l := ip_u3_3.1) (i := 24) rfl))), (ip_t3 (ip_v3_3 (List.mem_of_getElem? (l := ip_u3_3.1) (i := 25) rfl))), (ip_t3 (ip_v3_3 (List.mem_of_getElem? (l := ip_u3_3.1) (i := 26) rfl)))⟩, rfl, rfl, rfl⟩
set_option maxRecDepth 100000 in
theorem ip_k_34 : ip_Kok (1, 165, 48, 1) := ⟨⟨(ip_t3 (ip_v3_3 (List.mem_of_getElem? (l := ip_u3_3.1) (i := 28) rfl))), (ip_t3 (ip_v3_3 (List.mem_of_getElem? (l := ip_u3_3.1) (i := 29) rfl))), (ip_t3 (ip_v3_3 (List.mem_of_getElem? (l := ip_u3_3.1) (i := 30) rfl)))⟩, rfl, rfl, rfl⟩
set_option maxRecDepth 100000 in
theorem ip_k_35 : ip_Kok (1, 169, 29, 1) := ⟨⟨(ip_t3 (ip_v3_4 (List.mem_of_getElem? (l := ip_u3_4.1) (i := 29) rfl))), (ip_t3 (ip_v3_4 (List.mem_of_getElem? (l := ip_u3_4.1) (i := 31) rfl))), (List.mem_of_getElem? (l := lw_tbl) (i := 8) rfl)⟩, rfl, rfl, rfl⟩
set_option maxRecDepth 100000 in
theorem ip_k_36 : ip_Kok (1, 172, 97, 1) := ⟨⟨(ip_t3 (ip_v3_2 (List.mem_of_getElem? (l := ip_u3_2.1) (i := 8) rfl))), (ip_t2 (ip_v2_4 (List.mem_of_getElem? (l := ip_u2_4.1) (i := 16) rfl))), (ip_t2 (ip_v2_4 (List.mem_of_getElem? (l := ip_u2_4.1) (i := 17) rfl)))⟩, rfl, rfl, rfl⟩
set_option maxRecDepth 100000 in
theorem ip_k_37 : ip_Kok (1, 175, 30, 1) := ⟨⟨(ip_t3 (ip_v3_5 (List.mem_of_getElem? (l := ip_u3_5.1) (i := 1) rfl))), (ip_t3 (ip_v3_5 (List.mem_of_getElem? (l := ip_u3_5.1) (i := 3) rfl))), (List.mem_of_getElem? (l := lw_tbl) (i := 9) rfl)⟩, rfl, rfl, rfl⟩
set_option maxRecDepth 100000 in
theorem ip_k_38 : ip_Kok (1, 178, 12, 1) := ⟨⟨(ip_t5 (ip_v5_1 (List.mem_of_getElem? (l := ip_u5_1.1) (i := 26) rfl))), (ip_t3 (ip_v3_5 (List.mem_of_getElem? (l := ip_u3_5.1) (i := 10) rfl))), (ip_t3 (ip_v3_5 (List.mem_of_getElem? (l := ip_u3_5.1) (i := 11) rfl)))⟩, rfl, rfl, rfl⟩
set_option maxRecDepth 100000 in
theorem ip_k_39 : ip_Kok (1, 181, 17, 1) := ⟨⟨(ip_t4 (ip_v4_6 (List.mem_of_getElem? (l := ip_u4_6.1) (i := 25) rfl))), (ip_t4 (ip_v4_3 (List.mem_of_getElem? (l := ip_u4_3.1) (i := 28) rfl))), (ip_t4 (ip_v4_3 (List.mem_of_getElem? (l := ip_u4_3.1) (i := 29) rfl)))⟩, rfl, rfl, rfl⟩
set_option maxRecDepth 100000 in
theorem ip_k_40 : ip_Kok (1, 191, 35, 0) := ⟨⟨(ip_t4 (ip_v4_7 (List.mem_of_getElem? (l := ip_u4_7.1) (i := 3) rfl))), (ip_t4 (ip_v4_7 (List.mem_of_getElem? (l := ip_u4_7.1) (i := 4) rfl))), (ip_t4 (ip_v4_7 (List.mem_of_getElem? (l := ip_u4_7.1) (i := 4) rfl)))⟩, rfl, rfl, rfl⟩
set_option maxRecDepth 100000 in
theorem ip_k_41 : ip_Kok (1, 205, 62, 1) := ⟨⟨(ip_t4 (ip_v4_7 (List.mem_of_getElem? (l := ip_u4_7.1) (i := 7) rfl))), (ip_t3 (ip_v3_0 (List.mem_of_getElem? (l := ip_u3_0.1) (i := 30) rfl))), (ip_t3 (ip_v3_0 (List.mem_of_getElem? (l := ip_u3_0.1) (i := 31) rfl)))⟩, rfl, rfl, rfl⟩
set_option maxRecDepth 100000 in
theorem ip_k_42 : ip_Kok (1, 209, 290, 0) := ⟨⟨(ip_t4 (ip_v4_7 (List.mem_of_getElem? (l := ip_u4_7.1) (i := 8) rfl))), (ip_t4 (ip_v4_7 (List.mem_of_getElem? (l := ip_u4_7.1) (i := 9) rfl))), (ip_t4 (ip_v4_7 (List.mem_of_getElem? (l := ip_u4_7.1) (i := 9) rfl)))⟩, rfl, rfl, rfl⟩
set_option maxRecDepth 100000 in
theorem ip_k_43 : ip_Kok (1, 215, 292, 0) := ⟨⟨(ip_t4 (ip_v4_7 (List.mem_of_getElem? (l := ip_u4_7.1) (i := 11) rfl))), (ip_t4 (ip_v4_7 (List.mem_of_getElem? (l := ip_u4_7.1) (i := 12) rfl))), (ip_t4 (ip_v4_7 (List.mem_of_getElem? (l := ip_u4_7.1) (i := 12) rfl)))⟩, rfl, rfl, rfl⟩
set_option maxRecDepth 100000 in
theorem ip_k_44 : ip_Kok (1, 220, 37, 1) := ⟨⟨(ip_t5 (ip_v5_0 (List.mem_of_getElem? (l := ip_u5_0.1) (i := 24) rfl))), (ip_t5 (ip_v5_0 (List.mem_of_getElem? (l := ip_u5_0.1) (i := 9) rfl))), (ip_t5 (ip_v5_0 (List.mem_of_getElem? (l := ip_u5_0.1) (i := 10) rfl)))⟩, rfl, rfl, rfl⟩
set_option maxRecDepth 100000 in
theorem ip_k_45 : ip_Kok (2, 21, 60, 5) := ⟨⟨(ip_t1 (ip_v1_0 (List.mem_of_getElem? (l := ip_u1_0.1) (i := 31) rfl))), (ip_t1 (ip_v1_1 (List.mem_of_getElem? (l := ip_u1_1.1) (i := 0) rfl))), (ip_t1 (ip_v1_1 (List.mem_of_getElem? (l := ip_u1_1.1) (i := 0) rfl)))⟩, rfl, rfl, rfl⟩
set_option maxRecDepth 100000 in
theorem ip_k_46 : ip_Kok (2, 28, 92, 5) := ⟨⟨(ip_t1 (ip_v1_1 (List.mem_of_getElem? (l := ip_u1_1.1) (i := 10) rfl))), (ip_t1 (ip_v1_1 (List.mem_of_getElem? (l := ip_u1_1.1) (i := 11) rfl))), (ip_t1 (ip_v1_1 (List.mem_of_getElem? (l := ip_u1_1.1) (i := 11) rfl)))⟩, rfl, rfl, rfl⟩
set_option maxRecDepth 100000 in
theorem ip_k_47 : ip_Kok (2, 37, 41, 0) := ⟨⟨(ip_t2 (ip_v2_3 (List.mem_of_getElem? (l := ip_u2_3.1) (i := 22) rfl))), (ip_t2 (ip_v2_3 (List.mem_of_getElem? (l := ip_u2_3.1) (i := 23) rfl))), (ip_t2 (ip_v2_3 (List.mem_of_getElem? (l := ip_u2_3.1) (i := 23) rfl)))⟩, rfl, rfl, rfl⟩
set_option maxRecDepth 100000 in
theorem ip_k_48 : ip_Kok (2, 47, 63, 1) := ⟨⟨(ip_t3 (ip_v3_0 (List.mem_of_getElem? (l := ip_u3_0.1) (i := 18) rfl))), (ip_t3 (ip_v3_0 (List.mem_of_getElem? (l := ip_u3_0.1) (i := 19) rfl))), (ip_t3 (ip_v3_0 (List.mem_of_getElem? (l := ip_u3_0.1) (i := 20) rfl)))⟩, rfl, rfl, rfl⟩
set_option maxRecDepth 100000 in
theorem ip_k_49 : ip_Kok (2, 61, 45, 1) := ⟨⟨(ip_t2 (ip_v2_6 (List.mem_of_getElem? (l := ip_u2_6.1) (i := 12) rfl))), (ip_t2 (ip_v2_6 (List.mem_of_getElem? (l := ip_u2_6.1) (i := 14) rfl))), (List.mem_of_getElem? (l := lw_tbl) (i := 3) rfl)⟩, rfl, rfl, rfl⟩
set_option maxRecDepth 100000 in
theorem ip_k_50 : ip_Kok (2, 68, 47, 1) := ⟨⟨(ip_t2 (ip_v2_6 (List.mem_of_getElem? (l := ip_u2_6.1) (i := 8) rfl))), (ip_t2 (ip_v2_6 (List.mem_of_getElem? (l := ip_u2_6.1) (i := 9) rfl))), (ip_t2 (ip_v2_6 (List.mem_of_getElem? (l := ip_u2_6.1) (i := 10) rfl)))⟩, rfl, rfl, rfl⟩
set_option maxRecDepth 100000 in
theorem ip_k_51 : ip_Kok (2, 72, 93, 1) := ⟨⟨(ip_t3 (ip_v3_0 (List.mem_of_getElem? (l := ip_u3_0.1) (i := 9) rfl))), (ip_t2 (ip_v2_5 (List.mem_of_getElem? (l := ip_u2_5.1) (i := 4) rfl))), (ip_t2 (ip_v2_5 (List.mem_of_getElem? (l := ip_u2_5.1) (i := 5) rfl)))⟩, rfl, rfl, rfl⟩
set_option maxRecDepth 100000 in
theorem ip_k_52 : ip_Kok (2, 76, 44, 1) := ⟨⟨(ip_t3 (ip_v3_0 (List.mem_of_getElem? (l := ip_u3_0.1) (i := 14) rfl))), (ip_t3 (ip_v3_0 (List.mem_of_getElem? (l := ip_u3_0.1) (i := 15) rfl))), (ip_t3 (ip_v3_0 (List.mem_of_getElem? (l := ip_u3_0.1) (i := 16) rfl)))⟩, rfl, rfl, rfl⟩
set_option maxRecDepth 100000 in
theorem ip_k_53 : ip_Kok (2, 80, 73, 1) := ⟨⟨(ip_t3 (ip_v3_0 (List.mem_of_getElem? (l := ip_u3_0.1) (i := 25) rfl))), (ip_t3 (ip_v3_0 (List.mem_of_getElem? (l := ip_u3_0.1) (i := 26) rfl))), (ip_t3 (ip_v3_0 (List.mem_of_getElem? (l := ip_u3_0.1) (i := 27) rfl)))⟩, rfl, rfl, rfl⟩
set_option maxRecDepth 100000 in
theorem ip_k_54 : ip_Kok (2, 84, 72, 1) := ⟨⟨(ip_t3 (ip_v3_1 (List.mem_of_getElem? (l := ip_u3_1.1) (i := 5) rfl))), (ip_t3 (ip_v3_1 (List.mem_of_getElem? (l := ip_u3_1.1) (i := 6) rfl))), (ip_t3 (ip_v3_1 (List.mem_of_getElem? (l := ip_u3_1.1) (i := 7) rfl)))⟩, rfl, rfl, rfl⟩
set_option maxRecDepth 100000 in
theorem ip_k_55 : ip_Kok (2, 88, 71, 1) := ⟨⟨(ip_t3 (ip_v3_1 (List.mem_of_getElem? (l := ip_u3_1.1) (i := 13) rfl))), (ip_t3 (ip_v3_1 (List.mem_of_getElem? (l := ip_u3_1.1) (i := 10) rfl))), (ip_t3 (ip_v3_1 (List.mem_of_getElem? (l := ip_u3_1.1) (i := 11) rfl)))⟩, rfl, rfl, rfl⟩
set_option maxRecDepth 100000 in
theorem ip_k_56 : ip_Kok (2, 92, 62, 1) := ⟨⟨(ip_t4 (ip_v4_0 (List.mem_of_getElem? (l := ip_u4_0.1) (i := 29) rfl))), (ip_t3 (ip_v3_0 (List.mem_of_getElem? (l := ip_u3_0.1) (i := 30) rfl))), (ip_t3 (ip_v3_0 (List.mem_of_getElem? (l := ip_u3_0.1) (i := 31) rfl)))⟩, rfl, rfl, rfl⟩
set_option maxRecDepth 100000 in
theorem ip_k_57 : ip_Kok (2, 95, 101, 1) := ⟨⟨(ip_t4 (ip_v4_0 (List.mem_of_getElem? (l := ip_u4_0.1) (i := 30) rfl))), (ip_t2 (ip_v2_7 (List.mem_of_getElem? (l := ip_u2_7.1) (i := 14) rfl))), (ip_t2 (ip_v2_7 (List.mem_of_getElem? (l := ip_u2_7.1) (i := 15) rfl)))⟩, rfl, rfl, rfl⟩
set_option maxRecDepth 100000 in
theorem ip_k_58 : ip_Kok (2, 99, 52, 1) := ⟨⟨(ip_t4 (ip_v4_0 (List.mem_of_getElem? (l := ip_u4_0.1) (i := 31) rfl))), (ip_t3 (ip_v3_1 (List.mem_of_getElem? (l := ip_u3_1.1) (i := 2) rfl))), (ip_t3 (ip_v3_1 (List.mem_of_getElem? (l := ip_u3_1.1) (i := 3) rfl)))⟩, rfl, rfl, rfl⟩
set_option maxRecDepth 100000 in
theorem ip_k_59 : ip_Kok (3, 35, 74, 5) := ⟨⟨(ip_t1 (ip_v1_6 (List.mem_of_getElem? (l := ip_u1_6.1) (i := 23) rfl))), (ip_t1 (ip_v1_6 (List.mem_of_getElem? (l := ip_u1_6.1) (i := 24) rfl))), (ip_t1 (ip_v1_6 (List.mem_of_getElem? (l := ip_u1_6.1) (i := 24) rfl)))⟩, rfl, rfl, rfl⟩
set_option maxRecDepth 100000 in
theorem ip_k_60 : ip_Kok (3, 36, 59, 1) := ⟨⟨(ip_t2 (ip_v2_4 (List.mem_of_getElem? (l := ip_u2_4.1) (i := 4) rfl))), (ip_t2 (ip_v2_4 (List.mem_of_getElem? (l := ip_u2_4.1) (i := 6) rfl))), (List.mem_of_getElem? (l := lw_tbl) (i := 1) rfl)⟩, rfl, rfl, rfl⟩
set_option maxRecDepth 100000 in
theorem ip_k_61 : ip_Kok (3, 40, 291, 0) := ⟨⟨(ip_t2 (ip_v2_4 (List.mem_of_getElem? (l := ip_u2_4.1) (i := 8) rfl))), (ip_t2 (ip_v2_4 (List.mem_of_getElem? (l := ip_u2_4.1) (i := 9) rfl))), (ip_t2 (ip_v2_4 (List.mem_of_getElem? (l := ip_u2_4.1) (i := 9) rfl)))⟩, rfl, rfl, rfl⟩
set_option maxRecDepth 100000 in
theorem ip_k_62 : ip_Kok (4, 15, 61, 0) := ⟨⟨(ip_t3 (ip_v3_0 (List.mem_of_getElem? (l := ip_u3_0.1) (i := 22) rfl))), (ip_t3 (ip_v3_0 (List.mem_of_getElem? (l := ip_u3_0.1) (i := 23) rfl))), (ip_t3 (ip_v3_0 (List.mem_of_getElem? (l := ip_u3_0.1) (i := 23) rfl)))⟩, rfl, rfl, rfl⟩
set_option maxRecDepth 100000 in
theorem ip_k_63 : ip_Kok (4, 19, 63, 1) := ⟨⟨(ip_t3 (ip_v3_2 (List.mem_of_getElem? (l := ip_u3_2.1) (i := 13) rfl))), (ip_t3 (ip_v3_0 (List.mem_of_getElem? (l := ip_u3_0.1) (i := 19) rfl))), (ip_t3 (ip_v3_0 (List.mem_of_getElem? (l := ip_u3_0.1) (i := 20) rfl)))⟩, rfl, rfl, rfl⟩
set_option maxRecDepth 100000 in
theorem ip_k_64 : ip_Kok (4, 29, 68, 0) := ⟨⟨(ip_t3 (ip_v3_4 (List.mem_of_getElem? (l := ip_u3_4.1) (i := 13) rfl))), (ip_t3 (ip_v3_4 (List.mem_of_getElem? (l := ip_u3_4.1) (i := 14) rfl))), (ip_t3 (ip_v3_4 (List.mem_of_getElem? (l := ip_u3_4.1) (i := 14) rfl)))⟩, rfl, rfl, rfl⟩
set_option maxRecDepth 100000 in
theorem ip_k_65 : ip_Kok (4, 33, 67, 0) := ⟨⟨(ip_t3 (ip_v3_4 (List.mem_of_getElem? (l := ip_u3_4.1) (i := 18) rfl))), (ip_t3 (ip_v3_4 (List.mem_of_getElem? (l := ip_u3_4.1) (i := 19) rfl))), (ip_t3 (ip_v3_4 (List.mem_of_getElem? (l := ip_u3_4.1) (i := 19) rfl)))⟩, rfl, rfl, rfl⟩
set_option maxRecDepth 100000 in
theorem ip_k_66 : ip_Kok (4, 41, 71, 1) := ⟨⟨(ip_t3 (ip_v3_1 (List.mem_of_getElem? (l := ip_u3_1.1) (i := 9) rfl))), (ip_t3 (ip_v3_1 (List.mem_of_getElem? (l := ip_u3_1.1) (i := 10) rfl))), (ip_t3 (ip_v3_1 (List.mem_of_getElem? (l := ip_u3_1.1) (i := 11) rfl)))⟩, rfl, rfl, rfl⟩
set_option maxRecDepth 100000 in
theorem ip_k_67 : ip_Kok (4, 51, 62, 1) := ⟨⟨(ip_t3 (ip_v3_0 (List.mem_of_getElem? (l := ip_u3_0.1) (i := 29) rfl))), (ip_t3 (ip_v3_0 (List.mem_of_getElem? (l := ip_u3_0.1) (i := 30) rfl))), (ip_t3 (ip_v3_0 (List.mem_of_getElem? (l := ip_u3_0.1) (i := 31) rfl)))⟩, rfl, rfl, rfl⟩
set_option maxRecDepth 100000 in
theorem ip_k_68 : ip_Kok (5, 27, 103, 5) := ⟨⟨(ip_t1 (ip_v1_6 (List.mem_of_getElem? (l := ip_u1_6.1) (i := 28) rfl))), (ip_t1 (ip_v1_5 (List.mem_of_getElem? (l := ip_u1_5.1) (i := 7) rfl))), (ip_t1 (ip_v1_5 (List.mem_of_getElem? (l := ip_u1_5.1) (i := 7) rfl)))⟩, rfl, rfl, rfl⟩
set_option maxRecDepth 100000 in
theorem ip_k_69 : ip_Kok (5, 46, 97, 1) := ⟨⟨(ip_t2 (ip_v2_4 (List.mem_of_getElem? (l := ip_u2_4.1) (i := 15) rfl))), (ip_t2 (ip_v2_4 (List.mem_of_getElem? (l := ip_u2_4.1) (i := 16) rfl))), (ip_t2 (ip_v2_4 (List.mem_of_getElem? (l := ip_u2_4.1) (i := 17) rfl)))⟩, rfl, rfl, rfl⟩
set_option maxRecDepth 100000 in
theorem ip_k_70 : ip_Kok (5, 52, 105, 1) := ⟨⟨(ip_t2 (ip_v2_4 (List.mem_of_getElem? (l := ip_u2_4.1) (i := 19) rfl))), (ip_t2 (ip_v2_4 (List.mem_of_getElem? (l := ip_u2_4.1) (i := 20) rfl))), (ip_t2 (ip_v2_4 (List.mem_of_getElem? (l := ip_u2_4.1) (i := 21) rfl)))⟩, rfl, rfl, rfl⟩
set_option maxRecDepth 100000 in
theorem ip_k_71 : ip_Kok (5, 69, 42, 1) := ⟨⟨(ip_t4 (ip_v4_1 (List.mem_of_getElem? (l := ip_u4_1.1) (i := 16) rfl))), (ip_t2 (ip_v2_5 (List.mem_of_getElem? (l := ip_u2_5.1) (i := 0) rfl))), (ip_t2 (ip_v2_5 (List.mem_of_getElem? (l := ip_u2_5.1) (i := 1) rfl)))⟩, rfl, rfl, rfl⟩
set_option maxRecDepth 100000 in
theorem ip_k_72 : ip_Kok (5, 73, 96, 1) := ⟨⟨(ip_t4 (ip_v4_1 (List.mem_of_getElem? (l := ip_u4_1.1) (i := 17) rfl))), (ip_t3 (ip_v3_3 (List.mem_of_getElem? (l := ip_u3_3.1) (i := 20) rfl))), (ip_t3 (ip_v3_3 (List.mem_of_getElem? (l := ip_u3_3.1) (i := 21) rfl)))⟩, rfl, rfl, rfl⟩
set_option maxRecDepth 100000 in
theorem ip_k_73 : ip_Kok (5, 76, 21, 1) := ⟨⟨(ip_t4 (ip_v4_1 (List.mem_of_getElem? (l := ip_u4_1.1) (i := 18) rfl))), (ip_t2 (ip_v2_5 (List.mem_of_getElem? (l := ip_u2_5.1) (i := 11) rfl))), (ip_t2 (ip_v2_5 (List.mem_of_getElem? (l := ip_u2_5.1) (i := 12) rfl)))⟩, rfl, rfl, rfl⟩
set_option maxRecDepth 100000 in
theorem ip_k_74 : ip_Kok (5, 79, 22, 1) := ⟨⟨(ip_t4 (ip_v4_1 (List.mem_of_getElem? (l := ip_u4_1.1) (i := 19) rfl))), (ip_t4 (ip_v4_1 (List.mem_of_getElem? (l := ip_u4_1.1) (i := 20) rfl))), (ip_t4 (ip_v4_1 (List.mem_of_getElem? (l := ip_u4_1.1) (i := 21) rfl)))⟩, rfl, rfl, rfl⟩
set_option maxRecDepth 100000 in
theorem ip_k_75 : ip_Kok (6, 17, 103, 5) := ⟨⟨(ip_t1 (ip_v1_5 (List.mem_of_getElem? (l := ip_u1_5.1) (i := 26) rfl))), (ip_t1 (ip_v1_5 (List.mem_of_getElem? (l := ip_u1_5.1) (i := 7) rfl))), (ip_t1 (ip_v1_5 (List.mem_of_getElem? (l := ip_u1_5.1) (i := 7) rfl)))⟩, rfl, rfl, rfl⟩
set_option maxRecDepth 100000 in
theorem ip_k_76 : ip_Kok (6, 32, 78, 1) := ⟨⟨(ip_t3 (ip_v3_5 (List.mem_of_getElem? (l := ip_u3_5.1) (i := 31) rfl))), (ip_t3 (ip_v3_5 (List.mem_of_getElem? (l := ip_u3_5.1) (i := 24) rfl))), (ip_t3 (ip_v3_5 (List.mem_of_getElem? (l := ip_u3_5.1) (i := 25) rfl)))⟩, rfl, rfl, rfl⟩
set_option maxRecDepth 100000 in
theorem ip_k_77 : ip_Kok (6, 37, 82, 1) := ⟨⟨(ip_t3 (ip_v3_6 (List.mem_of_getElem? (l := ip_u3_6.1) (i := 16) rfl))), (ip_t3 (ip_v3_6 (List.mem_of_getElem? (l := ip_u3_6.1) (i := 18) rfl))), (List.mem_of_getElem? (l := lw_tbl) (i := 10) rfl)⟩, rfl, rfl, rfl⟩
set_option maxRecDepth 100000 in
theorem ip_k_78 : ip_Kok (6, 41, 83, 1) := ⟨⟨(ip_t3 (ip_v3_6 (List.mem_of_getElem? (l := ip_u3_6.1) (i := 20) rfl))), (ip_t3 (ip_v3_6 (List.mem_of_getElem? (l := ip_u3_6.1) (i := 22) rfl))), (List.mem_of_getElem? (l := lw_tbl) (i := 11) rfl)⟩, rfl, rfl, rfl⟩
set_option maxRecDepth 100000 in
theorem ip_k_79 : ip_Kok (6, 45, 84, 1) := ⟨⟨(ip_t3 (ip_v3_7 (List.mem_of_getElem? (l := ip_u3_7.1) (i := 7) rfl))), (ip_t3 (ip_v3_7 (List.mem_of_getElem? (l := ip_u3_7.1) (i := 9) rfl))), (List.mem_of_getElem? (l := lw_tbl) (i := 15) rfl)⟩, rfl, rfl, rfl⟩
set_option maxRecDepth 100000 in
theorem ip_k_80 : ip_Kok (6, 49, 104, 1) := ⟨⟨(ip_t3 (ip_v3_7 (List.mem_of_getElem? (l := ip_u3_7.1) (i := 11) rfl))), (ip_t3 (ip_v3_7 (List.mem_of_getElem? (l := ip_u3_7.1) (i := 12) rfl))), (ip_t3 (ip_v3_7 (List.mem_of_getElem? (l := ip_u3_7.1) (i := 13) rfl)))⟩, rfl, rfl, rfl⟩
set_option maxRecDepth 100000 in
theorem ip_k_81 : ip_Kok (6, 53, 85, 1) := ⟨⟨(ip_t3 (ip_v3_6 (List.mem_of_getElem? (l := ip_u3_6.1) (i := 24) rfl))), (ip_t3 (ip_v3_6 (List.mem_of_getElem? (l := ip_u3_6.1) (i := 26) rfl))), (List.mem_of_getElem? (l := lw_tbl) (i := 12) rfl)⟩, rfl, rfl, rfl⟩
set_option maxRecDepth 100000 in
theorem ip_k_82 : ip_Kok (6, 56, 86, 1) := ⟨⟨(ip_t3 (ip_v3_7 (List.mem_of_getElem? (l := ip_u3_7.1) (i := 0) rfl))), (ip_t3 (ip_v3_7 (List.mem_of_getElem? (l := ip_u3_7.1) (i := 2) rfl))), (List.mem_of_getElem? (l := lw_tbl) (i := 14) rfl)⟩, rfl, rfl, rfl⟩
set_option maxRecDepth 100000 in
theorem ip_k_83 : ip_Kok (6, 59, 87, 1) := ⟨⟨(ip_t3 (ip_v3_6 (List.mem_of_getElem? (l := ip_u3_6.1) (i := 28) rfl))), (ip_t3 (ip_v3_6 (List.mem_of_getElem? (l := ip_u3_6.1) (i := 30) rfl))), (List.mem_of_getElem? (l := lw_tbl) (i := 13) rfl)⟩, rfl, rfl, rfl⟩
set_option maxRecDepth 100000 in
theorem ip_k_84 : ip_Kok (6, 62, 294, 0) := ⟨⟨(ip_t3 (ip_v3_7 (List.mem_of_getElem? (l := ip_u3_7.1) (i := 4) rfl))), (ip_t3 (ip_v3_7 (List.mem_of_getElem? (l := ip_u3_7.1) (i := 5) rfl))), (ip_t3 (ip_v3_7 (List.mem_of_getElem? (l := ip_u3_7.1) (i := 5) rfl)))⟩, rfl, rfl, rfl⟩
set_option maxRecDepth 100000 in
theorem ip_k_85 : ip_Kok (8, 24, 163, 3) := ⟨⟨(ip_t2 (ip_v2_5 (List.mem_of_getElem? (l := ip_u2_5.1) (i := 7) rfl))), (ip_t2 (ip_v2_5 (List.mem_of_getElem? (l := ip_u2_5.1) (i := 8) rfl))), (ip_t2 (ip_v2_5 (List.mem_of_getElem? (l := ip_u2_5.1) (i := 8) rfl)))⟩, rfl, rfl, rfl⟩
set_option maxRecDepth 100000 in
theorem ip_k_86 : ip_Kok (8, 32, 93, 1) := ⟨⟨(ip_t2 (ip_v2_6 (List.mem_of_getElem? (l := ip_u2_6.1) (i := 26) rfl))), (ip_t2 (ip_v2_5 (List.mem_of_getElem? (l := ip_u2_5.1) (i := 4) rfl))), (ip_t2 (ip_v2_5 (List.mem_of_getElem? (l := ip_u2_5.1) (i := 5) rfl)))⟩, rfl, rfl, rfl⟩
set_option maxRecDepth 100000 in
theorem ip_k_87 : ip_Kok (8, 40, 99, 1) := ⟨⟨(ip_t2 (ip_v2_6 (List.mem_of_getElem? (l := ip_u2_6.1) (i := 29) rfl))), (ip_t2 (ip_v2_6 (List.mem_of_getElem? (l := ip_u2_6.1) (i := 30) rfl))), (ip_t2 (ip_v2_6 (List.mem_of_getElem? (l := ip_u2_6.1) (i := 31) rfl)))⟩, rfl, rfl, rfl⟩
set_option maxRecDepth 100000 in
theorem ip_k_88 : ip_Kok (8, 44, 100, 0) := ⟨⟨(ip_t2 (ip_v2_7 (List.mem_of_getElem? (l := ip_u2_7.1) (i := 1) rfl))), (ip_t2 (ip_v2_7 (List.mem_of_getElem? (l := ip_u2_7.1) (i := 2) rfl))), (ip_t2 (ip_v2_7 (List.mem_of_getElem? (l := ip_u2_7.1) (i := 2) rfl)))⟩, rfl, rfl, rfl⟩
set_option maxRecDepth 100000 in
theorem ip_k_89 : ip_Kok (9, 25, 64, 1) := ⟨⟨(ip_t4 (ip_v4_0 (List.mem_of_getElem? (l := ip_u4_0.1) (i := 8) rfl))), (ip_t3 (ip_v3_2 (List.mem_of_getElem? (l := ip_u3_2.1) (i := 10) rfl))), (ip_t3 (ip_v3_2 (List.mem_of_getElem? (l := ip_u3_2.1) (i := 11) rfl)))⟩, rfl, rfl, rfl⟩
set_option maxRecDepth 100000 in
theorem ip_k_90 : ip_Kok (9, 30, 106, 1) := ⟨⟨(ip_t4 (ip_v4_0 (List.mem_of_getElem? (l := ip_u4_0.1) (i := 9) rfl))), (ip_t4 (ip_v4_0 (List.mem_of_getElem? (l := ip_u4_0.1) (i := 10) rfl))), (ip_t4 (ip_v4_0 (List.mem_of_getElem? (l := ip_u4_0.1) (i := 11) rfl)))⟩, rfl, rfl, rfl⟩
set_option maxRecDepth 100000 in
theorem ip_k_91 : ip_Kok (9, 34, 66, 1) := ⟨⟨(ip_t4 (ip_v4_0 (List.mem_of_getElem? (l := ip_u4_0.1) (i := 13) rfl))), (ip_t3 (ip_v3_4 (List.mem_of_getElem? (l := ip_u3_4.1) (i := 10) rfl))), (ip_t3 (ip_v3_4 (List.mem_of_getElem? (l := ip_u3_4.1) (i := 11) rfl)))⟩, rfl, rfl, rfl⟩
set_option maxRecDepth 100000 in
theorem ip_k_92 : ip_Kok (10, 11, 38, 5) := ⟨⟨(ip_t1 (ip_v1_0 (List.mem_of_getElem? (l := ip_u1_0.1) (i := 25) rfl))), (ip_t1 (ip_v1_0 (List.mem_of_getElem? (l := ip_u1_0.1) (i := 26) rfl))), (ip_t1 (ip_v1_0 (List.mem_of_getElem? (l := ip_u1_0.1) (i := 26) rfl)))⟩, rfl, rfl, rfl⟩
set_option maxRecDepth 100000 in
theorem ip_k_93 : ip_Kok (10, 26, 10, 5) := ⟨⟨(ip_t1 (ip_v1_3 (List.mem_of_getElem? (l := ip_u1_3.1) (i := 5) rfl))), (ip_t1 (ip_v1_3 (List.mem_of_getElem? (l := ip_u1_3.1) (i := 6) rfl))), (ip_t1 (ip_v1_3 (List.mem_of_getElem? (l := ip_u1_3.1) (i := 6) rfl)))⟩, rfl, rfl, rfl⟩
set_option maxRecDepth 100000 in
theorem ip_k_94 : ip_Kok (10, 33, 103, 5) := ⟨⟨(ip_t1 (ip_v1_5 (List.mem_of_getElem? (l := ip_u1_5.1) (i := 6) rfl))), (ip_t1 (ip_v1_5 (List.mem_of_getElem? (l := ip_u1_5.1) (i := 7) rfl))), (ip_t1 (ip_v1_5 (List.mem_of_getElem? (l := ip_u1_5.1) (i := 7) rfl)))⟩, rfl, rfl, rfl⟩
set_option maxRecDepth 100000 in
theorem ip_k_95 : ip_Kok (10, 40, 77, 5) := ⟨⟨(ip_t1 (ip_v1_5 (List.mem_of_getElem? (l := ip_u1_5.1) (i := 21) rfl))), (ip_t1 (ip_v1_5 (List.mem_of_getElem? (l := ip_u1_5.1) (i := 22) rfl))), (ip_t1 (ip_v1_5 (List.mem_of_getElem? (l := ip_u1_5.1) (i := 22) rfl)))⟩, rfl, rfl, rfl⟩
set_option maxRecDepth 100000 in
theorem ip_k_96 : ip_Kok (10, 47, 54, 2) := ⟨⟨(ip_t1 (ip_v1_6 (List.mem_of_getElem? (l := ip_u1_6.1) (i := 16) rfl))), (ip_t1 (ip_v1_6 (List.mem_of_getElem? (l := ip_u1_6.1) (i := 17) rfl))), (ip_t1 (ip_v1_6 (List.mem_of_getElem? (l := ip_u1_6.1) (i := 17) rfl)))⟩, rfl, rfl, rfl⟩
set_option maxRecDepth 100000 in
theorem ip_k_97 : ip_Kok (10, 54, 88, 5) := ⟨⟨(ip_t2 (ip_v2_0 (List.mem_of_getElem? (l := ip_u2_0.1) (i := 31) rfl))), (ip_t2 (ip_v2_1 (List.mem_of_getElem? (l := ip_u2_1.1) (i := 0) rfl))), (ip_t2 (ip_v2_1 (List.mem_of_getElem? (l := ip_u2_1.1) (i := 0) rfl)))⟩, rfl, rfl, rfl⟩
set_option maxRecDepth 100000 in
theorem ip_k_98 : ip_Kok (10, 71, 60, 5) := ⟨⟨(ip_t2 (ip_v2_1 (List.mem_of_getElem? (l := ip_u2_1.1) (i := 12) rfl))), (ip_t1 (ip_v1_1 (List.mem_of_getElem? (l := ip_u1_1.1) (i := 0) rfl))), (ip_t1 (ip_v1_1 (List.mem_of_getElem? (l := ip_u1_1.1) (i := 0) rfl)))⟩, rfl, rfl, rfl⟩
set_option maxRecDepth 100000 in
theorem ip_k_99 : ip_Kok (10, 78, 0, 5) := ⟨⟨(ip_t2 (ip_v2_1 (List.mem_of_getElem? (l := ip_u2_1.1) (i := 15) rfl))), (ip_t2 (ip_v2_1 (List.mem_of_getElem? (l := ip_u2_1.1) (i := 16) rfl))), (ip_t2 (ip_v2_1 (List.mem_of_getElem? (l := ip_u2_1.1) (i := 16) rfl)))⟩, rfl, rfl, rfl⟩
set_option maxRecDepth 100000 in
theorem ip_k_100 : ip_Kok (10, 83, 92, 5) := ⟨⟨(ip_t2 (ip_v2_1 (List.mem_of_getElem? (l := ip_u2_1.1) (i := 26) rfl))), (ip_t1 (ip_v1_1 (List.mem_of_getElem? (l := ip_u1_1.1) (i := 11) rfl))), (ip_t1 (ip_v1_1 (List.mem_of_getElem? (l := ip_u1_1.1) (i := 11) rfl)))⟩, rfl, rfl, rfl⟩
set_option maxRecDepth 100000 in
theorem ip_k_101 : ip_Kok (10, 91, 39, 0) := ⟨⟨(ip_t2 (ip_v2_3 (List.mem_of_getElem? (l := ip_u2_3.1) (i := 10) rfl))), (ip_t2 (ip_v2_3 (List.mem_of_getElem? (l := ip_u2_3.1) (i := 11) rfl))), (ip_t2 (ip_v2_3 (List.mem_of_getElem? (l := ip_u2_3.1) (i := 11) rfl)))⟩, rfl, rfl, rfl⟩
set_option maxRecDepth 100000 in
theorem ip_k_102 : ip_Kok (10, 95, 89, 1) := ⟨⟨(ip_t2 (ip_v2_3 (List.mem_of_getElem? (l := ip_u2_3.1) (i := 15) rfl))), (ip_t2 (ip_v2_3 (List.mem_of_getElem? (l := ip_u2_3.1) (i := 16) rfl))), (ip_t2 (ip_v2_3 (List.mem_of_getElem? (l := ip_u2_3.1) (i := 17) rfl)))⟩, rfl, rfl, rfl⟩
set_option maxRecDepth 100000 in
theorem ip_k_103 : ip_Kok (10, 99, 40, 0) := ⟨⟨(ip_t2 (ip_v2_3 (List.mem_of_getElem? (l := ip_u2_3.1) (i := 19) rfl))), (ip_t2 (ip_v2_3 (List.mem_of_getElem? (l := ip_u2_3.1) (i := 20) rfl))), (ip_t2 (ip_v2_3 (List.mem_of_getElem? (l := ip_u2_3.1) (i := 20) rfl)))⟩, rfl, rfl, rfl⟩
set_option maxRecDepth 100000 in
theorem ip_k_104 : ip_Kok (10, 102, 153, 1) := ⟨⟨(ip_t2 (ip_v2_3 (List.mem_of_getElem? (l := ip_u2_3.1) (i := 28) rfl))), (ip_t2 (ip_v2_3 (List.mem_of_getElem? (l := ip_u2_3.1) (i := 30) rfl))), (List.mem_of_getElem? (l := lw_tbl) (i := 0) rfl)⟩, rfl, rfl, rfl⟩
set_option maxRecDepth 100000 in
theorem ip_k_105 : ip_Kok (10, 106, 154, 1) := ⟨⟨(ip_t2 (ip_v2_4 (List.mem_of_getElem? (l := ip_u2_4.1) (i := 27) rfl))), (ip_t2 (ip_v2_4 (List.mem_of_getElem? (l := ip_u2_4.1) (i := 29) rfl))), (List.mem_of_getElem? (l := lw_tbl) (i := 2) rfl)⟩, rfl, rfl, rfl⟩
set_option maxRecDepth 100000 in
theorem ip_k_106 : ip_Kok (10, 110, 43, 1) := ⟨⟨(ip_t2 (ip_v2_5 (List.mem_of_getElem? (l := ip_u2_5.1) (i := 14) rfl))), (ip_t2 (ip_v2_5 (List.mem_of_getElem? (l := ip_u2_5.1) (i := 15) rfl))), (ip_t2 (ip_v2_5 (List.mem_of_getElem? (l := ip_u2_5.1) (i := 16) rfl)))⟩, rfl, rfl, rfl⟩
set_option maxRecDepth 100000 in
theorem ip_k_107 : ip_Kok (10, 114, 90, 1) := ⟨⟨(ip_t2 (ip_v2_5 (List.mem_of_getElem? (l := ip_u2_5.1) (i := 18) rfl))), (ip_t2 (ip_v2_5 (List.mem_of_getElem? (l := ip_u2_5.1) (i := 19) rfl))), (ip_t2 (ip_v2_5 (List.mem_of_getElem? (l := ip_u2_5.1) (i := 20) rfl)))⟩, rfl, rfl, rfl⟩
set_option maxRecDepth 100000 in
theorem ip_k_108 : ip_Kok (10, 117, 155, 0) := ⟨⟨(ip_t2 (ip_v2_5 (List.mem_of_getElem? (l := ip_u2_5.1) (i := 30) rfl))), (ip_t2 (ip_v2_5 (List.mem_of_getElem? (l := ip_u2_5.1) (i := 31) rfl))), (ip_t2 (ip_v2_5 (List.mem_of_getElem? (l := ip_u2_5.1) (i := 31) rfl)))⟩, rfl, rfl, rfl⟩
set_option maxRecDepth 100000 in
theorem ip_k_109 : ip_Kok (10, 121, 156, 0) := ⟨⟨(ip_t2 (ip_v2_6 (List.mem_of_getElem? (l := ip_u2_6.1) (i := 1) rfl))), (ip_t2 (ip_v2_6 (List.mem_of_getElem? (l := ip_u2_6.1) (i := 2) rfl))), (ip_t2 (ip_v2_6 (List.mem_of_getElem? (l := ip_u2_6.1) (i := 2) rfl)))⟩, rfl, rfl, rfl⟩
set_option maxRecDepth 100000 in
theorem ip_k_110 : ip_Kok (10, 125, 93, 1) := ⟨⟨(ip_t2 (ip_v2_5 (List.mem_of_getElem? (l := ip_u2_5.1) (i := 3) rfl))), (ip_t2 (ip_v2_5 (List.mem_of_getElem? (l := ip_u2_5.1) (i := 4) rfl))), (ip_t2 (ip_v2_5 (List.mem_of_getElem? (l := ip_u2_5.1) (i := 5) rfl)))⟩, rfl, rfl, rfl⟩
set_option maxRecDepth 100000 in
theorem ip_k_111 : ip_Kok (10, 129, 49, 1) := ⟨⟨(ip_t2 (ip_v2_6 (List.mem_of_getElem? (l := ip_u2_6.1) (i := 4) rfl))), (ip_t2 (ip_v2_6 (List.mem_of_getElem? (l := ip_u2_6.1) (i := 5) rfl))), (ip_t2 (ip_v2_6 (List.mem_of_getElem? (l := ip_u2_6.1) (i := 6) rfl)))⟩, rfl, rfl, rfl⟩
set_option maxRecDepth 100000 in
theorem ip_k_112 : ip_Kok (10, 133, 94, 1) := ⟨⟨(ip_t2 (ip_v2_6 (List.mem_of_getElem? (l := ip_u2_6.1) (i := 20) rfl))), (ip_t2 (ip_v2_6 (List.mem_of_getElem? (l := ip_u2_6.1) (i := 21) rfl))), (ip_t2 (ip_v2_6 (List.mem_of_getElem? (l := ip_u2_6.1) (i := 22) rfl)))⟩, rfl, rfl, rfl⟩
set_option maxRecDepth 100000 in
theorem ip_k_113 : ip_Kok (10, 137, 95, 1) := ⟨⟨(ip_t2 (ip_v2_7 (List.mem_of_getElem? (l := ip_u2_7.1) (i := 5) rfl))), (ip_t2 (ip_v2_7 (List.mem_of_getElem? (l := ip_u2_7.1) (i := 6) rfl))), (ip_t2 (ip_v2_7 (List.mem_of_getElem? (l := ip_u2_7.1) (i := 7) rfl)))⟩, rfl, rfl, rfl⟩
set_option maxRecDepth 100000 in
theorem ip_k_114 : ip_Kok (10, 141, 101, 1) := ⟨⟨(ip_t2 (ip_v2_7 (List.mem_of_getElem? (l := ip_u2_7.1) (i := 13) rfl))), (ip_t2 (ip_v2_7 (List.mem_of_getElem? (l := ip_u2_7.1) (i := 14) rfl))), (ip_t2 (ip_v2_7 (List.mem_of_getElem? (l := ip_u2_7.1) (i := 15) rfl)))⟩, rfl, rfl, rfl⟩
set_option maxRecDepth 100000 in
theorem ip_k_115 : ip_Kok (10, 145, 158, 1) := ⟨⟨(ip_t3 (ip_v3_0 (List.mem_of_getElem? (l := ip_u3_0.1) (i := 1) rfl))), (ip_t3 (ip_v3_0 (List.mem_of_getElem? (l := ip_u3_0.1) (i := 3) rfl))), (List.mem_of_getElem? (l := lw_tbl) (i := 4) rfl)⟩, rfl, rfl, rfl⟩
set_option maxRecDepth 100000 in
theorem ip_k_116 : ip_Kok (10, 149, 99, 1) := ⟨⟨(ip_t3 (ip_v3_1 (List.mem_of_getElem? (l := ip_u3_1.1) (i := 14) rfl))), (ip_t2 (ip_v2_6 (List.mem_of_getElem? (l := ip_u2_6.1) (i := 30) rfl))), (ip_t2 (ip_v2_6 (List.mem_of_getElem? (l := ip_u2_6.1) (i := 31) rfl)))⟩, rfl, rfl, rfl⟩
set_option maxRecDepth 100000 in
theorem ip_k_117 : ip_Kok (10, 151, 18, 0) := ⟨⟨(ip_t3 (ip_v3_1 (List.mem_of_getElem? (l := ip_u3_1.1) (i := 19) rfl))), (ip_t3 (ip_v3_1 (List.mem_of_getElem? (l := ip_u3_1.1) (i := 20) rfl))), (ip_t3 (ip_v3_1 (List.mem_of_getElem? (l := ip_u3_1.1) (i := 20) rfl)))⟩, rfl, rfl, rfl⟩
set_option maxRecDepth 100000 in
theorem ip_k_118 : ip_Kok (10, 155, 20, 1) := ⟨⟨(ip_t3 (ip_v3_1 (List.mem_of_getElem? (l := ip_u3_1.1) (i := 30) rfl))), (ip_t3 (ip_v3_1 (List.mem_of_getElem? (l := ip_u3_1.1) (i := 31) rfl))), (ip_t3 (ip_v3_2 (List.mem_of_getElem? (l := ip_u3_2.1) (i := 0) rfl)))⟩, rfl, rfl, rfl⟩
set_option maxRecDepth 100000 in
theorem ip_k_119 : ip_Kok (10, 159, 15, 1) := ⟨⟨(ip_t3 (ip_v3_2 (List.mem_of_getElem? (l := ip_u3_2.1) (i := 14) rfl))), (ip_t3 (ip_v3_2 (List.mem_of_getElem? (l := ip_u3_2.1) (i := 15) rfl))), (ip_t3 (ip_v3_2 (List.mem_of_getElem? (l := ip_u3_2.1) (i := 16) rfl)))⟩, rfl, rfl, rfl⟩
set_option maxRecDepth 100000 in
theorem ip_k_120 : ip_Kok (10, 163, 25, 1) := ⟨⟨(ip_t3 (ip_v3_2 (List.mem_of_getElem? (l := ip_u3_2.1) (i := 27) rfl))), (ip_t3 (ip_v3_2 (List.mem_of_getElem? (l := ip_u3_2.1) (i := 28) rfl))), (ip_t3 (ip_v3_2 (List.mem_of_getElem? (l := ip_u3_2.1) (i := 29) rfl)))⟩, rfl, rfl, rfl⟩
set_option maxRecDepth 100000 in
theorem ip_k_121 : ip_Kok (10, 167, 27, 1) := ⟨⟨(ip_t3 (ip_v3_4 (List.mem_of_getElem? (l := ip_u3_4.1) (i := 25) rfl))), (ip_t3 (ip_v3_4 (List.mem_of_getElem? (l := ip_u3_4.1) (i := 26) rfl))), (ip_t3 (ip_v3_4 (List.mem_of_getElem? (l := ip_u3_4.1) (i := 27) rfl)))⟩, rfl, rfl, rfl⟩
set_option maxRecDepth 100000 in
theorem ip_k_122 : ip_Kok (10, 173, 12, 1) := ⟨⟨(ip_t3 (ip_v3_5 (List.mem_of_getElem? (l := ip_u3_5.1) (i := 9) rfl))), (ip_t3 (ip_v3_5 (List.mem_of_getElem? (l := ip_u3_5.1) (i := 10) rfl))), (ip_t3 (ip_v3_5 (List.mem_of_getElem? (l := ip_u3_5.1) (i := 11) rfl)))⟩, rfl, rfl, rfl⟩
set_option maxRecDepth 100000 in
theorem ip_k_123 : ip_Kok (10, 176, 11, 1) := ⟨⟨(ip_t3 (ip_v3_5 (List.mem_of_getElem? (l := ip_u3_5.1) (i := 17) rfl))), (ip_t3 (ip_v3_3 (List.mem_of_getElem? (l := ip_u3_3.1) (i := 0) rfl))), (ip_t3 (ip_v3_3 (List.mem_of_getElem? (l := ip_u3_3.1) (i := 1) rfl)))⟩, rfl, rfl, rfl⟩
set_option maxRecDepth 100000 in
theorem ip_k_124 : ip_Kok (10, 179, 16, 1) := ⟨⟨(ip_t3 (ip_v3_5 (List.mem_of_getElem? (l := ip_u3_5.1) (i := 18) rfl))), (ip_t3 (ip_v3_3 (List.mem_of_getElem? (l := ip_u3_3.1) (i := 16) rfl))), (ip_t3 (ip_v3_3 (List.mem_of_getElem? (l := ip_u3_3.1) (i := 17) rfl)))⟩, rfl, rfl, rfl⟩
set_option maxRecDepth 100000 in
theorem ip_k_125 : ip_Kok (10, 183, 78, 1) := ⟨⟨(ip_t3 (ip_v3_5 (List.mem_of_getElem? (l := ip_u3_5.1) (i := 23) rfl))), (ip_t3 (ip_v3_5 (List.mem_of_getElem? (l := ip_u3_5.1) (i := 24) rfl))), (ip_t3 (ip_v3_5 (List.mem_of_getElem? (l := ip_u3_5.1) (i := 25) rfl)))⟩, rfl, rfl, rfl⟩
set_option maxRecDepth 100000 in
theorem ip_k_126 : ip_Kok (10, 186, 79, 1) := ⟨⟨(ip_t3 (ip_v3_5 (List.mem_of_getElem? (l := ip_u3_5.1) (i := 27) rfl))), (ip_t3 (ip_v3_5 (List.mem_of_getElem? (l := ip_u3_5.1) (i := 28) rfl))), (ip_t3 (ip_v3_5 (List.mem_of_getElem? (l := ip_u3_5.1) (i := 29) rfl)))⟩, rfl, rfl, rfl⟩
set_option maxRecDepth 100000 in
theorem ip_k_127 : ip_Kok (10, 192, 80, 1) := ⟨⟨(ip_t3 (ip_v3_6 (List.mem_of_getElem? (l := ip_u3_6.1) (i := 4) rfl))), (ip_t3 (ip_v3_6 (List.mem_of_getElem? (l := ip_u3_6.1) (i := 5) rfl))), (ip_t3 (ip_v3_6 (List.mem_of_getElem? (l := ip_u3_6.1) (i := 6) rfl)))⟩, rfl, rfl, rfl⟩
set_option maxRecDepth 100000 in
theorem ip_k_128 : ip_Kok (10, 195, 81, 1) := ⟨⟨(ip_t3 (ip_v3_6 (List.mem_of_getElem? (l := ip_u3_6.1) (i := 12) rfl))), (ip_t3 (ip_v3_6 (List.mem_of_getElem? (l := ip_u3_6.1) (i := 13) rfl))), (ip_t3 (ip_v3_6 (List.mem_of_getElem? (l := ip_u3_6.1) (i := 14) rfl)))⟩, rfl, rfl, rfl⟩
set_option maxRecDepth 100000 in
theorem ip_k_129 : ip_Kok (10, 201, 105, 1) := ⟨⟨(ip_t3 (ip_v3_7 (List.mem_of_getElem? (l := ip_u3_7.1) (i := 15) rfl))), (ip_t2 (ip_v2_4 (List.mem_of_getElem? (l := ip_u2_4.1) (i := 20) rfl))), (ip_t2 (ip_v2_4 (List.mem_of_getElem? (l := ip_u2_4.1) (i := 21) rfl)))⟩, rfl, rfl, rfl⟩
set_option maxRecDepth 100000 in
theorem ip_k_130 : ip_Kok (10, 205, 107, 1) := ⟨⟨(ip_t4 (ip_v4_0 (List.mem_of_getElem? (l := ip_u4_0.1) (i := 4) rfl))), (ip_t4 (ip_v4_0 (List.mem_of_getElem? (l := ip_u4_0.1) (i := 5) rfl))), (ip_t4 (ip_v4_0 (List.mem_of_getElem? (l := ip_u4_0.1) (i := 6) rfl)))⟩, rfl, rfl, rfl⟩
set_option maxRecDepth 100000 in
theorem ip_k_131 : ip_Kok (10, 209, 159, 1) := ⟨⟨(ip_t4 (ip_v4_0 (List.mem_of_getElem? (l := ip_u4_0.1) (i := 14) rfl))), (ip_t4 (ip_v4_0 (List.mem_of_getElem? (l := ip_u4_0.1) (i := 16) rfl))), (List.mem_of_getElem? (l := lw_tbl) (i := 16) rfl)⟩, rfl, rfl, rfl⟩
set_option maxRecDepth 100000 in
theorem ip_k_132 : ip_Kok (10, 227, 56, 1) := ⟨⟨(ip_t4 (ip_v4_1 (List.mem_of_getElem? (l := ip_u4_1.1) (i := 8) rfl))), (ip_t4 (ip_v4_1 (List.mem_of_getElem? (l := ip_u4_1.1) (i := 9) rfl))), (ip_t4 (ip_v4_1 (List.mem_of_getElem? (l := ip_u4_1.1) (i := 10) rfl)))⟩, rfl, rfl, rfl⟩
set_option maxRecDepth 100000 in
theorem ip_k_133 : ip_Kok (10, 231, 76, 1) := ⟨⟨(ip_t4 (ip_v4_1 (List.mem_of_getElem? (l := ip_u4_1.1) (i := 12) rfl))), (ip_t4 (ip_v4_1 (List.mem_of_getElem? (l := ip_u4_1.1) (i := 13) rfl))), (ip_t4 (ip_v4_1 (List.mem_of_getElem? (l := ip_u4_1.1) (i := 14) rfl)))⟩, rfl, rfl, rfl⟩
set_option maxRecDepth 100000 in
theorem ip_k_134 : ip_Kok (10, 237, 57, 1) := ⟨⟨(ip_t4 (ip_v4_1 (List.mem_of_getElem? (l := ip_u4_1.1) (i := 26) rfl))), (ip_t4 (ip_v4_1 (List.mem_of_getElem? (l := ip_u4_1.1) (i := 27) rfl))), (ip_t4 (ip_v4_1 (List.mem_of_getElem? (l := ip_u4_1.1) (i := 28) rfl)))⟩, rfl, rfl, rfl⟩
set_option maxRecDepth 100000 in
theorem ip_k_135 : ip_Kok (10, 244, 75, 1) := ⟨⟨(ip_t2 (ip_v2_4 (List.mem_of_getElem? (l := ip_u2_4.1) (i := 11) rfl))), (ip_t2 (ip_v2_4 (List.mem_of_getElem? (l := ip_u2_4.1) (i := 12) rfl))), (ip_t2 (ip_v2_4 (List.mem_of_getElem? (l := ip_u2_4.1) (i := 13) rfl)))⟩, rfl, rfl, rfl⟩
set_option maxRecDepth 100000 in
theorem ip_k_136 : ip_Kok (10, 250, 157, 1) := ⟨⟨(ip_t4 (ip_v4_2 (List.mem_of_getElem? (l := ip_u4_2.1) (i := 2) rfl))), (ip_t4 (ip_v4_2 (List.mem_of_getElem? (l := ip_u4_2.1) (i := 4) rfl))), (List.mem_of_getElem? (l := lw_tbl) (i := 17) rfl)⟩, rfl, rfl, rfl⟩
set_option maxRecDepth 100000 in
theorem ip_k_137 : ip_Kok (10, 253, 58, 1) := ⟨⟨(ip_t4 (ip_v4_2 (List.mem_of_getElem? (l := ip_u4_2.1) (i := 10) rfl))), (ip_t4 (ip_v4_2 (List.mem_of_getElem? (l := ip_u4_2.1) (i := 11) rfl))), (ip_t4 (ip_v4_2 (List.mem_of_getElem? (l := ip_u4_2.1) (i := 12) rfl)))⟩, rfl, rfl, rfl⟩
set_option maxRecDepth 100000 in
theorem ip_k_138 : ip_Kok (10, 257, 46, 1) := ⟨⟨(ip_t4 (ip_v4_2 (List.mem_of_getElem? (l := ip_u4_2.1) (i := 19) rfl))), (ip_t3 (ip_v3_1 (List.mem_of_getElem? (l := ip_u3_1.1) (i := 26) rfl))), (ip_t3 (ip_v3_1 (List.mem_of_getElem? (l := ip_u3_1.1) (i := 27) rfl)))⟩, rfl, rfl, rfl⟩
set_option maxRecDepth 100000 in
theorem ip_k_139 : ip_Kok (10, 260, 102, 1) := ⟨⟨(ip_t4 (ip_v4_2 (List.mem_of_getElem? (l := ip_u4_2.1) (i := 20) rfl))), (ip_t4 (ip_v4_2 (List.mem_of_getElem? (l := ip_u4_2.1) (i := 21) rfl))), (ip_t4 (ip_v4_2 (List.mem_of_getElem? (l := ip_u4_2.1) (i := 22) rfl)))⟩, rfl, rfl, rfl⟩
set_option maxRecDepth 100000 in
theorem ip_k_140 : ip_Kok (10, 263, 61, 0) := ⟨⟨(ip_t4 (ip_v4_2 (List.mem_of_getElem? (l := ip_u4_2.1) (i := 29) rfl))), (ip_t3 (ip_v3_0 (List.mem_of_getElem? (l := ip_u3_0.1) (i := 23) rfl))), (ip_t3 (ip_v3_0 (List.mem_of_getElem? (l := ip_u3_0.1) (i := 23) rfl)))⟩, rfl, rfl, rfl⟩
set_option maxRecDepth 100000 in
theorem ip_k_141 : ip_Kok (10, 278, 44, 1) := ⟨⟨(ip_t4 (ip_v4_2 (List.mem_of_getElem? (l := ip_u4_2.1) (i := 31) rfl))), (ip_t3 (ip_v3_0 (List.mem_of_getElem? (l := ip_u3_0.1) (i := 15) rfl))), (ip_t3 (ip_v3_0 (List.mem_of_getElem? (l := ip_u3_0.1) (i := 16) rfl)))⟩, rfl, rfl, rfl⟩
set_option maxRecDepth 100000 in
theorem ip_k_142 : ip_Kok (10, 285, 62, 1) := ⟨⟨(ip_t4 (ip_v4_3 (List.mem_of_getElem? (l := ip_u4_3.1) (i := 0) rfl))), (ip_t3 (ip_v3_0 (List.mem_of_getElem? (l := ip_u3_0.1) (i := 30) rfl))), (ip_t3 (ip_v3_0 (List.mem_of_getElem? (l := ip_u3_0.1) (i := 31) rfl)))⟩, rfl, rfl, rfl⟩
set_option maxRecDepth 100000 in
theorem ip_k_143 : ip_Kok (10, 292, 72, 1) := ⟨⟨(ip_t4 (ip_v4_0 (List.mem_of_getElem? (l := ip_u4_0.1) (i := 24) rfl))), (ip_t3 (ip_v3_1 (List.mem_of_getElem? (l := ip_u3_1.1) (i := 6) rfl))), (ip_t3 (ip_v3_1 (List.mem_of_getElem? (l := ip_u3_1.1) (i := 7) rfl)))⟩, rfl, rfl, rfl⟩
set_option maxRecDepth 100000 in
theorem ip_k_144 : ip_Kok (10, 296, 164, 0) := ⟨⟨(ip_t4 (ip_v4_3 (List.mem_of_getElem? (l := ip_u4_3.1) (i := 5) rfl))), (ip_t4 (ip_v4_3 (List.mem_of_getElem? (l := ip_u4_3.1) (i := 6) rfl))), (ip_t4 (ip_v4_3 (List.mem_of_getElem? (l := ip_u4_3.1) (i := 6) rfl)))⟩, rfl, rfl, rfl⟩
set_option maxRecDepth 100000 in
theorem ip_k_145 : ip_Kok (10, 300, 48, 1) := ⟨⟨(ip_t4 (ip_v4_3 (List.mem_of_getElem? (l := ip_u4_3.1) (i := 13) rfl))), (ip_t3 (ip_v3_3 (List.mem_of_getElem? (l := ip_u3_3.1) (i := 29) rfl))), (ip_t3 (ip_v3_3 (List.mem_of_getElem? (l := ip_u3_3.1) (i := 30) rfl)))⟩, rfl, rfl, rfl⟩
set_option maxRecDepth 100000 in
theorem ip_k_146 : ip_Kok (10, 304, 13, 1) := ⟨⟨(ip_t4 (ip_v4_3 (List.mem_of_getElem? (l := ip_u4_3.1) (i := 18) rfl))), (ip_t4 (ip_v4_3 (List.mem_of_getElem? (l := ip_u4_3.1) (i := 19) rfl))), (ip_t4 (ip_v4_3 (List.mem_of_getElem? (l := ip_u4_3.1) (i := 20) rfl)))⟩, rfl, rfl, rfl⟩
set_option maxRecDepth 100000 in
theorem ip_k_147 : ip_Kok (10, 307, 14, 1) := ⟨⟨(ip_t4 (ip_v4_3 (List.mem_of_getElem? (l := ip_u4_3.1) (i := 22) rfl))), (ip_t3 (ip_v3_2 (List.mem_of_getElem? (l := ip_u3_2.1) (i := 19) rfl))), (ip_t3 (ip_v3_2 (List.mem_of_getElem? (l := ip_u3_2.1) (i := 20) rfl)))⟩, rfl, rfl, rfl⟩
set_option maxRecDepth 100000 in
theorem ip_k_148 : ip_Kok (10, 310, 17, 1) := ⟨⟨(ip_t4 (ip_v4_3 (List.mem_of_getElem? (l := ip_u4_3.1) (i := 27) rfl))), (ip_t4 (ip_v4_3 (List.mem_of_getElem? (l := ip_u4_3.1) (i := 28) rfl))), (ip_t4 (ip_v4_3 (List.mem_of_getElem? (l := ip_u4_3.1) (i := 29) rfl)))⟩, rfl, rfl, rfl⟩
set_option maxRecDepth 100000 in
theorem ip_k_149 : ip_Kok (10, 316, 160, 1) := ⟨⟨(ip_t4 (ip_v4_4 (List.mem_of_getElem? (l := ip_u4_4.1) (i := 11) rfl))), (ip_t4 (ip_v4_4 (List.mem_of_getElem? (l := ip_u4_4.1) (i := 13) rfl))), (List.mem_of_getElem? (l := lw_tbl) (i := 18) rfl)⟩, rfl, rfl, rfl⟩
set_option maxRecDepth 100000 in
theorem ip_k_150 : ip_Kok (10, 319, 4, 1) := ⟨⟨(ip_t4 (ip_v4_4 (List.mem_of_getElem? (l := ip_u4_4.1) (i := 28) rfl))), (ip_t4 (ip_v4_4 (List.mem_of_getElem? (l := ip_u4_4.1) (i := 29) rfl))), (ip_t4 (ip_v4_4 (List.mem_of_getElem? (l := ip_u4_4.1) (i := 30) rfl)))⟩, rfl, rfl, rfl⟩
set_option maxRecDepth 100000 in
theorem ip_k_151 : ip_Kok (10, 322, 5, 1) := ⟨⟨(ip_t4 (ip_v4_5 (List.mem_of_getElem? (l := ip_u4_5.1) (i := 5) rfl))), (ip_t4 (ip_v4_5 (List.mem_of_getElem? (l := ip_u4_5.1) (i := 6) rfl))), (ip_t4 (ip_v4_5 (List.mem_of_getElem? (l := ip_u4_5.1) (i := 7) rfl)))⟩, rfl, rfl, rfl⟩
set_option maxRecDepth 100000 in
theorem ip_k_152 : ip_Kok (10, 327, 70, 1) := ⟨⟨(ip_t4 (ip_v4_0 (List.mem_of_getElem? (l := ip_u4_0.1) (i := 20) rfl))), (ip_t4 (ip_v4_0 (List.mem_of_getElem? (l := ip_u4_0.1) (i := 21) rfl))), (ip_t4 (ip_v4_0 (List.mem_of_getElem? (l := ip_u4_0.1) (i := 22) rfl)))⟩, rfl, rfl, rfl⟩
set_option maxRecDepth 100000 in
theorem ip_k_153 : ip_Kok (10, 330, 71, 1) := ⟨⟨(ip_t4 (ip_v4_5 (List.mem_of_getElem? (l := ip_u4_5.1) (i := 14) rfl))), (ip_t3 (ip_v3_1 (List.mem_of_getElem? (l := ip_u3_1.1) (i := 10) rfl))), (ip_t3 (ip_v3_1 (List.mem_of_getElem? (l := ip_u3_1.1) (i := 11) rfl)))⟩, rfl, rfl, rfl⟩
set_option maxRecDepth 100000 in
theorem ip_k_154 : ip_Kok (10, 333, 47, 1) := ⟨⟨(ip_t4 (ip_v4_5 (List.mem_of_getElem? (l := ip_u4_5.1) (i := 19) rfl))), (ip_t2 (ip_v2_6 (List.mem_of_getElem? (l := ip_u2_6.1) (i := 9) rfl))), (ip_t2 (ip_v2_6 (List.mem_of_getElem? (l := ip_u2_6.1) (i := 10) rfl)))⟩, rfl, rfl, rfl⟩
set_option maxRecDepth 100000 in
theorem ip_k_155 : ip_Kok (10, 337, 7, 1) := ⟨⟨(ip_t4 (ip_v4_5 (List.mem_of_getElem? (l := ip_u4_5.1) (i := 24) rfl))), (ip_t4 (ip_v4_5 (List.mem_of_getElem? (l := ip_u4_5.1) (i := 25) rfl))), (ip_t4 (ip_v4_5 (List.mem_of_getElem? (l := ip_u4_5.1) (i := 26) rfl)))⟩, rfl, rfl, rfl⟩
set_option maxRecDepth 100000 in
theorem ip_k_156 : ip_Kok (10, 340, 6, 1) := ⟨⟨(ip_t4 (ip_v4_6 (List.mem_of_getElem? (l := ip_u4_6.1) (i := 1) rfl))), (ip_t4 (ip_v4_6 (List.mem_of_getElem? (l := ip_u4_6.1) (i := 2) rfl))), (ip_t4 (ip_v4_6 (List.mem_of_getElem? (l := ip_u4_6.1) (i := 3) rfl)))⟩, rfl, rfl, rfl⟩
set_option maxRecDepth 100000 in
theorem ip_k_157 : ip_Kok (10, 341, 8, 1) := ⟨⟨(ip_t4 (ip_v4_6 (List.mem_of_getElem? (l := ip_u4_6.1) (i := 5) rfl))), (ip_t4 (ip_v4_6 (List.mem_of_getElem? (l := ip_u4_6.1) (i := 6) rfl))), (ip_t4 (ip_v4_6 (List.mem_of_getElem? (l := ip_u4_6.1) (i := 7) rfl)))⟩, rfl, rfl, rfl⟩
set_option maxRecDepth 100000 in
theorem ip_k_158 : ip_Kok (10, 350, 33, 1) := ⟨⟨(ip_t4 (ip_v4_6 (List.mem_of_getElem? (l := ip_u4_6.1) (i := 21) rfl))), (ip_t4 (ip_v4_6 (List.mem_of_getElem? (l := ip_u4_6.1) (i := 22) rfl))), (ip_t4 (ip_v4_6 (List.mem_of_getElem? (l := ip_u4_6.1) (i := 23) rfl)))⟩, rfl, rfl, rfl⟩
set_option maxRecDepth 100000 in
theorem ip_k_159 : ip_Kok (10, 355, 69, 1) := ⟨⟨(ip_t4 (ip_v4_0 (List.mem_of_getElem? (l := ip_u4_0.1) (i := 18) rfl))), (ip_t3 (ip_v3_4 (List.mem_of_getElem? (l := ip_u3_4.1) (i := 22) rfl))), (ip_t3 (ip_v3_4 (List.mem_of_getElem? (l := ip_u3_4.1) (i := 23) rfl)))⟩, rfl, rfl, rfl⟩
set_option maxRecDepth 100000 in
theorem ip_k_160 : ip_Kok (10, 358, 34, 1) := ⟨⟨(ip_t4 (ip_v4_6 (List.mem_of_getElem? (l := ip_u4_6.1) (i := 31) rfl))), (ip_t4 (ip_v4_7 (List.mem_of_getElem? (l := ip_u4_7.1) (i := 0) rfl))), (ip_t4 (ip_v4_7 (List.mem_of_getElem? (l := ip_u4_7.1) (i := 1) rfl)))⟩, rfl, rfl, rfl⟩
set_option maxRecDepth 100000 in
theorem ip_k_161 : ip_Kok (10, 362, 37, 1) := ⟨⟨(ip_t5 (ip_v5_0 (List.mem_of_getElem? (l := ip_u5_0.1) (i := 8) rfl))), (ip_t5 (ip_v5_0 (List.mem_of_getElem? (l := ip_u5_0.1) (i := 9) rfl))), (ip_t5 (ip_v5_0 (List.mem_of_getElem? (l := ip_u5_0.1) (i := 10) rfl)))⟩, rfl, rfl, rfl⟩
set_option maxRecDepth 100000 in
theorem ip_k_162 : ip_Kok (10, 366, 161, 1) := ⟨⟨(ip_t5 (ip_v5_0 (List.mem_of_getElem? (l := ip_u5_0.1) (i := 16) rfl))), (ip_t5 (ip_v5_0 (List.mem_of_getElem? (l := ip_u5_0.1) (i := 18) rfl))), (List.mem_of_getElem? (l := lw_tbl) (i := 21) rfl)⟩, rfl, rfl, rfl⟩
set_option maxRecDepth 100000 in
theorem ip_k_163 : ip_Kok (10, 369, 106, 1) := ⟨⟨(ip_t5 (ip_v5_1 (List.mem_of_getElem? (l := ip_u5_1.1) (i := 0) rfl))), (ip_t4 (ip_v4_0 (List.mem_of_getElem? (l := ip_u4_0.1) (i := 10) rfl))), (ip_t4 (ip_v4_0 (List.mem_of_getElem? (l := ip_u4_0.1) (i := 11) rfl)))⟩, rfl, rfl, rfl⟩
set_option maxRecDepth 100000 in
theorem ip_k_164 : ip_Kok (10, 372, 108, 1) := ⟨⟨(ip_t5 (ip_v5_1 (List.mem_of_getElem? (l := ip_u5_1.1) (i := 9) rfl))), (ip_t5 (ip_v5_1 (List.mem_of_getElem? (l := ip_u5_1.1) (i := 10) rfl))), (ip_t5 (ip_v5_1 (List.mem_of_getElem? (l := ip_u5_1.1) (i := 11) rfl)))⟩, rfl, rfl, rfl⟩
set_option maxRecDepth 100000 in
theorem ip_k_165 : ip_Kok (10, 375, 162, 1) := ⟨⟨(ip_t5 (ip_v5_1 (List.mem_of_getElem? (l := ip_u5_1.1) (i := 13) rfl))), (ip_t5 (ip_v5_1 (List.mem_of_getElem? (l := ip_u5_1.1) (i := 15) rfl))), (List.mem_of_getElem? (l := lw_tbl) (i := 22) rfl)⟩, rfl, rfl, rfl⟩
set_option maxRecDepth 100000 in
theorem ip_k_166 : ip_Kok (10, 378, 31, 1) := ⟨⟨(ip_t5 (ip_v5_1 (List.mem_of_getElem? (l := ip_u5_1.1) (i := 22) rfl))), (ip_t5 (ip_v5_1 (List.mem_of_getElem? (l := ip_u5_1.1) (i := 23) rfl))), (ip_t5 (ip_v5_1 (List.mem_of_getElem? (l := ip_u5_1.1) (i := 24) rfl)))⟩, rfl, rfl, rfl⟩
set_option maxRecDepth 100000 in
theorem ip_k_167 : ip_Kok (10, 381, 32, 1) := ⟨⟨(ip_t5 (ip_v5_1 (List.mem_of_getElem? (l := ip_u5_1.1) (i := 31) rfl))), (ip_t5 (ip_v5_2 (List.mem_of_getElem? (l := ip_u5_2.1) (i := 0) rfl))), (ip_t5 (ip_v5_2 (List.mem_of_getElem? (l := ip_u5_2.1) (i := 1) rfl)))⟩, rfl, rfl, rfl⟩
set_option maxRecDepth 100000 in
theorem ip_k_168 : ip_Kok (10, 384, 91, 1) := ⟨⟨(ip_t5 (ip_v5_2 (List.mem_of_getElem? (l := ip_u5_2.1) (i := 3) rfl))), (ip_t5 (ip_v5_2 (List.mem_of_getElem? (l := ip_u5_2.1) (i := 4) rfl))), (ip_t5 (ip_v5_2 (List.mem_of_getElem? (l := ip_u5_2.1) (i := 5) rfl)))⟩, rfl, rfl, rfl⟩
set_option maxRecDepth 100000 in
theorem ip_k_169 : ip_Kok (10, 390, 55, 1) := ⟨⟨(ip_t2 (ip_v2_4 (List.mem_of_getElem? (l := ip_u2_4.1) (i := 0) rfl))), (ip_t2 (ip_v2_4 (List.mem_of_getElem? (l := ip_u2_4.1) (i := 1) rfl))), (ip_t2 (ip_v2_4 (List.mem_of_getElem? (l := ip_u2_4.1) (i := 2) rfl)))⟩, rfl, rfl, rfl⟩
set_option maxRecDepth 100000 in
theorem ip_k_170 : ip_Kok (10, 393, 42, 1) := ⟨⟨(ip_t2 (ip_v2_4 (List.mem_of_getElem? (l := ip_u2_4.1) (i := 31) rfl))), (ip_t2 (ip_v2_5 (List.mem_of_getElem? (l := ip_u2_5.1) (i := 0) rfl))), (ip_t2 (ip_v2_5 (List.mem_of_getElem? (l := ip_u2_5.1) (i := 1) rfl)))⟩, rfl, rfl, rfl⟩
set_option maxRecDepth 100000 in
theorem ip_k_171 : ip_Kok (10, 395, 21, 1) := ⟨⟨(ip_t2 (ip_v2_5 (List.mem_of_getElem? (l := ip_u2_5.1) (i := 10) rfl))), (ip_t2 (ip_v2_5 (List.mem_of_getElem? (l := ip_u2_5.1) (i := 11) rfl))), (ip_t2 (ip_v2_5 (List.mem_of_getElem? (l := ip_u2_5.1) (i := 12) rfl)))⟩, rfl, rfl, rfl⟩
set_option maxRecDepth 100000 in
theorem ip_k_172 : ip_Kok (10, 398, 50, 1) := ⟨⟨(ip_t3 (ip_v3_0 (List.mem_of_getElem? (l := ip_u3_0.1) (i := 5) rfl))), (ip_t3 (ip_v3_0 (List.mem_of_getElem? (l := ip_u3_0.1) (i := 6) rfl))), (ip_t3 (ip_v3_0 (List.mem_of_getElem? (l := ip_u3_0.1) (i := 7) rfl)))⟩, rfl, rfl, rfl⟩
set_option maxRecDepth 100000 in
theorem ip_k_173 : ip_Kok (10, 401, 51, 1) := ⟨⟨(ip_t3 (ip_v3_0 (List.mem_of_getElem? (l := ip_u3_0.1) (i := 10) rfl))), (ip_t3 (ip_v3_0 (List.mem_of_getElem? (l := ip_u3_0.1) (i := 11) rfl))), (ip_t3 (ip_v3_0 (List.mem_of_getElem? (l := ip_u3_0.1) (i := 12) rfl)))⟩, rfl, rfl, rfl⟩
set_option maxRecDepth 100000 in
theorem ip_k_174 : ip_Kok (10, 405, 52, 1) := ⟨⟨(ip_t3 (ip_v3_1 (List.mem_of_getElem? (l := ip_u3_1.1) (i := 1) rfl))), (ip_t3 (ip_v3_1 (List.mem_of_getElem? (l := ip_u3_1.1) (i := 2) rfl))), (ip_t3 (ip_v3_1 (List.mem_of_getElem? (l := ip_u3_1.1) (i := 3) rfl)))⟩, rfl, rfl, rfl⟩
set_option maxRecDepth 100000 in
theorem ip_k_175 : ip_Kok (10, 410, 53, 1) := ⟨⟨(ip_t4 (ip_v4_0 (List.mem_of_getElem? (l := ip_u4_0.1) (i := 25) rfl))), (ip_t4 (ip_v4_0 (List.mem_of_getElem? (l := ip_u4_0.1) (i := 26) rfl))), (ip_t4 (ip_v4_0 (List.mem_of_getElem? (l := ip_u4_0.1) (i := 27) rfl)))⟩, rfl, rfl, rfl⟩
set_option maxRecDepth 100000 in
theorem ip_k_176 : ip_Kok (10, 414, 1, 1) := ⟨⟨(ip_t4 (ip_v4_4 (List.mem_of_getElem? (l := ip_u4_4.1) (i := 15) rfl))), (ip_t4 (ip_v4_4 (List.mem_of_getElem? (l := ip_u4_4.1) (i := 16) rfl))), (ip_t4 (ip_v4_4 (List.mem_of_getElem? (l := ip_u4_4.1) (i := 17) rfl)))⟩, rfl, rfl, rfl⟩
set_option maxRecDepth 100000 in
theorem ip_k_177 : ip_Kok (10, 417, 36, 1) := ⟨⟨(ip_t5 (ip_v5_0 (List.mem_of_getElem? (l := ip_u5_0.1) (i := 20) rfl))), (ip_t5 (ip_v5_0 (List.mem_of_getElem? (l := ip_u5_0.1) (i := 21) rfl))), (ip_t5 (ip_v5_0 (List.mem_of_getElem? (l := ip_u5_0.1) (i := 22) rfl)))⟩, rfl, rfl, rfl⟩
set_option maxRecDepth 100000 in
theorem ip_k_178 : ip_Kok (10, 420, 293, 0) := ⟨⟨(ip_t5 (ip_v5_0 (List.mem_of_getElem? (l := ip_u5_0.1) (i := 25) rfl))), (ip_t5 (ip_v5_0 (List.mem_of_getElem? (l := ip_u5_0.1) (i := 26) rfl))), (ip_t5 (ip_v5_0 (List.mem_of_getElem? (l := ip_u5_0.1) (i := 26) rfl)))⟩, rfl, rfl, rfl⟩
set_option maxRecDepth 100000 in
theorem ip_k_179 : ip_Kok (10, 425, 294, 0) := ⟨⟨(ip_t5 (ip_v5_1 (List.mem_of_getElem? (l := ip_u5_1.1) (i := 17) rfl))), (ip_t3 (ip_v3_7 (List.mem_of_getElem? (l := ip_u3_7.1) (i := 5) rfl))), (ip_t3 (ip_v3_7 (List.mem_of_getElem? (l := ip_u3_7.1) (i := 5) rfl)))⟩, rfl, rfl, rfl⟩
set_option maxRecDepth 100000 in
theorem ip_k_180 : ip_Kok (10, 428, 163, 0) := ⟨⟨(ip_t4 (ip_v4_3 (List.mem_of_getElem? (l := ip_u4_3.1) (i := 8) rfl))), (ip_t2 (ip_v2_5 (List.mem_of_getElem? (l := ip_u2_5.1) (i := 8) rfl))), (ip_t2 (ip_v2_5 (List.mem_of_getElem? (l := ip_u2_5.1) (i := 8) rfl)))⟩, rfl, rfl, rfl⟩
set_option maxRecDepth 100000 in
theorem ip_k_181 : ip_Kok (11, 73, 169, 1) := ⟨⟨(ip_t5 (ip_v5_2 (List.mem_of_getElem? (l := ip_u5_2.1) (i := 18) rfl))), (ip_t5 (ip_v5_2 (List.mem_of_getElem? (l := ip_u5_2.1) (i := 20) rfl))), (List.mem_of_getElem? (l := lw_tbl) (i := 23) rfl)⟩, rfl, rfl, rfl⟩
set_option maxRecDepth 100000 in
theorem ip_k_182 : ip_Kok (11, 86, 167, 1) := ⟨⟨(ip_t5 (ip_v5_7 (List.mem_of_getElem? (l := ip_u5_7.1) (i := 11) rfl))), (ip_t5 (ip_v5_7 (List.mem_of_getElem? (l := ip_u5_7.1) (i := 13) rfl))), (List.mem_of_getElem? (l := lw_tbl) (i := 24) rfl)⟩, rfl, rfl, rfl⟩
set_option maxRecDepth 100000 in
theorem ip_k_183 : ip_Kok (11, 90, 171, 1) := ⟨⟨(ip_t5 (ip_v5_7 (List.mem_of_getElem? (l := ip_u5_7.1) (i := 15) rfl))), (ip_t6 (ip_v6_0 (List.mem_of_getElem? (l := ip_u6_0.1) (i := 1) rfl))), (List.mem_of_getElem? (l := lw_tbl) (i := 25) rfl)⟩, rfl, rfl, rfl⟩
set_option maxRecDepth 100000 in
theorem ip_k_184 : ip_Kok (11, 93, 168, 1) := ⟨⟨(ip_t6 (ip_v6_0 (List.mem_of_getElem? (l := ip_u6_0.1) (i := 3) rfl))), (ip_t6 (ip_v6_0 (List.mem_of_getElem? (l := ip_u6_0.1) (i := 5) rfl))), (List.mem_of_getElem? (l := lw_tbl) (i := 26) rfl)⟩, rfl, rfl, rfl⟩
set_option maxRecDepth 100000 in
theorem ip_k_185 : ip_Kok (11, 96, 166, 0) := ⟨⟨(ip_t6 (ip_v6_0 (List.mem_of_getElem? (l := ip_u6_0.1) (i := 11) rfl))), (ip_t6 (ip_v6_0 (List.mem_of_getElem? (l := ip_u6_0.1) (i := 12) rfl))), (ip_t6 (ip_v6_0 (List.mem_of_getElem? (l := ip_u6_0.1) (i := 12) rfl)))⟩, rfl, rfl, rfl⟩
set_option maxRecDepth 100000 in
theorem ip_k_186 : ip_Kok (11, 100, 173, 1) := ⟨⟨(ip_t6 (ip_v6_0 (List.mem_of_getElem? (l := ip_u6_0.1) (i := 14) rfl))), (ip_t6 (ip_v6_0 (List.mem_of_getElem? (l := ip_u6_0.1) (i := 16) rfl))), (List.mem_of_getElem? (l := lw_tbl) (i := 27) rfl)⟩, rfl, rfl, rfl⟩
set_option maxRecDepth 100000 in
theorem ip_k_187 : ip_Kok (11, 104, 176, 1) := ⟨⟨(ip_t6 (ip_v6_2 (List.mem_of_getElem? (l := ip_u6_2.1) (i := 11) rfl))), (ip_t6 (ip_v6_2 (List.mem_of_getElem? (l := ip_u6_2.1) (i := 13) rfl))), (List.mem_of_getElem? (l := lw_tbl) (i := 34) rfl)⟩, rfl, rfl, rfl⟩
set_option maxRecDepth 100000 in
theorem ip_k_188 : ip_Kok (11, 110, 177, 1) := ⟨⟨(ip_t6 (ip_v6_2 (List.mem_of_getElem? (l := ip_u6_2.1) (i := 20) rfl))), (ip_t6 (ip_v6_2 (List.mem_of_getElem? (l := ip_u6_2.1) (i := 22) rfl))), (List.mem_of_getElem? (l := lw_tbl) (i := 36) rfl)⟩, rfl, rfl, rfl⟩
set_option maxRecDepth 100000 in
theorem ip_k_189 : ip_Kok (11, 115, 178, 1) := ⟨⟨(ip_t6 (ip_v6_2 (List.mem_of_getElem? (l := ip_u6_2.1) (i := 29) rfl))), (ip_t6 (ip_v6_2 (List.mem_of_getElem? (l := ip_u6_2.1) (i := 31) rfl))), (List.mem_of_getElem? (l := lw_tbl) (i := 38) rfl)⟩, rfl, rfl, rfl⟩
set_option maxRecDepth 100000 in
theorem ip_k_190 : ip_Kok (11, 118, 179, 1) := ⟨⟨(ip_t6 (ip_v6_2 (List.mem_of_getElem? (l := ip_u6_2.1) (i := 15) rfl))), (ip_t6 (ip_v6_2 (List.mem_of_getElem? (l := ip_u6_2.1) (i := 17) rfl))), (List.mem_of_getElem? (l := lw_tbl) (i := 35) rfl)⟩, rfl, rfl, rfl⟩
set_option maxRecDepth 100000 in
theorem ip_k_191 : ip_Kok (11, 121, 180, 1) := ⟨⟨(ip_t6 (ip_v6_2 (List.mem_of_getElem? (l := ip_u6_2.1) (i := 24) rfl))), (ip_t6 (ip_v6_2 (List.mem_of_getElem? (l := ip_u6_2.1) (i := 26) rfl))), (List.mem_of_getElem? (l := lw_tbl) (i := 37) rfl)⟩, rfl, rfl, rfl⟩
set_option maxRecDepth 100000 in
theorem ip_k_192 : ip_Kok (11, 124, 181, 1) := ⟨⟨(ip_t6 (ip_v6_3 (List.mem_of_getElem? (l := ip_u6_3.1) (i := 1) rfl))), (ip_t6 (ip_v6_3 (List.mem_of_getElem? (l := ip_u6_3.1) (i := 3) rfl))), (List.mem_of_getElem? (l := lw_tbl) (i := 39) rfl)⟩, rfl, rfl, rfl⟩
set_option maxRecDepth 100000 in
theorem ip_k_193 : ip_Kok (11, 127, 184, 1) := ⟨⟨(ip_t6 (ip_v6_2 (List.mem_of_getElem? (l := ip_u6_2.1) (i := 7) rfl))), (ip_t6 (ip_v6_2 (List.mem_of_getElem? (l := ip_u6_2.1) (i := 9) rfl))), (List.mem_of_getElem? (l := lw_tbl) (i := 33) rfl)⟩, rfl, rfl, rfl⟩
set_option maxRecDepth 100000 in
theorem ip_k_194 : ip_Kok (11, 131, 185, 1) := ⟨⟨(ip_t6 (ip_v6_2 (List.mem_of_getElem? (l := ip_u6_2.1) (i := 3) rfl))), (ip_t6 (ip_v6_2 (List.mem_of_getElem? (l := ip_u6_2.1) (i := 5) rfl))), (List.mem_of_getElem? (l := lw_tbl) (i := 32) rfl)⟩, rfl, rfl, rfl⟩
set_option maxRecDepth 100000 in
theorem ip_k_195 : ip_Kok (11, 135, 187, 0) := ⟨⟨(ip_t6 (ip_v6_1 (List.mem_of_getElem? (l := ip_u6_1.1) (i := 24) rfl))), (ip_t6 (ip_v6_1 (List.mem_of_getElem? (l := ip_u6_1.1) (i := 25) rfl))), (ip_t6 (ip_v6_1 (List.mem_of_getElem? (l := ip_u6_1.1) (i := 25) rfl)))⟩, rfl, rfl, rfl⟩
set_option maxRecDepth 100000 in
theorem ip_k_196 : ip_Kok (11, 156, 189, 0) := ⟨⟨(ip_t6 (ip_v6_1 (List.mem_of_getElem? (l := ip_u6_1.1) (i := 12) rfl))), (ip_t6 (ip_v6_1 (List.mem_of_getElem? (l := ip_u6_1.1) (i := 13) rfl))), (ip_t6 (ip_v6_1 (List.mem_of_getElem? (l := ip_u6_1.1) (i := 13) rfl)))⟩, rfl, rfl, rfl⟩
set_option maxRecDepth 100000 in
theorem ip_k_197 : ip_Kok (11, 160, 188, 1) := ⟨⟨(ip_t6 (ip_v6_1 (List.mem_of_getElem? (l := ip_u6_1.1) (i := 20) rfl))), (ip_t6 (ip_v6_1 (List.mem_of_getElem? (l := ip_u6_1.1) (i := 22) rfl))), (List.mem_of_getElem? (l := lw_tbl) (i := 29) rfl)⟩, rfl, rfl, rfl⟩
set_option maxRecDepth 100000 in
theorem ip_k_198 : ip_Kok (11, 164, 182, 1) := ⟨⟨(ip_t6 (ip_v6_4 (List.mem_of_getElem? (l := ip_u6_4.1) (i := 4) rfl))), (ip_t6 (ip_v6_4 (List.mem_of_getElem? (l := ip_u6_4.1) (i := 6) rfl))), (List.mem_of_getElem? (l := lw_tbl) (i := 45) rfl)⟩, rfl, rfl, rfl⟩
set_option maxRecDepth 100000 in
theorem ip_k_199 : ip_Kok (11, 167, 183, 1) := ⟨⟨(ip_t6 (ip_v6_4 (List.mem_of_getElem? (l := ip_u6_4.1) (i := 8) rfl))), (ip_t6 (ip_v6_4 (List.mem_of_getElem? (l := ip_u6_4.1) (i := 10) rfl))), (List.mem_of_getElem? (l := lw_tbl) (i := 46) rfl)⟩, rfl, rfl, rfl⟩
set_option maxRecDepth 100000 in
theorem ip_k_200 : ip_Kok (11, 170, 191, 1) := ⟨⟨(ip_t6 (ip_v6_3 (List.mem_of_getElem? (l := ip_u6_3.1) (i := 28) rfl))), (ip_t6 (ip_v6_3 (List.mem_of_getElem? (l := ip_u6_3.1) (i := 30) rfl))), (List.mem_of_getElem? (l := lw_tbl) (i := 43) rfl)⟩, rfl, rfl, rfl⟩
set_option maxRecDepth 100000 in
theorem ip_k_201 : ip_Kok (11, 174, 193, 1) := ⟨⟨(ip_t6 (ip_v6_4 (List.mem_of_getElem? (l := ip_u6_4.1) (i := 12) rfl))), (ip_t6 (ip_v6_4 (List.mem_of_getElem? (l := ip_u6_4.1) (i := 14) rfl))), (List.mem_of_getElem? (l := lw_tbl) (i := 47) rfl)⟩, rfl, rfl, rfl⟩
set_option maxRecDepth 100000 in
theorem ip_k_202 : ip_Kok (11, 178, 194, 1) := ⟨⟨(ip_t6 (ip_v6_4 (List.mem_of_getElem? (l := ip_u6_4.1) (i := 16) rfl))), (ip_t6 (ip_v6_4 (List.mem_of_getElem? (l := ip_u6_4.1) (i := 18) rfl))), (List.mem_of_getElem? (l := lw_tbl) (i := 48) rfl)⟩, rfl, rfl, rfl⟩
set_option maxRecDepth 100000 in
theorem ip_k_203 : ip_Kok (11, 181, 195, 1) := ⟨⟨(ip_t6 (ip_v6_4 (List.mem_of_getElem? (l := ip_u6_4.1) (i := 20) rfl))), (ip_t6 (ip_v6_4 (List.mem_of_getElem? (l := ip_u6_4.1) (i := 22) rfl))), (List.mem_of_getElem? (l := lw_tbl) (i := 49) rfl)⟩, rfl, rfl, rfl⟩
set_option maxRecDepth 100000 in
theorem ip_k_204 : ip_Kok (11, 184, 186, 1) := ⟨⟨(ip_t6 (ip_v6_1 (List.mem_of_getElem? (l := ip_u6_1.1) (i := 31) rfl))), (ip_t6 (ip_v6_2 (List.mem_of_getElem? (l := ip_u6_2.1) (i := 1) rfl))), (List.mem_of_getElem? (l := lw_tbl) (i := 31) rfl)⟩, rfl, rfl, rfl⟩
set_option maxRecDepth 100000 in
theorem ip_k_205 : ip_Kok (11, 188, 199, 0) := ⟨⟨(ip_t6 (ip_v6_0 (List.mem_of_getElem? (l := ip_u6_0.1) (i := 29) rfl))), (ip_t6 (ip_v6_0 (List.mem_of_getElem? (l := ip_u6_0.1) (i := 30) rfl))), (ip_t6 (ip_v6_0 (List.mem_of_getElem? (l := ip_u6_0.1) (i := 30) rfl)))⟩, rfl, rfl, rfl⟩
set_option maxRecDepth 100000 in
theorem ip_k_206 : ip_Kok (11, 192, 200, 0) := ⟨⟨(ip_t6 (ip_v6_0 (List.mem_of_getElem? (l := ip_u6_0.1) (i := 26) rfl))), (ip_t6 (ip_v6_0 (List.mem_of_getElem? (l := ip_u6_0.1) (i := 27) rfl))), (ip_t6 (ip_v6_0 (List.mem_of_getElem? (l := ip_u6_0.1) (i := 27) rfl)))⟩, rfl, rfl, rfl⟩
set_option maxRecDepth 100000 in
theorem ip_k_207 : ip_Kok (11, 195, 170, 1) := ⟨⟨(ip_t6 (ip_v6_1 (List.mem_of_getElem? (l := ip_u6_1.1) (i := 0) rfl))), (ip_t6 (ip_v6_1 (List.mem_of_getElem? (l := ip_u6_1.1) (i := 2) rfl))), (List.mem_of_getElem? (l := lw_tbl) (i := 28) rfl)⟩, rfl, rfl, rfl⟩
set_option maxRecDepth 100000 in
theorem ip_k_208 : ip_Kok (11, 202, 196, 0) := ⟨⟨(ip_t6 (ip_v6_1 (List.mem_of_getElem? (l := ip_u6_1.1) (i := 17) rfl))), (ip_t6 (ip_v6_1 (List.mem_of_getElem? (l := ip_u6_1.1) (i := 18) rfl))), (ip_t6 (ip_v6_1 (List.mem_of_getElem? (l := ip_u6_1.1) (i := 18) rfl)))⟩, rfl, rfl, rfl⟩
set_option maxRecDepth 100000 in
theorem ip_k_209 : ip_Kok (11, 206, 198, 1) := ⟨⟨(ip_t6 (ip_v6_1 (List.mem_of_getElem? (l := ip_u6_1.1) (i := 27) rfl))), (ip_t6 (ip_v6_1 (List.mem_of_getElem? (l := ip_u6_1.1) (i := 29) rfl))), (List.mem_of_getElem? (l := lw_tbl) (i := 30) rfl)⟩, rfl, rfl, rfl⟩
set_option maxRecDepth 100000 in
theorem ip_k_210 : ip_Kok (11, 215, 197, 1) := ⟨⟨(ip_t6 (ip_v6_3 (List.mem_of_getElem? (l := ip_u6_3.1) (i := 20) rfl))), (ip_t6 (ip_v6_3 (List.mem_of_getElem? (l := ip_u6_3.1) (i := 22) rfl))), (List.mem_of_getElem? (l := lw_tbl) (i := 41) rfl)⟩, rfl, rfl, rfl⟩
set_option maxRecDepth 100000 in
theorem ip_k_211 : ip_Kok (11, 219, 192, 1) := ⟨⟨(ip_t6 (ip_v6_4 (List.mem_of_getElem? (l := ip_u6_4.1) (i := 0) rfl))), (ip_t6 (ip_v6_4 (List.mem_of_getElem? (l := ip_u6_4.1) (i := 2) rfl))), (List.mem_of_getElem? (l := lw_tbl) (i := 44) rfl)⟩, rfl, rfl, rfl⟩
set_option maxRecDepth 100000 in
theorem ip_k_212 : ip_Kok (11, 223, 206, 1) := ⟨⟨(ip_t6 (ip_v6_3 (List.mem_of_getElem? (l := ip_u6_3.1) (i := 16) rfl))), (ip_t6 (ip_v6_3 (List.mem_of_getElem? (l := ip_u6_3.1) (i := 18) rfl))), (List.mem_of_getElem? (l := lw_tbl) (i := 40) rfl)⟩, rfl, rfl, rfl⟩
set_option maxRecDepth 100000 in
theorem ip_k_213 : ip_Kok (11, 226, 205, 1) := ⟨⟨(ip_t6 (ip_v6_3 (List.mem_of_getElem? (l := ip_u6_3.1) (i := 24) rfl))), (ip_t6 (ip_v6_3 (List.mem_of_getElem? (l := ip_u6_3.1) (i := 26) rfl))), (List.mem_of_getElem? (l := lw_tbl) (i := 42) rfl)⟩, rfl, rfl, rfl⟩
set_option maxRecDepth 100000 in
theorem ip_k_214 : ip_Kok (11, 229, 190, 1) := ⟨⟨(ip_t6 (ip_v6_4 (List.mem_of_getElem? (l := ip_u6_4.1) (i := 24) rfl))), (ip_t6 (ip_v6_4 (List.mem_of_getElem? (l := ip_u6_4.1) (i := 26) rfl))), (List.mem_of_getElem? (l := lw_tbl) (i := 50) rfl)⟩, rfl, rfl, rfl⟩
set_option maxRecDepth 100000 in
theorem ip_k_215 : ip_Kok (11, 233, 210, 1) := ⟨⟨(ip_t6 (ip_v6_5 (List.mem_of_getElem? (l := ip_u6_5.1) (i := 0) rfl))), (ip_t6 (ip_v6_5 (List.mem_of_getElem? (l := ip_u6_5.1) (i := 2) rfl))), (List.mem_of_getElem? (l := lw_tbl) (i := 51) rfl)⟩, rfl, rfl, rfl⟩
set_option maxRecDepth 100000 in
theorem ip_k_216 : ip_Kok (11, 237, 211, 1) := ⟨⟨(ip_t6 (ip_v6_5 (List.mem_of_getElem? (l := ip_u6_5.1) (i := 4) rfl))), (ip_t6 (ip_v6_5 (List.mem_of_getElem? (l := ip_u6_5.1) (i := 6) rfl))), (List.mem_of_getElem? (l := lw_tbl) (i := 52) rfl)⟩, rfl, rfl, rfl⟩
set_option maxRecDepth 100000 in
theorem ip_k_217 : ip_Kok (11, 240, 209, 1) := ⟨⟨(ip_t6 (ip_v6_5 (List.mem_of_getElem? (l := ip_u6_5.1) (i := 8) rfl))), (ip_t6 (ip_v6_5 (List.mem_of_getElem? (l := ip_u6_5.1) (i := 10) rfl))), (List.mem_of_getElem? (l := lw_tbl) (i := 53) rfl)⟩, rfl, rfl, rfl⟩
set_option maxRecDepth 100000 in
theorem ip_k_218 : ip_Kok (11, 249, 208, 1) := ⟨⟨(ip_t6 (ip_v6_5 (List.mem_of_getElem? (l := ip_u6_5.1) (i := 24) rfl))), (ip_t6 (ip_v6_5 (List.mem_of_getElem? (l := ip_u6_5.1) (i := 26) rfl))), (List.mem_of_getElem? (l := lw_tbl) (i := 56) rfl)⟩, rfl, rfl, rfl⟩
set_option maxRecDepth 100000 in
theorem ip_k_219 : ip_Kok (11, 280, 213, 1) := ⟨⟨(ip_t6 (ip_v6_5 (List.mem_of_getElem? (l := ip_u6_5.1) (i := 20) rfl))), (ip_t6 (ip_v6_5 (List.mem_of_getElem? (l := ip_u6_5.1) (i := 22) rfl))), (List.mem_of_getElem? (l := lw_tbl) (i := 55) rfl)⟩, rfl, rfl, rfl⟩
set_option maxRecDepth 100000 in
theorem ip_k_220 : ip_Kok (11, 288, 216, 1) := ⟨⟨(ip_t6 (ip_v6_6 (List.mem_of_getElem? (l := ip_u6_6.1) (i := 4) rfl))), (ip_t6 (ip_v6_6 (List.mem_of_getElem? (l := ip_u6_6.1) (i := 6) rfl))), (List.mem_of_getElem? (l := lw_tbl) (i := 59) rfl)⟩, rfl, rfl, rfl⟩
set_option maxRecDepth 100000 in
theorem ip_k_221 : ip_Kok (11, 291, 215, 1) := ⟨⟨(ip_t6 (ip_v6_6 (List.mem_of_getElem? (l := ip_u6_6.1) (i := 9) rfl))), (ip_t6 (ip_v6_6 (List.mem_of_getElem? (l := ip_u6_6.1) (i := 11) rfl))), (List.mem_of_getElem? (l := lw_tbl) (i := 60) rfl)⟩, rfl, rfl, rfl⟩
set_option maxRecDepth 100000 in
theorem ip_k_222 : ip_Kok (11, 294, 217, 1) := ⟨⟨(ip_t6 (ip_v6_6 (List.mem_of_getElem? (l := ip_u6_6.1) (i := 0) rfl))), (ip_t6 (ip_v6_6 (List.mem_of_getElem? (l := ip_u6_6.1) (i := 2) rfl))), (List.mem_of_getElem? (l := lw_tbl) (i := 58) rfl)⟩, rfl, rfl, rfl⟩
set_option maxRecDepth 100000 in
theorem ip_k_223 : ip_Kok (11, 298, 218, 1) := ⟨⟨(ip_t6 (ip_v6_6 (List.mem_of_getElem? (l := ip_u6_6.1) (i := 13) rfl))), (ip_t6 (ip_v6_6 (List.mem_of_getElem? (l := ip_u6_6.1) (i := 15) rfl))), (List.mem_of_getElem? (l := lw_tbl) (i := 61) rfl)⟩, rfl, rfl, rfl⟩
set_option maxRecDepth 100000 in
theorem ip_k_224 : ip_Kok (11, 301, 222, 1) := ⟨⟨(ip_t6 (ip_v6_6 (List.mem_of_getElem? (l := ip_u6_6.1) (i := 21) rfl))), (ip_t6 (ip_v6_6 (List.mem_of_getElem? (l := ip_u6_6.1) (i := 23) rfl))), (List.mem_of_getElem? (l := lw_tbl) (i := 63) rfl)⟩, rfl, rfl, rfl⟩
set_option maxRecDepth 100000 in
theorem ip_k_225 : ip_Kok (11, 304, 221, 1) := ⟨⟨(ip_t6 (ip_v6_6 (List.mem_of_getElem? (l := ip_u6_6.1) (i := 25) rfl))), (ip_t6 (ip_v6_6 (List.mem_of_getElem? (l := ip_u6_6.1) (i := 27) rfl))), (List.mem_of_getElem? (l := lw_tbl) (i := 64) rfl)⟩, rfl, rfl, rfl⟩
set_option maxRecDepth 100000 in
theorem ip_k_226 : ip_Kok (11, 307, 214, 1) := ⟨⟨(ip_t6 (ip_v6_5 (List.mem_of_getElem? (l := ip_u6_5.1) (i := 16) rfl))), (ip_t6 (ip_v6_5 (List.mem_of_getElem? (l := ip_u6_5.1) (i := 18) rfl))), (List.mem_of_getElem? (l := lw_tbl) (i := 54) rfl)⟩, rfl, rfl, rfl⟩
set_option maxRecDepth 100000 in
theorem ip_k_227 : ip_Kok (11, 310, 219, 1) := ⟨⟨(ip_t6 (ip_v6_5 (List.mem_of_getElem? (l := ip_u6_5.1) (i := 28) rfl))), (ip_t6 (ip_v6_5 (List.mem_of_getElem? (l := ip_u6_5.1) (i := 30) rfl))), (List.mem_of_getElem? (l := lw_tbl) (i := 57) rfl)⟩, rfl, rfl, rfl⟩
set_option maxRecDepth 100000 in
theorem ip_k_228 : ip_Kok (11, 313, 220, 1) := ⟨⟨(ip_t6 (ip_v6_6 (List.mem_of_getElem? (l := ip_u6_6.1) (i := 17) rfl))), (ip_t6 (ip_v6_6 (List.mem_of_getElem? (l := ip_u6_6.1) (i := 19) rfl))), (List.mem_of_getElem? (l := lw_tbl) (i := 62) rfl)⟩, rfl, rfl, rfl⟩
set_option maxRecDepth 100000 in
theorem ip_k_229 : ip_Kok (11, 319, 226, 1) := ⟨⟨(ip_t6 (ip_v6_7 (List.mem_of_getElem? (l := ip_u6_7.1) (i := 9) rfl))), (ip_t6 (ip_v6_7 (List.mem_of_getElem? (l := ip_u6_7.1) (i := 11) rfl))), (List.mem_of_getElem? (l := lw_tbl) (i := 65) rfl)⟩, rfl, rfl, rfl⟩
set_option maxRecDepth 100000 in
theorem ip_k_230 : ip_Kok (11, 337, 229, 1) := ⟨⟨(ip_t7 (ip_v7_0 (List.mem_of_getElem? (l := ip_u7_0.1) (i := 13) rfl))), (ip_t7 (ip_v7_0 (List.mem_of_getElem? (l := ip_u7_0.1) (i := 15) rfl))), (List.mem_of_getElem? (l := lw_tbl) (i := 68) rfl)⟩, rfl, rfl, rfl⟩
set_option maxRecDepth 100000 in
theorem ip_k_231 : ip_Kok (11, 340, 231, 1) := ⟨⟨(ip_t7 (ip_v7_0 (List.mem_of_getElem? (l := ip_u7_0.1) (i := 21) rfl))), (ip_t7 (ip_v7_0 (List.mem_of_getElem? (l := ip_u7_0.1) (i := 23) rfl))), (List.mem_of_getElem? (l := lw_tbl) (i := 70) rfl)⟩, rfl, rfl, rfl⟩
set_option maxRecDepth 100000 in
theorem ip_k_232 : ip_Kok (11, 343, 230, 1) := ⟨⟨(ip_t7 (ip_v7_0 (List.mem_of_getElem? (l := ip_u7_0.1) (i := 9) rfl))), (ip_t7 (ip_v7_0 (List.mem_of_getElem? (l := ip_u7_0.1) (i := 11) rfl))), (List.mem_of_getElem? (l := lw_tbl) (i := 67) rfl)⟩, rfl, rfl, rfl⟩
set_option maxRecDepth 100000 in
theorem ip_k_233 : ip_Kok (11, 346, 232, 1) := ⟨⟨(ip_t7 (ip_v7_0 (List.mem_of_getElem? (l := ip_u7_0.1) (i := 17) rfl))), (ip_t7 (ip_v7_0 (List.mem_of_getElem? (l := ip_u7_0.1) (i := 19) rfl))), (List.mem_of_getElem? (l := lw_tbl) (i := 69) rfl)⟩, rfl, rfl, rfl⟩
set_option maxRecDepth 100000 in
theorem ip_k_234 : ip_Kok (11, 349, 233, 1) := ⟨⟨(ip_t7 (ip_v7_0 (List.mem_of_getElem? (l := ip_u7_0.1) (i := 5) rfl))), (ip_t7 (ip_v7_0 (List.mem_of_getElem? (l := ip_u7_0.1) (i := 7) rfl))), (List.mem_of_getElem? (l := lw_tbl) (i := 66) rfl)⟩, rfl, rfl, rfl⟩
set_option maxRecDepth 100000 in
theorem ip_k_235 : ip_Kok (11, 355, 243, 1) := ⟨⟨(ip_t7 (ip_v7_1 (List.mem_of_getElem? (l := ip_u7_1.1) (i := 31) rfl))), (ip_t7 (ip_v7_2 (List.mem_of_getElem? (l := ip_u7_2.1) (i := 1) rfl))), (List.mem_of_getElem? (l := lw_tbl) (i := 71) rfl)⟩, rfl, rfl, rfl⟩
set_option maxRecDepth 100000 in
theorem ip_k_236 : ip_Kok (11, 358, 244, 0) := ⟨⟨(ip_t7 (ip_v7_2 (List.mem_of_getElem? (l := ip_u7_2.1) (i := 3) rfl))), (ip_t7 (ip_v7_2 (List.mem_of_getElem? (l := ip_u7_2.1) (i := 4) rfl))), (ip_t7 (ip_v7_2 (List.mem_of_getElem? (l := ip_u7_2.1) (i := 4) rfl)))⟩, rfl, rfl, rfl⟩
set_option maxRecDepth 100000 in
theorem ip_k_237 : ip_Kok (11, 361, 247, 0) := ⟨⟨(ip_t7 (ip_v7_2 (List.mem_of_getElem? (l := ip_u7_2.1) (i := 18) rfl))), (ip_t7 (ip_v7_2 (List.mem_of_getElem? (l := ip_u7_2.1) (i := 19) rfl))), (ip_t7 (ip_v7_2 (List.mem_of_getElem? (l := ip_u7_2.1) (i := 19) rfl)))⟩, rfl, rfl, rfl⟩
set_option maxRecDepth 100000 in
theorem ip_k_238 : ip_Kok (11, 365, 246, 1) := ⟨⟨(ip_t7 (ip_v7_2 (List.mem_of_getElem? (l := ip_u7_2.1) (i := 10) rfl))), (ip_t7 (ip_v7_2 (List.mem_of_getElem? (l := ip_u7_2.1) (i := 12) rfl))), (List.mem_of_getElem? (l := lw_tbl) (i := 72) rfl)⟩, rfl, rfl, rfl⟩
set_option maxRecDepth 100000 in
theorem ip_k_239 : ip_Kok (11, 368, 248, 1) := ⟨⟨(ip_t7 (ip_v7_2 (List.mem_of_getElem? (l := ip_u7_2.1) (i := 14) rfl))), (ip_t7 (ip_v7_2 (List.mem_of_getElem? (l := ip_u7_2.1) (i := 16) rfl))), (List.mem_of_getElem? (l := lw_tbl) (i := 73) rfl)⟩, rfl, rfl, rfl⟩
set_option maxRecDepth 100000 in
theorem ip_k_240 : ip_Kok (11, 373, 251, 1) := ⟨⟨(ip_t7 (ip_v7_2 (List.mem_of_getElem? (l := ip_u7_2.1) (i := 29) rfl))), (ip_t7 (ip_v7_2 (List.mem_of_getElem? (l := ip_u7_2.1) (i := 31) rfl))), (List.mem_of_getElem? (l := lw_tbl) (i := 74) rfl)⟩, rfl, rfl, rfl⟩
set_option maxRecDepth 100000 in
theorem ip_k_241 : ip_Kok (11, 376, 252, 1) := ⟨⟨(ip_t7 (ip_v7_3 (List.mem_of_getElem? (l := ip_u7_3.1) (i := 2) rfl))), (ip_t7 (ip_v7_3 (List.mem_of_getElem? (l := ip_u7_3.1) (i := 4) rfl))), (List.mem_of_getElem? (l := lw_tbl) (i := 75) rfl)⟩, rfl, rfl, rfl⟩
set_option maxRecDepth 100000 in
theorem ip_k_242 : ip_Kok (11, 386, 255, 1) := ⟨⟨(ip_t7 (ip_v7_3 (List.mem_of_getElem? (l := ip_u7_3.1) (i := 14) rfl))), (ip_t7 (ip_v7_3 (List.mem_of_getElem? (l := ip_u7_3.1) (i := 16) rfl))), (List.mem_of_getElem? (l := lw_tbl) (i := 76) rfl)⟩, rfl, rfl, rfl⟩
set_option maxRecDepth 100000 in
theorem ip_k_243 : ip_Kok (11, 389, 257, 1) := ⟨⟨(ip_t7 (ip_v7_3 (List.mem_of_getElem? (l := ip_u7_3.1) (i := 22) rfl))), (ip_t7 (ip_v7_3 (List.mem_of_getElem? (l := ip_u7_3.1) (i := 24) rfl))), (List.mem_of_getElem? (l := lw_tbl) (i := 77) rfl)⟩, rfl, rfl, rfl⟩
set_option maxRecDepth 100000 in
theorem ip_k_244 : ip_Kok (11, 394, 258, 1) := ⟨⟨(ip_t7 (ip_v7_3 (List.mem_of_getElem? (l := ip_u7_3.1) (i := 27) rfl))), (ip_t7 (ip_v7_3 (List.mem_of_getElem? (l := ip_u7_3.1) (i := 29) rfl))), (List.mem_of_getElem? (l := lw_tbl) (i := 78) rfl)⟩, rfl, rfl, rfl⟩
set_option maxRecDepth 100000 in
theorem ip_k_245 : ip_Kok (11, 398, 260, 1) := ⟨⟨(ip_t7 (ip_v7_4 (List.mem_of_getElem? (l := ip_u7_4.1) (i := 3) rfl))), (ip_t7 (ip_v7_4 (List.mem_of_getElem? (l := ip_u7_4.1) (i := 5) rfl))), (List.mem_of_getElem? (l := lw_tbl) (i := 79) rfl)⟩, rfl, rfl, rfl⟩
set_option maxRecDepth 100000 in
theorem ip_k_246 : ip_Kok (11, 401, 262, 1) := ⟨⟨(ip_t7 (ip_v7_4 (List.mem_of_getElem? (l := ip_u7_4.1) (i := 15) rfl))), (ip_t7 (ip_v7_4 (List.mem_of_getElem? (l := ip_u7_4.1) (i := 17) rfl))), (List.mem_of_getElem? (l := lw_tbl) (i := 81) rfl)⟩, rfl, rfl, rfl⟩
set_option maxRecDepth 100000 in
theorem ip_k_247 : ip_Kok (11, 404, 263, 1) := ⟨⟨(ip_t7 (ip_v7_4 (List.mem_of_getElem? (l := ip_u7_4.1) (i := 19) rfl))), (ip_t7 (ip_v7_4 (List.mem_of_getElem? (l := ip_u7_4.1) (i := 21) rfl))), (List.mem_of_getElem? (l := lw_tbl) (i := 82) rfl)⟩, rfl, rfl, rfl⟩
set_option maxRecDepth 100000 in
theorem ip_k_248 : ip_Kok (11, 407, 264, 1) := ⟨⟨(ip_t7 (ip_v7_4 (List.mem_of_getElem? (l := ip_u7_4.1) (i := 11) rfl))), (ip_t7 (ip_v7_4 (List.mem_of_getElem? (l := ip_u7_4.1) (i := 13) rfl))), (List.mem_of_getElem? (l := lw_tbl) (i := 80) rfl)⟩, rfl, rfl, rfl⟩
set_option maxRecDepth 100000 in
theorem ip_k_249 : ip_Kok (11, 412, 266, 1) := ⟨⟨(ip_t7 (ip_v7_5 (List.mem_of_getElem? (l := ip_u7_5.1) (i := 0) rfl))), (ip_t7 (ip_v7_5 (List.mem_of_getElem? (l := ip_u7_5.1) (i := 2) rfl))), (List.mem_of_getElem? (l := lw_tbl) (i := 84) rfl)⟩, rfl, rfl, rfl⟩
set_option maxRecDepth 100000 in
theorem ip_k_250 : ip_Kok (11, 415, 267, 1) := ⟨⟨(ip_t7 (ip_v7_4 (List.mem_of_getElem? (l := ip_u7_4.1) (i := 27) rfl))), (ip_t7 (ip_v7_4 (List.mem_of_getElem? (l := ip_u7_4.1) (i := 29) rfl))), (List.mem_of_getElem? (l := lw_tbl) (i := 83) rfl)⟩, rfl, rfl, rfl⟩
set_option maxRecDepth 100000 in
theorem ip_k_251 : ip_Kok (11, 418, 269, 1) := ⟨⟨(ip_t7 (ip_v7_5 (List.mem_of_getElem? (l := ip_u7_5.1) (i := 8) rfl))), (ip_t7 (ip_v7_5 (List.mem_of_getElem? (l := ip_u7_5.1) (i := 10) rfl))), (List.mem_of_getElem? (l := lw_tbl) (i := 85) rfl)⟩, rfl, rfl, rfl⟩
set_option maxRecDepth 100000 in
theorem ip_k_252 : ip_Kok (11, 421, 271, 1) := ⟨⟨(ip_t7 (ip_v7_5 (List.mem_of_getElem? (l := ip_u7_5.1) (i := 16) rfl))), (ip_t7 (ip_v7_5 (List.mem_of_getElem? (l := ip_u7_5.1) (i := 18) rfl))), (List.mem_of_getElem? (l := lw_tbl) (i := 86) rfl)⟩, rfl, rfl, rfl⟩
set_option maxRecDepth 100000 in
theorem ip_k_253 : ip_Kok (11, 424, 273, 0) := ⟨⟨(ip_t7 (ip_v7_5 (List.mem_of_getElem? (l := ip_u7_5.1) (i := 24) rfl))), (ip_t7 (ip_v7_5 (List.mem_of_getElem? (l := ip_u7_5.1) (i := 25) rfl))), (ip_t7 (ip_v7_5 (List.mem_of_getElem? (l := ip_u7_5.1) (i := 25) rfl)))⟩, rfl, rfl, rfl⟩
set_option maxRecDepth 100000 in
theorem ip_k_254 : ip_Kok (11, 427, 277, 1) := ⟨⟨(ip_t7 (ip_v7_6 (List.mem_of_getElem? (l := ip_u7_6.1) (i := 7) rfl))), (ip_t7 (ip_v7_6 (List.mem_of_getElem? (l := ip_u7_6.1) (i := 9) rfl))), (List.mem_of_getElem? (l := lw_tbl) (i := 87) rfl)⟩, rfl, rfl, rfl⟩
set_option maxRecDepth 100000 in
theorem ip_k_255 : ip_Kok (11, 430, 278, 1) := ⟨⟨(ip_t7 (ip_v7_6 (List.mem_of_getElem? (l := ip_u7_6.1) (i := 11) rfl))), (ip_t7 (ip_v7_6 (List.mem_of_getElem? (l := ip_u7_6.1) (i := 13) rfl))), (List.mem_of_getElem? (l := lw_tbl) (i := 88) rfl)⟩, rfl, rfl, rfl⟩
set_option maxRecDepth 100000 in
theorem ip_k_256 : ip_Kok (11, 433, 282, 1) := ⟨⟨(ip_t7 (ip_v7_6 (List.mem_of_getElem? (l := ip_u7_6.1) (i := 19) rfl))), (ip_t7 (ip_v7_6 (List.mem_of_getElem? (l := ip_u7_6.1) (i := 21) rfl))), (List.mem_of_getElem? (l := lw_tbl) (i := 89) rfl)⟩, rfl, rfl, rfl⟩
set_option maxRecDepth 100000 in
theorem ip_k_257 : ip_Kok (11, 438, 283, 1) := ⟨⟨(ip_t7 (ip_v7_6 (List.mem_of_getElem? (l := ip_u7_6.1) (i := 24) rfl))), (ip_t7 (ip_v7_6 (List.mem_of_getElem? (l := ip_u7_6.1) (i := 26) rfl))), (List.mem_of_getElem? (l := lw_tbl) (i := 90) rfl)⟩, rfl, rfl, rfl⟩
set_option maxRecDepth 100000 in
theorem ip_k_258 : ip_Kok (11, 441, 281, 1) := ⟨⟨(ip_t7 (ip_v7_6 (List.mem_of_getElem? (l := ip_u7_6.1) (i := 28) rfl))), (ip_t7 (ip_v7_6 (List.mem_of_getElem? (l := ip_u7_6.1) (i := 30) rfl))), (List.mem_of_getElem? (l := lw_tbl) (i := 91) rfl)⟩, rfl, rfl, rfl⟩
set_option maxRecDepth 100000 in
theorem ip_k_259 : ip_Kok (11, 444, 280, 1) := ⟨⟨(ip_t7 (ip_v7_7 (List.mem_of_getElem? (l := ip_u7_7.1) (i := 0) rfl))), (ip_t7 (ip_v7_7 (List.mem_of_getElem? (l := ip_u7_7.1) (i := 2) rfl))), (List.mem_of_getElem? (l := lw_tbl) (i := 92) rfl)⟩, rfl, rfl, rfl⟩
set_option maxRecDepth 100000 in
theorem ip_k_260 : ip_Kok (11, 447, 285, 1) := ⟨⟨(ip_t7 (ip_v7_7 (List.mem_of_getElem? (l := ip_u7_7.1) (i := 4) rfl))), (ip_t7 (ip_v7_7 (List.mem_of_getElem? (l := ip_u7_7.1) (i := 6) rfl))), (List.mem_of_getElem? (l := lw_tbl) (i := 93) rfl)⟩, rfl, rfl, rfl⟩
set_option maxRecDepth 100000 in
theorem ip_k_261 : ip_Kok (11, 451, 286, 1) := ⟨⟨(ip_t7 (ip_v7_7 (List.mem_of_getElem? (l := ip_u7_7.1) (i := 12) rfl))), (ip_t7 (ip_v7_7 (List.mem_of_getElem? (l := ip_u7_7.1) (i := 14) rfl))), (List.mem_of_getElem? (l := lw_tbl) (i := 94) rfl)⟩, rfl, rfl, rfl⟩
set_option maxRecDepth 100000 in
theorem ip_k_262 : ip_Kok (14, 9, 109, 2) := ⟨⟨(ip_t1 (ip_v1_0 (List.mem_of_getElem? (l := ip_u1_0.1) (i := 17) rfl))), (ip_t1 (ip_v1_0 (List.mem_of_getElem? (l := ip_u1_0.1) (i := 18) rfl))), (ip_t1 (ip_v1_0 (List.mem_of_getElem? (l := ip_u1_0.1) (i := 18) rfl)))⟩, rfl, rfl, rfl⟩
set_option maxRecDepth 100000 in
theorem ip_k_263 : ip_Kok (14, 12, 165, 2) := ⟨⟨(ip_t5 (ip_v5_2 (List.mem_of_getElem? (l := ip_u5_2.1) (i := 14) rfl))), (ip_t5 (ip_v5_2 (List.mem_of_getElem? (l := ip_u5_2.1) (i := 15) rfl))), (ip_t5 (ip_v5_2 (List.mem_of_getElem? (l := ip_u5_2.1) (i := 15) rfl)))⟩, rfl, rfl, rfl⟩
set_option maxRecDepth 100000 in
theorem ip_k_264 : ip_Kok (14, 13, 110, 1) := ⟨⟨(ip_t2 (ip_v2_3 (List.mem_of_getElem? (l := ip_u2_3.1) (i := 6) rfl))), (ip_t2 (ip_v2_3 (List.mem_of_getElem? (l := ip_u2_3.1) (i := 7) rfl))), (ip_t2 (ip_v2_3 (List.mem_of_getElem? (l := ip_u2_3.1) (i := 8) rfl)))⟩, rfl, rfl, rfl⟩
set_option maxRecDepth 100000 in
theorem ip_k_265 : ip_Kok (14, 17, 201, 1) := ⟨⟨(ip_t6 (ip_v6_0 (List.mem_of_getElem? (l := ip_u6_0.1) (i := 22) rfl))), (ip_t6 (ip_v6_0 (List.mem_of_getElem? (l := ip_u6_0.1) (i := 23) rfl))), (ip_t6 (ip_v6_0 (List.mem_of_getElem? (l := ip_u6_0.1) (i := 24) rfl)))⟩, rfl, rfl, rfl⟩
set_option maxRecDepth 100000 in
theorem ip_k_266 : ip_Kok (14, 18, 111, 1) := ⟨⟨(ip_t2 (ip_v2_5 (List.mem_of_getElem? (l := ip_u2_5.1) (i := 22) rfl))), (ip_t2 (ip_v2_5 (List.mem_of_getElem? (l := ip_u2_5.1) (i := 23) rfl))), (ip_t2 (ip_v2_5 (List.mem_of_getElem? (l := ip_u2_5.1) (i := 24) rfl)))⟩, rfl, rfl, rfl⟩
set_option maxRecDepth 100000 in
theorem ip_k_267 : ip_Kok (14, 22, 202, 1) := ⟨⟨(ip_t6 (ip_v6_1 (List.mem_of_getElem? (l := ip_u6_1.1) (i := 4) rfl))), (ip_t6 (ip_v6_1 (List.mem_of_getElem? (l := ip_u6_1.1) (i := 5) rfl))), (ip_t6 (ip_v6_1 (List.mem_of_getElem? (l := ip_u6_1.1) (i := 6) rfl)))⟩, rfl, rfl, rfl⟩
set_option maxRecDepth 100000 in
theorem ip_k_268 : ip_Kok (14, 23, 112, 1) := ⟨⟨(ip_t2 (ip_v2_5 (List.mem_of_getElem? (l := ip_u2_5.1) (i := 26) rfl))), (ip_t2 (ip_v2_5 (List.mem_of_getElem? (l := ip_u2_5.1) (i := 27) rfl))), (ip_t2 (ip_v2_5 (List.mem_of_getElem? (l := ip_u2_5.1) (i := 28) rfl)))⟩, rfl, rfl, rfl⟩
set_option maxRecDepth 100000 in
theorem ip_k_269 : ip_Kok (14, 27, 203, 1) := ⟨⟨(ip_t6 (ip_v6_1 (List.mem_of_getElem? (l := ip_u6_1.1) (i := 8) rfl))), (ip_t6 (ip_v6_1 (List.mem_of_getElem? (l := ip_u6_1.1) (i := 9) rfl))), (ip_t6 (ip_v6_1 (List.mem_of_getElem? (l := ip_u6_1.1) (i := 10) rfl)))⟩, rfl, rfl, rfl⟩
set_option maxRecDepth 100000 in
theorem ip_k_270 : ip_Kok (14, 30, 113, 1) := ⟨⟨(ip_t2 (ip_v2_6 (List.mem_of_getElem? (l := ip_u2_6.1) (i := 16) rfl))), (ip_t2 (ip_v2_6 (List.mem_of_getElem? (l := ip_u2_6.1) (i := 17) rfl))), (ip_t2 (ip_v2_6 (List.mem_of_getElem? (l := ip_u2_6.1) (i := 18) rfl)))⟩, rfl, rfl, rfl⟩
set_option maxRecDepth 100000 in
theorem ip_k_271 : ip_Kok (14, 34, 204, 1) := ⟨⟨(ip_t6 (ip_v6_3 (List.mem_of_getElem? (l := ip_u6_3.1) (i := 5) rfl))), (ip_t6 (ip_v6_3 (List.mem_of_getElem? (l := ip_u6_3.1) (i := 6) rfl))), (ip_t6 (ip_v6_3 (List.mem_of_getElem? (l := ip_u6_3.1) (i := 7) rfl)))⟩, rfl, rfl, rfl⟩
set_option maxRecDepth 100000 in
theorem ip_k_272 : ip_Kok (14, 35, 114, 1) := ⟨⟨(ip_t2 (ip_v2_7 (List.mem_of_getElem? (l := ip_u2_7.1) (i := 9) rfl))), (ip_t2 (ip_v2_7 (List.mem_of_getElem? (l := ip_u2_7.1) (i := 10) rfl))), (ip_t2 (ip_v2_7 (List.mem_of_getElem? (l := ip_u2_7.1) (i := 11) rfl)))⟩, rfl, rfl, rfl⟩
set_option maxRecDepth 100000 in
theorem ip_k_273 : ip_Kok (14, 39, 207, 1) := ⟨⟨(ip_t6 (ip_v6_3 (List.mem_of_getElem? (l := ip_u6_3.1) (i := 12) rfl))), (ip_t6 (ip_v6_3 (List.mem_of_getElem? (l := ip_u6_3.1) (i := 13) rfl))), (ip_t6 (ip_v6_3 (List.mem_of_getElem? (l := ip_u6_3.1) (i := 14) rfl)))⟩, rfl, rfl, rfl⟩
set_option maxRecDepth 100000 in
theorem ip_k_274 : ip_Kok (14, 40, 115, 1) := ⟨⟨(ip_t3 (ip_v3_1 (List.mem_of_getElem? (l := ip_u3_1.1) (i := 15) rfl))), (ip_t3 (ip_v3_1 (List.mem_of_getElem? (l := ip_u3_1.1) (i := 16) rfl))), (ip_t3 (ip_v3_1 (List.mem_of_getElem? (l := ip_u3_1.1) (i := 17) rfl)))⟩, rfl, rfl, rfl⟩
set_option maxRecDepth 100000 in
theorem ip_k_275 : ip_Kok (14, 44, 212, 1) := ⟨⟨(ip_t6 (ip_v6_4 (List.mem_of_getElem? (l := ip_u6_4.1) (i := 28) rfl))), (ip_t6 (ip_v6_4 (List.mem_of_getElem? (l := ip_u6_4.1) (i := 29) rfl))), (ip_t6 (ip_v6_4 (List.mem_of_getElem? (l := ip_u6_4.1) (i := 30) rfl)))⟩, rfl, rfl, rfl⟩
set_option maxRecDepth 100000 in
theorem ip_k_276 : ip_Kok (14, 45, 116, 1) := ⟨⟨(ip_t3 (ip_v3_2 (List.mem_of_getElem? (l := ip_u3_2.1) (i := 23) rfl))), (ip_t3 (ip_v3_2 (List.mem_of_getElem? (l := ip_u3_2.1) (i := 24) rfl))), (ip_t3 (ip_v3_2 (List.mem_of_getElem? (l := ip_u3_2.1) (i := 25) rfl)))⟩, rfl, rfl, rfl⟩
set_option maxRecDepth 100000 in
theorem ip_k_277 : ip_Kok (14, 49, 223, 1) := ⟨⟨(ip_t6 (ip_v6_5 (List.mem_of_getElem? (l := ip_u6_5.1) (i := 12) rfl))), (ip_t6 (ip_v6_5 (List.mem_of_getElem? (l := ip_u6_5.1) (i := 13) rfl))), (ip_t6 (ip_v6_5 (List.mem_of_getElem? (l := ip_u6_5.1) (i := 14) rfl)))⟩, rfl, rfl, rfl⟩
set_option maxRecDepth 100000 in
theorem ip_k_278 : ip_Kok (14, 50, 117, 1) := ⟨⟨(ip_t3 (ip_v3_5 (List.mem_of_getElem? (l := ip_u3_5.1) (i := 5) rfl))), (ip_t3 (ip_v3_5 (List.mem_of_getElem? (l := ip_u3_5.1) (i := 6) rfl))), (ip_t3 (ip_v3_5 (List.mem_of_getElem? (l := ip_u3_5.1) (i := 7) rfl)))⟩, rfl, rfl, rfl⟩
set_option maxRecDepth 100000 in
theorem ip_k_279 : ip_Kok (14, 53, 224, 1) := ⟨⟨(ip_t6 (ip_v6_6 (List.mem_of_getElem? (l := ip_u6_6.1) (i := 29) rfl))), (ip_t6 (ip_v6_6 (List.mem_of_getElem? (l := ip_u6_6.1) (i := 30) rfl))), (ip_t6 (ip_v6_6 (List.mem_of_getElem? (l := ip_u6_6.1) (i := 31) rfl)))⟩, rfl, rfl, rfl⟩
set_option maxRecDepth 100000 in
theorem ip_k_280 : ip_Kok (14, 54, 118, 1) := ⟨⟨(ip_t3 (ip_v3_5 (List.mem_of_getElem? (l := ip_u3_5.1) (i := 13) rfl))), (ip_t3 (ip_v3_5 (List.mem_of_getElem? (l := ip_u3_5.1) (i := 14) rfl))), (ip_t3 (ip_v3_5 (List.mem_of_getElem? (l := ip_u3_5.1) (i := 15) rfl)))⟩, rfl, rfl, rfl⟩
set_option maxRecDepth 100000 in
theorem ip_k_281 : ip_Kok (14, 57, 225, 1) := ⟨⟨(ip_t6 (ip_v6_7 (List.mem_of_getElem? (l := ip_u6_7.1) (i := 1) rfl))), (ip_t6 (ip_v6_7 (List.mem_of_getElem? (l := ip_u6_7.1) (i := 2) rfl))), (ip_t6 (ip_v6_7 (List.mem_of_getElem? (l := ip_u6_7.1) (i := 3) rfl)))⟩, rfl, rfl, rfl⟩
set_option maxRecDepth 100000 in
theorem ip_k_282 : ip_Kok (14, 58, 119, 1) := ⟨⟨(ip_t3 (ip_v3_5 (List.mem_of_getElem? (l := ip_u3_5.1) (i := 19) rfl))), (ip_t3 (ip_v3_5 (List.mem_of_getElem? (l := ip_u3_5.1) (i := 20) rfl))), (ip_t3 (ip_v3_5 (List.mem_of_getElem? (l := ip_u3_5.1) (i := 21) rfl)))⟩, rfl, rfl, rfl⟩
set_option maxRecDepth 100000 in
theorem ip_k_283 : ip_Kok (14, 61, 227, 1) := ⟨⟨(ip_t6 (ip_v6_7 (List.mem_of_getElem? (l := ip_u6_7.1) (i := 5) rfl))), (ip_t6 (ip_v6_7 (List.mem_of_getElem? (l := ip_u6_7.1) (i := 6) rfl))), (ip_t6 (ip_v6_7 (List.mem_of_getElem? (l := ip_u6_7.1) (i := 7) rfl)))⟩, rfl, rfl, rfl⟩
set_option maxRecDepth 100000 in
theorem ip_k_284 : ip_Kok (14, 62, 120, 1) := ⟨⟨(ip_t3 (ip_v3_6 (List.mem_of_getElem? (l := ip_u3_6.1) (i := 0) rfl))), (ip_t3 (ip_v3_6 (List.mem_of_getElem? (l := ip_u3_6.1) (i := 1) rfl))), (ip_t3 (ip_v3_6 (List.mem_of_getElem? (l := ip_u3_6.1) (i := 2) rfl)))⟩, rfl, rfl, rfl⟩
set_option maxRecDepth 100000 in
theorem ip_k_285 : ip_Kok (14, 65, 228, 1) := ⟨⟨(ip_t6 (ip_v6_7 (List.mem_of_getElem? (l := ip_u6_7.1) (i := 13) rfl))), (ip_t6 (ip_v6_7 (List.mem_of_getElem? (l := ip_u6_7.1) (i := 14) rfl))), (ip_t6 (ip_v6_7 (List.mem_of_getElem? (l := ip_u6_7.1) (i := 15) rfl)))⟩, rfl, rfl, rfl⟩
set_option maxRecDepth 100000 in
theorem ip_k_286 : ip_Kok (14, 66, 121, 1) := ⟨⟨(ip_t3 (ip_v3_6 (List.mem_of_getElem? (l := ip_u3_6.1) (i := 8) rfl))), (ip_t3 (ip_v3_6 (List.mem_of_getElem? (l := ip_u3_6.1) (i := 9) rfl))), (ip_t3 (ip_v3_6 (List.mem_of_getElem? (l := ip_u3_6.1) (i := 10) rfl)))⟩, rfl, rfl, rfl⟩
set_option maxRecDepth 100000 in
theorem ip_k_287 : ip_Kok (14, 69, 234, 1) := ⟨⟨(ip_t7 (ip_v7_0 (List.mem_of_getElem? (l := ip_u7_0.1) (i := 1) rfl))), (ip_t7 (ip_v7_0 (List.mem_of_getElem? (l := ip_u7_0.1) (i := 2) rfl))), (ip_t7 (ip_v7_0 (List.mem_of_getElem? (l := ip_u7_0.1) (i := 3) rfl)))⟩, rfl, rfl, rfl⟩
set_option maxRecDepth 100000 in
theorem ip_k_288 : ip_Kok (14, 70, 122, 1) := ⟨⟨(ip_t4 (ip_v4_0 (List.mem_of_getElem? (l := ip_u4_0.1) (i := 0) rfl))), (ip_t4 (ip_v4_0 (List.mem_of_getElem? (l := ip_u4_0.1) (i := 1) rfl))), (ip_t4 (ip_v4_0 (List.mem_of_getElem? (l := ip_u4_0.1) (i := 2) rfl)))⟩, rfl, rfl, rfl⟩
set_option maxRecDepth 100000 in
theorem ip_k_289 : ip_Kok (14, 73, 284, 1) := ⟨⟨(ip_t7 (ip_v7_6 (List.mem_of_getElem? (l := ip_u7_6.1) (i := 15) rfl))), (ip_t7 (ip_v7_6 (List.mem_of_getElem? (l := ip_u7_6.1) (i := 16) rfl))), (ip_t7 (ip_v7_6 (List.mem_of_getElem? (l := ip_u7_6.1) (i := 17) rfl)))⟩, rfl, rfl, rfl⟩
set_option maxRecDepth 100000 in
theorem ip_k_290 : ip_Kok (14, 74, 123, 1) := ⟨⟨(ip_t4 (ip_v4_1 (List.mem_of_getElem? (l := ip_u4_1.1) (i := 0) rfl))), (ip_t4 (ip_v4_1 (List.mem_of_getElem? (l := ip_u4_1.1) (i := 1) rfl))), (ip_t4 (ip_v4_1 (List.mem_of_getElem? (l := ip_u4_1.1) (i := 2) rfl)))⟩, rfl, rfl, rfl⟩
set_option maxRecDepth 100000 in
theorem ip_k_291 : ip_Kok (14, 77, 235, 1) := ⟨⟨(ip_t7 (ip_v7_0 (List.mem_of_getElem? (l := ip_u7_0.1) (i := 25) rfl))), (ip_t7 (ip_v7_0 (List.mem_of_getElem? (l := ip_u7_0.1) (i := 26) rfl))), (ip_t7 (ip_v7_0 (List.mem_of_getElem? (l := ip_u7_0.1) (i := 27) rfl)))⟩, rfl, rfl, rfl⟩
set_option maxRecDepth 100000 in
theorem ip_k_292 : ip_Kok (14, 78, 124, 1) := ⟨⟨(ip_t4 (ip_v4_1 (List.mem_of_getElem? (l := ip_u4_1.1) (i := 4) rfl))), (ip_t4 (ip_v4_1 (List.mem_of_getElem? (l := ip_u4_1.1) (i := 5) rfl))), (ip_t4 (ip_v4_1 (List.mem_of_getElem? (l := ip_u4_1.1) (i := 6) rfl)))⟩, rfl, rfl, rfl⟩
set_option maxRecDepth 100000 in
theorem ip_k_293 : ip_Kok (14, 81, 172, 1) := ⟨⟨(ip_t5 (ip_v5_7 (List.mem_of_getElem? (l := ip_u5_7.1) (i := 7) rfl))), (ip_t5 (ip_v5_7 (List.mem_of_getElem? (l := ip_u5_7.1) (i := 8) rfl))), (ip_t5 (ip_v5_7 (List.mem_of_getElem? (l := ip_u5_7.1) (i := 9) rfl)))⟩, rfl, rfl, rfl⟩
set_option maxRecDepth 100000 in
theorem ip_k_294 : ip_Kok (14, 82, 125, 1) := ⟨⟨(ip_t4 (ip_v4_1 (List.mem_of_getElem? (l := ip_u4_1.1) (i := 30) rfl))), (ip_t4 (ip_v4_1 (List.mem_of_getElem? (l := ip_u4_1.1) (i := 31) rfl))), (ip_t4 (ip_v4_2 (List.mem_of_getElem? (l := ip_u4_2.1) (i := 0) rfl)))⟩, rfl, rfl, rfl⟩
set_option maxRecDepth 100000 in
theorem ip_k_295 : ip_Kok (14, 85, 174, 1) := ⟨⟨(ip_t6 (ip_v6_0 (List.mem_of_getElem? (l := ip_u6_0.1) (i := 7) rfl))), (ip_t6 (ip_v6_0 (List.mem_of_getElem? (l := ip_u6_0.1) (i := 8) rfl))), (ip_t6 (ip_v6_0 (List.mem_of_getElem? (l := ip_u6_0.1) (i := 9) rfl)))⟩, rfl, rfl, rfl⟩
set_option maxRecDepth 100000 in
theorem ip_k_296 : ip_Kok (14, 86, 126, 1) := ⟨⟨(ip_t4 (ip_v4_2 (List.mem_of_getElem? (l := ip_u4_2.1) (i := 6) rfl))), (ip_t4 (ip_v4_2 (List.mem_of_getElem? (l := ip_u4_2.1) (i := 7) rfl))), (ip_t4 (ip_v4_2 (List.mem_of_getElem? (l := ip_u4_2.1) (i := 8) rfl)))⟩, rfl, rfl, rfl⟩
set_option maxRecDepth 100000 in
theorem ip_k_297 : ip_Kok (14, 89, 175, 1) := ⟨⟨(ip_t6 (ip_v6_0 (List.mem_of_getElem? (l := ip_u6_0.1) (i := 18) rfl))), (ip_t6 (ip_v6_0 (List.mem_of_getElem? (l := ip_u6_0.1) (i := 19) rfl))), (ip_t6 (ip_v6_0 (List.mem_of_getElem? (l := ip_u6_0.1) (i := 20) rfl)))⟩, rfl, rfl, rfl⟩
set_option maxRecDepth 100000 in
theorem ip_k_298 : ip_Kok (14, 90, 127, 1) := ⟨⟨(ip_t4 (ip_v4_2 (List.mem_of_getElem? (l := ip_u4_2.1) (i := 14) rfl))), (ip_t4 (ip_v4_2 (List.mem_of_getElem? (l := ip_u4_2.1) (i := 15) rfl))), (ip_t4 (ip_v4_2 (List.mem_of_getElem? (l := ip_u4_2.1) (i := 16) rfl)))⟩, rfl, rfl, rfl⟩
set_option maxRecDepth 100000 in
theorem ip_k_299 : ip_Kok (14, 93, 236, 1) := ⟨⟨(ip_t7 (ip_v7_0 (List.mem_of_getElem? (l := ip_u7_0.1) (i := 29) rfl))), (ip_t7 (ip_v7_0 (List.mem_of_getElem? (l := ip_u7_0.1) (i := 30) rfl))), (ip_t7 (ip_v7_0 (List.mem_of_getElem? (l := ip_u7_0.1) (i := 31) rfl)))⟩, rfl, rfl, rfl⟩
set_option maxRecDepth 100000 in
theorem ip_k_300 : ip_Kok (14, 94, 128, 1) := ⟨⟨(ip_t4 (ip_v4_2 (List.mem_of_getElem? (l := ip_u4_2.1) (i := 25) rfl))), (ip_t4 (ip_v4_2 (List.mem_of_getElem? (l := ip_u4_2.1) (i := 26) rfl))), (ip_t4 (ip_v4_2 (List.mem_of_getElem? (l := ip_u4_2.1) (i := 27) rfl)))⟩, rfl, rfl, rfl⟩
set_option maxRecDepth 100000 in
theorem ip_k_301 : ip_Kok (14, 98, 237, 1) := ⟨⟨(ip_t7 (ip_v7_1 (List.mem_of_getElem? (l := ip_u7_1.1) (i := 2) rfl))), (ip_t7 (ip_v7_1 (List.mem_of_getElem? (l := ip_u7_1.1) (i := 3) rfl))), (ip_t7 (ip_v7_1 (List.mem_of_getElem? (l := ip_u7_1.1) (i := 4) rfl)))⟩, rfl, rfl, rfl⟩
set_option maxRecDepth 100000 in
theorem ip_k_302 : ip_Kok (14, 99, 129, 1) := ⟨⟨(ip_t4 (ip_v4_3 (List.mem_of_getElem? (l := ip_u4_3.1) (i := 1) rfl))), (ip_t4 (ip_v4_3 (List.mem_of_getElem? (l := ip_u4_3.1) (i := 2) rfl))), (ip_t4 (ip_v4_3 (List.mem_of_getElem? (l := ip_u4_3.1) (i := 3) rfl)))⟩, rfl, rfl, rfl⟩
set_option maxRecDepth 100000 in
theorem ip_k_303 : ip_Kok (14, 102, 238, 1) := ⟨⟨(ip_t7 (ip_v7_1 (List.mem_of_getElem? (l := ip_u7_1.1) (i := 7) rfl))), (ip_t7 (ip_v7_1 (List.mem_of_getElem? (l := ip_u7_1.1) (i := 8) rfl))), (ip_t7 (ip_v7_1 (List.mem_of_getElem? (l := ip_u7_1.1) (i := 9) rfl)))⟩, rfl, rfl, rfl⟩
set_option maxRecDepth 100000 in
theorem ip_k_304 : ip_Kok (14, 103, 130, 1) := ⟨⟨(ip_t4 (ip_v4_3 (List.mem_of_getElem? (l := ip_u4_3.1) (i := 9) rfl))), (ip_t4 (ip_v4_3 (List.mem_of_getElem? (l := ip_u4_3.1) (i := 10) rfl))), (ip_t4 (ip_v4_3 (List.mem_of_getElem? (l := ip_u4_3.1) (i := 11) rfl)))⟩, rfl, rfl, rfl⟩
set_option maxRecDepth 100000 in
theorem ip_k_305 : ip_Kok (14, 106, 239, 1) := ⟨⟨(ip_t7 (ip_v7_1 (List.mem_of_getElem? (l := ip_u7_1.1) (i := 11) rfl))), (ip_t7 (ip_v7_1 (List.mem_of_getElem? (l := ip_u7_1.1) (i := 12) rfl))), (ip_t7 (ip_v7_1 (List.mem_of_getElem? (l := ip_u7_1.1) (i := 13) rfl)))⟩, rfl, rfl, rfl⟩
set_option maxRecDepth 100000 in
theorem ip_k_306 : ip_Kok (14, 107, 131, 1) := ⟨⟨(ip_t4 (ip_v4_3 (List.mem_of_getElem? (l := ip_u4_3.1) (i := 14) rfl))), (ip_t4 (ip_v4_3 (List.mem_of_getElem? (l := ip_u4_3.1) (i := 15) rfl))), (ip_t4 (ip_v4_3 (List.mem_of_getElem? (l := ip_u4_3.1) (i := 16) rfl)))⟩, rfl, rfl, rfl⟩
set_option maxRecDepth 100000 in
theorem ip_k_307 : ip_Kok (14, 111, 240, 1) := ⟨⟨(ip_t7 (ip_v7_1 (List.mem_of_getElem? (l := ip_u7_1.1) (i := 15) rfl))), (ip_t7 (ip_v7_1 (List.mem_of_getElem? (l := ip_u7_1.1) (i := 16) rfl))), (ip_t7 (ip_v7_1 (List.mem_of_getElem? (l := ip_u7_1.1) (i := 17) rfl)))⟩, rfl, rfl, rfl⟩
set_option maxRecDepth 100000 in
theorem ip_k_308 : ip_Kok (14, 112, 132, 1) := ⟨⟨(ip_t4 (ip_v4_3 (List.mem_of_getElem? (l := ip_u4_3.1) (i := 23) rfl))), (ip_t4 (ip_v4_3 (List.mem_of_getElem? (l := ip_u4_3.1) (i := 24) rfl))), (ip_t4 (ip_v4_3 (List.mem_of_getElem? (l := ip_u4_3.1) (i := 25) rfl)))⟩, rfl, rfl, rfl⟩
set_option maxRecDepth 100000 in
theorem ip_k_309 : ip_Kok (14, 115, 241, 1) := ⟨⟨(ip_t7 (ip_v7_1 (List.mem_of_getElem? (l := ip_u7_1.1) (i := 19) rfl))), (ip_t7 (ip_v7_1 (List.mem_of_getElem? (l := ip_u7_1.1) (i := 20) rfl))), (ip_t7 (ip_v7_1 (List.mem_of_getElem? (l := ip_u7_1.1) (i := 21) rfl)))⟩, rfl, rfl, rfl⟩
set_option maxRecDepth 100000 in
theorem ip_k_310 : ip_Kok (14, 116, 133, 1) := ⟨⟨(ip_t4 (ip_v4_3 (List.mem_of_getElem? (l := ip_u4_3.1) (i := 31) rfl))), (ip_t4 (ip_v4_4 (List.mem_of_getElem? (l := ip_u4_4.1) (i := 0) rfl))), (ip_t4 (ip_v4_4 (List.mem_of_getElem? (l := ip_u4_4.1) (i := 1) rfl)))⟩, rfl, rfl, rfl⟩
set_option maxRecDepth 100000 in
theorem ip_k_311 : ip_Kok (14, 120, 242, 1) := ⟨⟨(ip_t7 (ip_v7_1 (List.mem_of_getElem? (l := ip_u7_1.1) (i := 23) rfl))), (ip_t7 (ip_v7_1 (List.mem_of_getElem? (l := ip_u7_1.1) (i := 24) rfl))), (ip_t7 (ip_v7_1 (List.mem_of_getElem? (l := ip_u7_1.1) (i := 25) rfl)))⟩, rfl, rfl, rfl⟩
set_option maxRecDepth 100000 in
theorem ip_k_312 : ip_Kok (14, 121, 134, 1) := ⟨⟨(ip_t4 (ip_v4_4 (List.mem_of_getElem? (l := ip_u4_4.1) (i := 3) rfl))), (ip_t4 (ip_v4_4 (List.mem_of_getElem? (l := ip_u4_4.1) (i := 4) rfl))), (ip_t4 (ip_v4_4 (List.mem_of_getElem? (l := ip_u4_4.1) (i := 5) rfl)))⟩, rfl, rfl, rfl⟩
set_option maxRecDepth 100000 in
theorem ip_k_313 : ip_Kok (14, 124, 245, 1) := ⟨⟨(ip_t7 (ip_v7_1 (List.mem_of_getElem? (l := ip_u7_1.1) (i := 27) rfl))), (ip_t7 (ip_v7_1 (List.mem_of_getElem? (l := ip_u7_1.1) (i := 28) rfl))), (ip_t7 (ip_v7_1 (List.mem_of_getElem? (l := ip_u7_1.1) (i := 29) rfl)))⟩, rfl, rfl, rfl⟩
set_option maxRecDepth 100000 in
theorem ip_k_314 : ip_Kok (14, 125, 135, 1) := ⟨⟨(ip_t4 (ip_v4_4 (List.mem_of_getElem? (l := ip_u4_4.1) (i := 7) rfl))), (ip_t4 (ip_v4_4 (List.mem_of_getElem? (l := ip_u4_4.1) (i := 8) rfl))), (ip_t4 (ip_v4_4 (List.mem_of_getElem? (l := ip_u4_4.1) (i := 9) rfl)))⟩, rfl, rfl, rfl⟩
set_option maxRecDepth 100000 in
theorem ip_k_315 : ip_Kok (14, 129, 249, 1) := ⟨⟨(ip_t7 (ip_v7_2 (List.mem_of_getElem? (l := ip_u7_2.1) (i := 6) rfl))), (ip_t7 (ip_v7_2 (List.mem_of_getElem? (l := ip_u7_2.1) (i := 7) rfl))), (ip_t7 (ip_v7_2 (List.mem_of_getElem? (l := ip_u7_2.1) (i := 8) rfl)))⟩, rfl, rfl, rfl⟩
set_option maxRecDepth 100000 in
theorem ip_k_316 : ip_Kok (14, 130, 136, 1) := ⟨⟨(ip_t4 (ip_v4_5 (List.mem_of_getElem? (l := ip_u4_5.1) (i := 1) rfl))), (ip_t4 (ip_v4_5 (List.mem_of_getElem? (l := ip_u4_5.1) (i := 2) rfl))), (ip_t4 (ip_v4_5 (List.mem_of_getElem? (l := ip_u4_5.1) (i := 3) rfl)))⟩, rfl, rfl, rfl⟩
set_option maxRecDepth 100000 in
theorem ip_k_317 : ip_Kok (14, 134, 250, 1) := ⟨⟨(ip_t7 (ip_v7_2 (List.mem_of_getElem? (l := ip_u7_2.1) (i := 21) rfl))), (ip_t7 (ip_v7_2 (List.mem_of_getElem? (l := ip_u7_2.1) (i := 22) rfl))), (ip_t7 (ip_v7_2 (List.mem_of_getElem? (l := ip_u7_2.1) (i := 23) rfl)))⟩, rfl, rfl, rfl⟩
set_option maxRecDepth 100000 in
theorem ip_k_318 : ip_Kok (14, 135, 137, 1) := ⟨⟨(ip_t4 (ip_v4_5 (List.mem_of_getElem? (l := ip_u4_5.1) (i := 9) rfl))), (ip_t4 (ip_v4_5 (List.mem_of_getElem? (l := ip_u4_5.1) (i := 10) rfl))), (ip_t4 (ip_v4_5 (List.mem_of_getElem? (l := ip_u4_5.1) (i := 11) rfl)))⟩, rfl, rfl, rfl⟩
set_option maxRecDepth 100000 in
theorem ip_k_319 : ip_Kok (14, 138, 253, 1) := ⟨⟨(ip_t7 (ip_v7_2 (List.mem_of_getElem? (l := ip_u7_2.1) (i := 25) rfl))), (ip_t7 (ip_v7_2 (List.mem_of_getElem? (l := ip_u7_2.1) (i := 26) rfl))), (ip_t7 (ip_v7_2 (List.mem_of_getElem? (l := ip_u7_2.1) (i := 27) rfl)))⟩, rfl, rfl, rfl⟩
set_option maxRecDepth 100000 in
theorem ip_k_320 : ip_Kok (14, 139, 138, 1) := ⟨⟨(ip_t4 (ip_v4_5 (List.mem_of_getElem? (l := ip_u4_5.1) (i := 15) rfl))), (ip_t4 (ip_v4_5 (List.mem_of_getElem? (l := ip_u4_5.1) (i := 16) rfl))), (ip_t4 (ip_v4_5 (List.mem_of_getElem? (l := ip_u4_5.1) (i := 17) rfl)))⟩, rfl, rfl, rfl⟩
set_option maxRecDepth 100000 in
theorem ip_k_321 : ip_Kok (14, 143, 254, 1) := ⟨⟨(ip_t7 (ip_v7_3 (List.mem_of_getElem? (l := ip_u7_3.1) (i := 6) rfl))), (ip_t7 (ip_v7_3 (List.mem_of_getElem? (l := ip_u7_3.1) (i := 7) rfl))), (ip_t7 (ip_v7_3 (List.mem_of_getElem? (l := ip_u7_3.1) (i := 8) rfl)))⟩, rfl, rfl, rfl⟩
set_option maxRecDepth 100000 in
theorem ip_k_322 : ip_Kok (14, 144, 139, 1) := ⟨⟨(ip_t4 (ip_v4_5 (List.mem_of_getElem? (l := ip_u4_5.1) (i := 20) rfl))), (ip_t4 (ip_v4_5 (List.mem_of_getElem? (l := ip_u4_5.1) (i := 21) rfl))), (ip_t4 (ip_v4_5 (List.mem_of_getElem? (l := ip_u4_5.1) (i := 22) rfl)))⟩, rfl, rfl, rfl⟩
set_option maxRecDepth 100000 in
theorem ip_k_323 : ip_Kok (14, 147, 256, 1) := ⟨⟨(ip_t7 (ip_v7_3 (List.mem_of_getElem? (l := ip_u7_3.1) (i := 10) rfl))), (ip_t7 (ip_v7_3 (List.mem_of_getElem? (l := ip_u7_3.1) (i := 11) rfl))), (ip_t7 (ip_v7_3 (List.mem_of_getElem? (l := ip_u7_3.1) (i := 12) rfl)))⟩, rfl, rfl, rfl⟩
set_option maxRecDepth 100000 in
theorem ip_k_324 : ip_Kok (14, 148, 140, 1) := ⟨⟨(ip_t4 (ip_v4_5 (List.mem_of_getElem? (l := ip_u4_5.1) (i := 29) rfl))), (ip_t4 (ip_v4_5 (List.mem_of_getElem? (l := ip_u4_5.1) (i := 30) rfl))), (ip_t4 (ip_v4_5 (List.mem_of_getElem? (l := ip_u4_5.1) (i := 31) rfl)))⟩, rfl, rfl, rfl⟩
set_option maxRecDepth 100000 in
theorem ip_k_325 : ip_Kok (14, 152, 259, 1) := ⟨⟨(ip_t7 (ip_v7_3 (List.mem_of_getElem? (l := ip_u7_3.1) (i := 18) rfl))), (ip_t7 (ip_v7_3 (List.mem_of_getElem? (l := ip_u7_3.1) (i := 19) rfl))), (ip_t7 (ip_v7_3 (List.mem_of_getElem? (l := ip_u7_3.1) (i := 20) rfl)))⟩, rfl, rfl, rfl⟩
set_option maxRecDepth 100000 in
theorem ip_k_326 : ip_Kok (14, 153, 141, 1) := ⟨⟨(ip_t4 (ip_v4_6 (List.mem_of_getElem? (l := ip_u4_6.1) (i := 13) rfl))), (ip_t4 (ip_v4_6 (List.mem_of_getElem? (l := ip_u4_6.1) (i := 14) rfl))), (ip_t4 (ip_v4_6 (List.mem_of_getElem? (l := ip_u4_6.1) (i := 15) rfl)))⟩, rfl, rfl, rfl⟩
set_option maxRecDepth 100000 in
theorem ip_k_327 : ip_Kok (14, 156, 261, 1) := ⟨⟨(ip_t7 (ip_v7_3 (List.mem_of_getElem? (l := ip_u7_3.1) (i := 31) rfl))), (ip_t7 (ip_v7_4 (List.mem_of_getElem? (l := ip_u7_4.1) (i := 0) rfl))), (ip_t7 (ip_v7_4 (List.mem_of_getElem? (l := ip_u7_4.1) (i := 1) rfl)))⟩, rfl, rfl, rfl⟩
set_option maxRecDepth 100000 in
theorem ip_k_328 : ip_Kok (14, 157, 142, 1) := ⟨⟨(ip_t4 (ip_v4_6 (List.mem_of_getElem? (l := ip_u4_6.1) (i := 17) rfl))), (ip_t4 (ip_v4_6 (List.mem_of_getElem? (l := ip_u4_6.1) (i := 18) rfl))), (ip_t4 (ip_v4_6 (List.mem_of_getElem? (l := ip_u4_6.1) (i := 19) rfl)))⟩, rfl, rfl, rfl⟩
set_option maxRecDepth 100000 in
theorem ip_k_329 : ip_Kok (14, 160, 265, 1) := ⟨⟨(ip_t7 (ip_v7_4 (List.mem_of_getElem? (l := ip_u7_4.1) (i := 7) rfl))), (ip_t7 (ip_v7_4 (List.mem_of_getElem? (l := ip_u7_4.1) (i := 8) rfl))), (ip_t7 (ip_v7_4 (List.mem_of_getElem? (l := ip_u7_4.1) (i := 9) rfl)))⟩, rfl, rfl, rfl⟩
set_option maxRecDepth 100000 in
theorem ip_k_330 : ip_Kok (14, 161, 143, 1) := ⟨⟨(ip_t4 (ip_v4_6 (List.mem_of_getElem? (l := ip_u4_6.1) (i := 27) rfl))), (ip_t4 (ip_v4_6 (List.mem_of_getElem? (l := ip_u4_6.1) (i := 28) rfl))), (ip_t4 (ip_v4_6 (List.mem_of_getElem? (l := ip_u4_6.1) (i := 29) rfl)))⟩, rfl, rfl, rfl⟩
set_option maxRecDepth 100000 in
theorem ip_k_331 : ip_Kok (14, 164, 268, 1) := ⟨⟨(ip_t7 (ip_v7_4 (List.mem_of_getElem? (l := ip_u7_4.1) (i := 23) rfl))), (ip_t7 (ip_v7_4 (List.mem_of_getElem? (l := ip_u7_4.1) (i := 24) rfl))), (ip_t7 (ip_v7_4 (List.mem_of_getElem? (l := ip_u7_4.1) (i := 25) rfl)))⟩, rfl, rfl, rfl⟩
set_option maxRecDepth 100000 in
theorem ip_k_332 : ip_Kok (14, 165, 144, 1) := ⟨⟨(ip_t5 (ip_v5_0 (List.mem_of_getElem? (l := ip_u5_0.1) (i := 0) rfl))), (ip_t5 (ip_v5_0 (List.mem_of_getElem? (l := ip_u5_0.1) (i := 1) rfl))), (ip_t5 (ip_v5_0 (List.mem_of_getElem? (l := ip_u5_0.1) (i := 2) rfl)))⟩, rfl, rfl, rfl⟩
set_option maxRecDepth 100000 in
theorem ip_k_333 : ip_Kok (14, 168, 270, 1) := ⟨⟨(ip_t7 (ip_v7_5 (List.mem_of_getElem? (l := ip_u7_5.1) (i := 4) rfl))), (ip_t7 (ip_v7_5 (List.mem_of_getElem? (l := ip_u7_5.1) (i := 5) rfl))), (ip_t7 (ip_v7_5 (List.mem_of_getElem? (l := ip_u7_5.1) (i := 6) rfl)))⟩, rfl, rfl, rfl⟩
set_option maxRecDepth 100000 in
theorem ip_k_334 : ip_Kok (14, 169, 145, 1) := ⟨⟨(ip_t5 (ip_v5_0 (List.mem_of_getElem? (l := ip_u5_0.1) (i := 4) rfl))), (ip_t5 (ip_v5_0 (List.mem_of_getElem? (l := ip_u5_0.1) (i := 5) rfl))), (ip_t5 (ip_v5_0 (List.mem_of_getElem? (l := ip_u5_0.1) (i := 6) rfl)))⟩, rfl, rfl, rfl⟩
set_option maxRecDepth 100000 in
theorem ip_k_335 : ip_Kok (14, 173, 272, 1) := ⟨⟨(ip_t7 (ip_v7_5 (List.mem_of_getElem? (l := ip_u7_5.1) (i := 12) rfl))), (ip_t7 (ip_v7_5 (List.mem_of_getElem? (l := ip_u7_5.1) (i := 13) rfl))), (ip_t7 (ip_v7_5 (List.mem_of_getElem? (l := ip_u7_5.1) (i := 14) rfl)))⟩, rfl, rfl, rfl⟩
set_option maxRecDepth 100000 in
theorem ip_k_336 : ip_Kok (14, 174, 146, 1) := ⟨⟨(ip_t5 (ip_v5_0 (List.mem_of_getElem? (l := ip_u5_0.1) (i := 12) rfl))), (ip_t5 (ip_v5_0 (List.mem_of_getElem? (l := ip_u5_0.1) (i := 13) rfl))), (ip_t5 (ip_v5_0 (List.mem_of_getElem? (l := ip_u5_0.1) (i := 14) rfl)))⟩, rfl, rfl, rfl⟩
set_option maxRecDepth 100000 in
theorem ip_k_337 : ip_Kok (14, 177, 274, 1) := ⟨⟨(ip_t7 (ip_v7_5 (List.mem_of_getElem? (l := ip_u7_5.1) (i := 20) rfl))), (ip_t7 (ip_v7_5 (List.mem_of_getElem? (l := ip_u7_5.1) (i := 21) rfl))), (ip_t7 (ip_v7_5 (List.mem_of_getElem? (l := ip_u7_5.1) (i := 22) rfl)))⟩, rfl, rfl, rfl⟩
set_option maxRecDepth 100000 in
theorem ip_k_338 : ip_Kok (14, 178, 147, 1) := ⟨⟨(ip_t5 (ip_v5_0 (List.mem_of_getElem? (l := ip_u5_0.1) (i := 28) rfl))), (ip_t5 (ip_v5_0 (List.mem_of_getElem? (l := ip_u5_0.1) (i := 29) rfl))), (ip_t5 (ip_v5_0 (List.mem_of_getElem? (l := ip_u5_0.1) (i := 30) rfl)))⟩, rfl, rfl, rfl⟩
set_option maxRecDepth 100000 in
theorem ip_k_339 : ip_Kok (14, 181, 275, 1) := ⟨⟨(ip_t7 (ip_v7_5 (List.mem_of_getElem? (l := ip_u7_5.1) (i := 27) rfl))), (ip_t7 (ip_v7_5 (List.mem_of_getElem? (l := ip_u7_5.1) (i := 28) rfl))), (ip_t7 (ip_v7_5 (List.mem_of_getElem? (l := ip_u7_5.1) (i := 29) rfl)))⟩, rfl, rfl, rfl⟩
set_option maxRecDepth 100000 in
theorem ip_k_340 : ip_Kok (14, 182, 148, 1) := ⟨⟨(ip_t5 (ip_v5_1 (List.mem_of_getElem? (l := ip_u5_1.1) (i := 1) rfl))), (ip_t5 (ip_v5_1 (List.mem_of_getElem? (l := ip_u5_1.1) (i := 2) rfl))), (ip_t5 (ip_v5_1 (List.mem_of_getElem? (l := ip_u5_1.1) (i := 3) rfl)))⟩, rfl, rfl, rfl⟩
set_option maxRecDepth 100000 in
theorem ip_k_341 : ip_Kok (14, 185, 276, 1) := ⟨⟨(ip_t7 (ip_v7_5 (List.mem_of_getElem? (l := ip_u7_5.1) (i := 31) rfl))), (ip_t7 (ip_v7_6 (List.mem_of_getElem? (l := ip_u7_6.1) (i := 0) rfl))), (ip_t7 (ip_v7_6 (List.mem_of_getElem? (l := ip_u7_6.1) (i := 1) rfl)))⟩, rfl, rfl, rfl⟩
set_option maxRecDepth 100000 in
theorem ip_k_342 : ip_Kok (14, 186, 149, 1) := ⟨⟨(ip_t5 (ip_v5_1 (List.mem_of_getElem? (l := ip_u5_1.1) (i := 5) rfl))), (ip_t5 (ip_v5_1 (List.mem_of_getElem? (l := ip_u5_1.1) (i := 6) rfl))), (ip_t5 (ip_v5_1 (List.mem_of_getElem? (l := ip_u5_1.1) (i := 7) rfl)))⟩, rfl, rfl, rfl⟩
set_option maxRecDepth 100000 in
theorem ip_k_343 : ip_Kok (14, 189, 279, 1) := ⟨⟨(ip_t7 (ip_v7_6 (List.mem_of_getElem? (l := ip_u7_6.1) (i := 3) rfl))), (ip_t7 (ip_v7_6 (List.mem_of_getElem? (l := ip_u7_6.1) (i := 4) rfl))), (ip_t7 (ip_v7_6 (List.mem_of_getElem? (l := ip_u7_6.1) (i := 5) rfl)))⟩, rfl, rfl, rfl⟩
set_option maxRecDepth 100000 in
theorem ip_k_344 : ip_Kok (14, 190, 150, 1) := ⟨⟨(ip_t5 (ip_v5_1 (List.mem_of_getElem? (l := ip_u5_1.1) (i := 18) rfl))), (ip_t5 (ip_v5_1 (List.mem_of_getElem? (l := ip_u5_1.1) (i := 19) rfl))), (ip_t5 (ip_v5_1 (List.mem_of_getElem? (l := ip_u5_1.1) (i := 20) rfl)))⟩, rfl, rfl, rfl⟩
set_option maxRecDepth 100000 in
theorem ip_k_345 : ip_Kok (14, 193, 287, 1) := ⟨⟨(ip_t7 (ip_v7_7 (List.mem_of_getElem? (l := ip_u7_7.1) (i := 8) rfl))), (ip_t7 (ip_v7_7 (List.mem_of_getElem? (l := ip_u7_7.1) (i := 9) rfl))), (ip_t7 (ip_v7_7 (List.mem_of_getElem? (l := ip_u7_7.1) (i := 10) rfl)))⟩, rfl, rfl, rfl⟩
set_option maxRecDepth 100000 in
theorem ip_k_346 : ip_Kok (14, 194, 151, 1) := ⟨⟨(ip_t5 (ip_v5_1 (List.mem_of_getElem? (l := ip_u5_1.1) (i := 27) rfl))), (ip_t5 (ip_v5_1 (List.mem_of_getElem? (l := ip_u5_1.1) (i := 28) rfl))), (ip_t5 (ip_v5_1 (List.mem_of_getElem? (l := ip_u5_1.1) (i := 29) rfl)))⟩, rfl, rfl, rfl⟩
set_option maxRecDepth 100000 in
theorem ip_k_347 : ip_Kok (14, 197, 288, 1) := ⟨⟨(ip_t8 (ip_v8_0 (List.mem_of_getElem? (l := ip_u8_0.1) (i := 0) rfl))), (ip_t8 (ip_v8_0 (List.mem_of_getElem? (l := ip_u8_0.1) (i := 1) rfl))), (ip_t8 (ip_v8_0 (List.mem_of_getElem? (l := ip_u8_0.1) (i := 2) rfl)))⟩, rfl, rfl, rfl⟩
set_option maxRecDepth 100000 in
theorem ip_k_348 : ip_Kok (14, 198, 152, 1) := ⟨⟨(ip_t5 (ip_v5_2 (List.mem_of_getElem? (l := ip_u5_2.1) (i := 8) rfl))), (ip_t5 (ip_v5_2 (List.mem_of_getElem? (l := ip_u5_2.1) (i := 9) rfl))), (ip_t5 (ip_v5_2 (List.mem_of_getElem? (l := ip_u5_2.1) (i := 10) rfl)))⟩, rfl, rfl, rfl⟩
set_option maxRecDepth 100000 in
theorem ip_k_349 : ip_Kok (14, 201, 289, 1) := ⟨⟨(ip_t8 (ip_v8_0 (List.mem_of_getElem? (l := ip_u8_0.1) (i := 4) rfl))), (ip_t8 (ip_v8_0 (List.mem_of_getElem? (l := ip_u8_0.1) (i := 5) rfl))), (ip_t8 (ip_v8_0 (List.mem_of_getElem? (l := ip_u8_0.1) (i := 6) rfl)))⟩, rfl, rfl, rfl⟩
set_option maxRecDepth 100000 in
theorem ip_Kq0 : ∀ r ∈ ip_K0, ip_Kok r := List.forall_mem_cons.mpr ⟨ip_k_0, List.forall_mem_cons.mpr ⟨ip_k_1, List.forall_mem_cons.mpr ⟨ip_k_2, List.forall_mem_cons.mpr ⟨ip_k_3, List.forall_mem_cons.mpr ⟨ip_k_4, List.forall_mem_cons.mpr ⟨ip_k_5, List.forall_mem_cons.mpr ⟨ip_k_6, List.forall_mem_cons.mpr ⟨ip_k_7, List.forall_mem_cons.mpr ⟨ip_k_8, List.forall_mem_cons.mpr ⟨ip_k_9, List.forall_mem_cons.mpr ⟨ip_k_10, List.forall_mem_cons.mpr ⟨ip_k_11, List.forall_mem_cons.mpr ⟨ip_k_12, List.forall_mem_cons.mpr ⟨ip_k_13, List.forall_mem_cons.mpr ⟨ip_k_14, List.forall_mem_cons.mpr ⟨ip_k_15, List.forall_mem_cons.mpr ⟨ip_k_16, List.forall_mem_cons.mpr ⟨ip_k_17, List.forall_mem_cons.mpr ⟨ip_k_18, List.forall_mem_cons.mpr ⟨ip_k_19, List.forall_mem_cons.mpr ⟨ip_k_20, List.forall_mem_cons.mpr ⟨ip_k_21, List.forall_mem_cons.mpr ⟨ip_k_22, List.forall_mem_cons.mpr ⟨ip_k_23, List.forall_mem_cons.mpr ⟨ip_k_24, fun _ h => absurd h List.not_mem_nil⟩⟩⟩⟩⟩⟩⟩⟩⟩⟩⟩⟩⟩⟩⟩⟩⟩⟩⟩⟩⟩⟩⟩⟩⟩
set_option maxRecDepth 100000 in
theorem ip_Kq1 : ∀ r ∈ ip_K1, ip_Kok r := List.forall_mem_cons.mpr ⟨ip_k_25, List.forall_mem_cons.mpr ⟨ip_k_26, List.forall_mem_cons.mpr ⟨ip_k_27, List.forall_mem_cons.mpr ⟨ip_k_28, List.forall_mem_cons.mpr ⟨ip_k_29, List.forall_mem_cons.mpr ⟨ip_k_30, List.forall_mem_cons.mpr ⟨ip_k_31, List.forall_mem_cons.mpr ⟨ip_k_32, List.forall_mem_cons.mpr ⟨ip_k_33, List.forall_mem_cons.mpr ⟨ip_k_34, List.forall_mem_cons.mpr ⟨ip_k_35, List.forall_mem_cons.mpr ⟨ip_k_36, List.forall_mem_cons.mpr ⟨ip_k_37, List.forall_mem_cons.mpr ⟨ip_k_38, List.forall_mem_cons.mpr ⟨ip_k_39, List.forall_mem_cons.mpr ⟨ip_k_40, List.forall_mem_cons.mpr ⟨ip_k_41, List.forall_mem_cons.mpr ⟨ip_k_42, List.forall_mem_cons.mpr ⟨ip_k_43, List.forall_mem_cons.mpr ⟨ip_k_44, List.forall_mem_cons.mpr ⟨ip_k_45, List.forall_mem_cons.mpr ⟨ip_k_46, List.forall_mem_cons.mpr ⟨ip_k_47, List.forall_mem_cons.mpr ⟨ip_k_48, List.forall_mem_cons.mpr ⟨ip_k_49, fun _ h => absurd h List.not_mem_nil⟩⟩⟩⟩⟩⟩⟩⟩⟩⟩⟩⟩⟩⟩⟩⟩⟩⟩⟩⟩⟩⟩⟩⟩⟩
set_option maxRecDepth 100000 in
theorem ip_Kq2 : ∀ r ∈ ip_K2, ip_Kok r := List.forall_mem_cons.mpr ⟨ip_k_50, List.forall_mem_cons.mpr ⟨ip_k_51, List.forall_mem_cons.mpr ⟨ip_k_52, List.forall_mem_cons.mpr ⟨ip_k_53, List.forall_mem_cons.mpr ⟨ip_k_54, List.forall_mem_cons.mpr ⟨ip_k_55, List.forall_mem_cons.mpr ⟨ip_k_56, List.forall_mem_cons.mpr ⟨ip_k_57, List.forall_mem_cons.mpr ⟨ip_k_58, List.forall_mem_cons.mpr ⟨ip_k_59, List.forall_mem_cons.mpr ⟨ip_k_60, List.forall_mem_cons.mpr ⟨ip_k_61, List.forall_mem_cons.mpr ⟨ip_k_62, List.forall_mem_cons.mpr ⟨ip_k_63, List.forall_mem_cons.mpr ⟨ip_k_64, List.forall_mem_cons.mpr ⟨ip_k_65, List.forall_mem_cons.mpr ⟨ip_k_66, List.forall_mem_cons.mpr ⟨ip_k_67, List.forall_mem_cons.mpr ⟨ip_k_68, List.forall_mem_cons.mpr ⟨ip_k_69, List.forall_mem_cons.mpr ⟨ip_k_70, List.forall_mem_cons.mpr ⟨ip_k_71, List.forall_mem_cons.mpr ⟨ip_k_72, List.forall_mem_cons.mpr ⟨ip_k_73, List.forall_mem_cons.mpr ⟨ip_k_74, fun _ h => absurd h List.not_mem_nil⟩⟩⟩⟩⟩⟩⟩⟩⟩⟩⟩⟩⟩⟩⟩⟩⟩⟩⟩⟩⟩⟩⟩⟩⟩
set_option maxRecDepth 100000 in
theorem ip_Kq3 : ∀ r ∈ ip_K3, ip_Kok r := List.forall_mem_cons.mpr ⟨ip_k_75, List.forall_mem_cons.mpr ⟨ip_k_76, List.forall_mem_cons.mpr ⟨ip_k_77, List.forall_mem_cons.mpr ⟨ip_k_78, List.forall_mem_cons.mpr ⟨ip_k_79, List.forall_mem_cons.mpr ⟨ip_k_80, List.forall_mem_cons.mpr ⟨ip_k_81, List.forall_mem_cons.mpr ⟨ip_k_82, List.forall_mem_cons.mpr ⟨ip_k_83, List.forall_mem_cons.mpr ⟨ip_k_84, List.forall_mem_cons.mpr ⟨ip_k_85, List.forall_mem_cons.mpr ⟨ip_k_86, List.forall_mem_cons.mpr ⟨ip_k_87, List.forall_mem_cons.mpr ⟨ip_k_88, List.forall_mem_cons.mpr ⟨ip_k_89, List.forall_mem_cons.mpr ⟨ip_k_90, List.forall_mem_cons.mpr ⟨ip_k_91, List.forall_mem_cons.mpr ⟨ip_k_92, List.forall_mem_cons.mpr ⟨ip_k_93, List.forall_mem_cons.mpr ⟨ip_k_94, List.forall_mem_cons.mpr ⟨ip_k_95, List.forall_mem_cons.mpr ⟨ip_k_96, List.forall_mem_cons.mpr ⟨ip_k_97, List.forall_mem_cons.mpr ⟨ip_k_98, List.forall_mem_cons.mpr ⟨ip_k_99, fun _ h => absurd h List.not_mem_nil⟩⟩⟩⟩⟩⟩⟩⟩⟩⟩⟩⟩⟩⟩⟩⟩⟩⟩⟩⟩⟩⟩⟩⟩⟩
set_option maxRecDepth 100000 in
theorem ip_Kq4 : ∀ r ∈ ip_K4, ip_Kok r := List.forall_mem_cons.mpr ⟨ip_k_100, List.forall_mem_cons.mpr ⟨ip_k_101, List.forall_mem_cons.mpr ⟨ip_k_102, List.forall_mem_cons.mpr ⟨ip_k_103, List.forall_mem_cons.mpr ⟨ip_k_104, List.forall_mem_cons.mpr ⟨ip_k_105, List.forall_mem_cons.mpr ⟨ip_k_106, List.forall_mem_cons.mpr ⟨ip_k_107, List.forall_mem_cons.mpr ⟨ip_k_108, List.forall_mem_cons.mpr ⟨ip_k_109, List.forall_mem_cons.mpr ⟨ip_k_110, List.forall_mem_cons.mpr ⟨ip_k_111, List.forall_mem_cons.mpr ⟨ip_k_112, List.forall_mem_cons.mpr ⟨ip_k_113, List.forall_mem_cons.mpr ⟨ip_k_114, List.forall_mem_cons.mpr ⟨ip_k_115, List.forall_mem_cons.mpr ⟨ip_k_116, List.forall_mem_cons.mpr ⟨ip_k_117, List.forall_mem_cons.mpr ⟨ip_k_118, List.forall_mem_cons.mpr ⟨ip_k_119, List.forall_mem_cons.mpr ⟨ip_k_120, List.forall_mem_cons.mpr ⟨ip_k_121, List.forall_mem_cons.mpr ⟨ip_k_122, List.forall_mem_cons.mpr ⟨ip_k_123, List.forall_mem_cons.mpr ⟨ip_k_124, fun _ h => absurd h List.not_mem_nil⟩⟩⟩⟩⟩⟩⟩⟩⟩⟩⟩⟩⟩⟩⟩⟩⟩⟩⟩⟩⟩⟩⟩⟩⟩
set_option maxRecDepth 100000 in
theorem ip_Kq5 : ∀ r ∈ ip_K5, ip_Kok r := List.forall_mem_cons.mpr ⟨ip_k_125, List.forall_mem_cons.mpr ⟨ip_k_126, List.forall_mem_cons.mpr ⟨ip_k_127, List.forall_mem_cons.mpr ⟨ip_k_128, List.forall_mem_cons.mpr ⟨ip_k_129, List.forall_mem_cons.mpr ⟨ip_k_130, List.forall_mem_cons.mpr ⟨ip_k_131, List.forall_mem_cons.mpr ⟨ip_k_132, List.forall_mem_cons.mpr ⟨ip_k_133, List.forall_mem_cons.mpr ⟨ip_k_134, List.forall_mem_cons.mpr ⟨ip_k_135, List.forall_mem_cons.mpr ⟨ip_k_136, List.forall_mem_cons.mpr ⟨ip_k_137, List.forall_mem_cons.mpr ⟨ip_k_138, List.forall_mem_cons.mpr ⟨ip_k_139, List.forall_mem_cons.mpr ⟨ip_k_140, List.forall_mem_cons.mpr ⟨ip_k_141, List.forall_mem_cons.mpr ⟨ip_k_142, List.forall_mem_cons.mpr ⟨ip_k_143, List.forall_mem_cons.mpr ⟨ip_k_144, List.forall_mem_cons.mpr ⟨ip_k_145, List.forall_mem_cons.mpr ⟨ip_k_146, List.forall_mem_cons.mpr ⟨ip_k_147, List.forall_mem_cons.mpr ⟨ip_k_148, List.forall_mem_cons.mpr ⟨ip_k_149, fun _ h => absurd h List.not_mem_nil⟩⟩⟩⟩⟩⟩⟩⟩⟩⟩⟩⟩⟩⟩⟩⟩⟩⟩⟩⟩⟩⟩⟩⟩⟩
set_option maxRecDepth 100000 in
theorem ip_Kq6 : ∀ r ∈ ip_K6, ip_Kok r := List.forall_mem_cons.mpr ⟨ip_k_150, List.forall_mem_cons.mpr ⟨ip_k_151, List.forall_mem_cons.mpr ⟨ip_k_152, List.forall_mem_cons.mpr ⟨ip_k_153, List.forall_mem_cons.mpr ⟨ip_k_154, List.forall_mem_cons.mpr ⟨ip_k_155, List.forall_mem_cons.mpr ⟨ip_k_156, List.forall_mem_cons.mpr ⟨ip_k_157, List.forall_mem_cons.mpr ⟨ip_k_158, List.forall_mem_cons.mpr ⟨ip_k_159, List.forall_mem_cons.mpr ⟨ip_k_160, List.forall_mem_cons.mpr ⟨ip_k_161, List.forall_mem_cons.mpr ⟨ip_k_162, List.forall_mem_cons.mpr ⟨ip_k_163, List.forall_mem_cons.mpr ⟨ip_k_164, List.forall_mem_cons.mpr ⟨ip_k_165, List.forall_mem_cons.mpr ⟨ip_k_166, List.forall_mem_cons.mpr ⟨ip_k_167, List.forall_mem_cons.mpr ⟨ip_k_168, List.forall_mem_cons.mpr ⟨ip_k_169, List.forall_mem_cons.mpr ⟨ip_k_170, List.forall_mem_cons.mpr ⟨ip_k_171, List.forall_mem_cons.mpr ⟨ip_k_172, List.forall_mem_cons.mpr ⟨ip_k_173, List.forall_mem_cons.mpr ⟨ip_k_174, fun _ h => absurd h List.not_mem_nil⟩⟩⟩⟩⟩⟩⟩⟩⟩⟩⟩⟩⟩⟩⟩⟩⟩⟩⟩⟩⟩⟩⟩⟩⟩
set_option maxRecDepth 100000 in
theorem ip_Kq7 : ∀ r ∈ ip_K7, ip_Kok r := List.forall_mem_cons.mpr ⟨ip_k_175, List.forall_mem_cons.mpr ⟨ip_k_176, List.forall_mem_cons.mpr ⟨ip_k_177, List.forall_mem_cons.mpr ⟨ip_k_178, List.forall_mem_cons.mpr ⟨ip_k_179, List.forall_mem_cons.mpr ⟨ip_k_180, List.forall_mem_cons.mpr ⟨ip_k_181, List.forall_mem_cons.mpr ⟨ip_k_182, List.forall_mem_cons.mpr ⟨ip_k_183, List.forall_mem_cons.mpr ⟨ip_k_184, List.forall_mem_cons.mpr ⟨ip_k_185, List.forall_mem_cons.mpr ⟨ip_k_186, List.forall_mem_cons.mpr ⟨ip_k_187, List.forall_mem_cons.mpr ⟨ip_k_188, List.forall_mem_cons.mpr ⟨ip_k_189, List.forall_mem_cons.mpr ⟨ip_k_190, List.forall_mem_cons.mpr ⟨ip_k_191, List.forall_mem_cons.mpr ⟨ip_k_192, List.forall_mem_cons.mpr ⟨ip_k_193, List.forall_mem_cons.mpr ⟨ip_k_194, List.forall_mem_cons.mpr ⟨ip_k_195, List.forall_mem_cons.mpr ⟨ip_k_196, List.forall_mem_cons.mpr ⟨ip_k_197, List.forall_mem_cons.mpr ⟨ip_k_198, List.forall_mem_cons.mpr ⟨ip_k_199, fun _ h => absurd h List.not_mem_nil⟩⟩⟩⟩⟩⟩⟩⟩⟩⟩⟩⟩⟩⟩⟩⟩⟩⟩⟩⟩⟩⟩⟩⟩⟩
set_option maxRecDepth 100000 in
theorem ip_Kq8 : ∀ r ∈ ip_K8, ip_Kok r := List.forall_mem_cons.mpr ⟨ip_k_200, List.forall_mem_cons.mpr ⟨ip_k_201, List.forall_mem_cons.mpr ⟨ip_k_202, List.forall_mem_cons.mpr ⟨ip_k_203, List.forall_mem_cons.mpr ⟨ip_k_204, List.forall_mem_cons.mpr ⟨ip_k_205, List.forall_mem_cons.mpr ⟨ip_k_206, List.forall_mem_cons.mpr ⟨ip_k_207, List.forall_mem_cons.mpr ⟨ip_k_208, List.forall_mem_cons.mpr ⟨ip_k_209, List.forall_mem_cons.mpr ⟨ip_k_210, List.forall_mem_cons.mpr ⟨ip_k_211, List.forall_mem_cons.mpr ⟨ip_k_212, List.forall_mem_cons.mpr ⟨ip_k_213, List.forall_mem_cons.mpr ⟨ip_k_214, List.forall_mem_cons.mpr ⟨ip_k_215, List.forall_mem_cons.mpr ⟨ip_k_216, List.forall_mem_cons.mpr ⟨ip_k_217, List.forall_mem_cons.mpr ⟨ip_k_218, List.forall_mem_cons.mpr ⟨ip_k_219, List.forall_mem_cons.mpr ⟨ip_k_220, List.forall_mem_cons.mpr ⟨ip_k_221, List.forall_mem_cons.mpr ⟨ip_k_222, List.forall_mem_cons.mpr ⟨ip_k_223, List.forall_mem_cons.mpr ⟨ip_k_224, fun _ h => absurd h List.not_mem_nil⟩⟩⟩⟩⟩⟩⟩⟩⟩⟩⟩⟩⟩⟩⟩⟩⟩⟩⟩⟩⟩⟩⟩⟩⟩
set_option maxRecDepth 100000 in
theorem ip_Kq9 : ∀ r ∈ ip_K9, ip_Kok r := List.forall_mem_cons.mpr ⟨ip_k_225, List.forall_mem_cons.mpr ⟨ip_k_226, List.forall_mem_cons.mpr ⟨ip_k_227, List.forall_mem_cons.mpr ⟨ip_k_228, List.forall_mem_cons.mpr ⟨ip_k_229, List.forall_mem_cons.mpr ⟨ip_k_230, List.forall_mem_cons.mpr ⟨ip_k_231, List.forall_mem_cons.mpr ⟨ip_k_232, List.forall_mem_cons.mpr ⟨ip_k_233, List.forall_mem_cons.mpr ⟨ip_k_234, List.forall_mem_cons.mpr ⟨ip_k_235, List.forall_mem_cons.mpr ⟨ip_k_236, List.forall_mem_cons.mpr ⟨ip_k_237, List.forall_mem_cons.mpr ⟨ip_k_238, List.forall_mem_cons.mpr ⟨ip_k_239, List.forall_mem_cons.mpr ⟨ip_k_240, List.forall_mem_cons.mpr ⟨ip_k_241, List.forall_mem_cons.mpr ⟨ip_k_242, List.forall_mem_cons.mpr ⟨ip_k_243, List.forall_mem_cons.mpr ⟨ip_k_244, List.forall_mem_cons.mpr ⟨ip_k_245, List.forall_mem_cons.mpr ⟨ip_k_246, List.forall_mem_cons.mpr ⟨ip_k_247, List.forall_mem_cons.mpr ⟨ip_k_248, List.forall_mem_cons.mpr ⟨ip_k_249, fun _ h => absurd h List.not_mem_nil⟩⟩⟩⟩⟩⟩⟩⟩⟩⟩⟩⟩⟩⟩⟩⟩⟩⟩⟩⟩⟩⟩⟩⟩⟩
set_option maxRecDepth 100000 in
theorem ip_Kq10 : ∀ r ∈ ip_K10, ip_Kok r := List.forall_mem_cons.mpr ⟨ip_k_250, List.forall_mem_cons.mpr ⟨ip_k_251, List.forall_mem_cons.mpr ⟨ip_k_252, List.forall_mem_cons.mpr ⟨ip_k_253, List.forall_mem_cons.mpr ⟨ip_k_254, List.forall_mem_cons.mpr ⟨ip_k_255, List.forall_mem_cons.mpr ⟨ip_k_256, List.forall_mem_cons.mpr ⟨ip_k_257, List.forall_mem_cons.mpr ⟨ip_k_258, List.forall_mem_cons.mpr ⟨ip_k_259, List.forall_mem_cons.mpr ⟨ip_k_260, List.forall_mem_cons.mpr ⟨ip_k_261, List.forall_mem_cons.mpr ⟨ip_k_262, List.forall_mem_cons.mpr ⟨ip_k_263, List.forall_mem_cons.mpr ⟨ip_k_264, List.forall_mem_cons.mpr ⟨ip_k_265, List.forall_mem_cons.mpr ⟨ip_k_266, List.forall_mem_cons.mpr ⟨ip_k_267, List.forall_mem_cons.mpr ⟨ip_k_268, List.forall_mem_cons.mpr ⟨ip_k_269, List.forall_mem_cons.mpr ⟨ip_k_270, List.forall_mem_cons.mpr ⟨ip_k_271, List.forall_mem_cons.mpr ⟨ip_k_272, List.forall_mem_cons.mpr ⟨ip_k_273, List.forall_mem_cons.mpr ⟨ip_k_274, fun _ h => absurd h List.not_mem_nil⟩⟩⟩⟩⟩⟩⟩⟩⟩⟩⟩⟩⟩⟩⟩⟩⟩⟩⟩⟩⟩⟩⟩⟩⟩
set_option maxRecDepth 100000 in
theorem ip_Kq11 : ∀ r ∈ ip_K11, ip_Kok r := List.forall_mem_cons.mpr ⟨ip_k_275, List.forall_mem_cons.mpr ⟨ip_k_276, List.forall_mem_cons.mpr ⟨ip_k_277, List.forall_mem_cons.mpr ⟨ip_k_278, List.forall_mem_cons.mpr ⟨ip_k_279, List.forall_mem_cons.mpr ⟨ip_k_280, List.forall_mem_cons.mpr ⟨ip_k_281, List.forall_mem_cons.mpr ⟨ip_k_282, List.forall_mem_cons.mpr ⟨ip_k_283, List.forall_mem_cons.mpr ⟨ip_k_284, List.forall_mem_cons.mpr ⟨ip_k_285, List.forall_mem_cons.mpr ⟨ip_k_286, List.forall_mem_cons.mpr ⟨ip_k_287, List.forall_mem_cons.mpr ⟨ip_k_288, List.forall_mem_cons.mpr ⟨ip_k_289, List.forall_mem_cons.mpr ⟨ip_k_290, List.forall_mem_cons.mpr ⟨ip_k_291, List.forall_mem_cons.mpr ⟨ip_k_292, List.forall_mem_cons.mpr ⟨ip_k_293, List.forall_mem_cons.mpr ⟨ip_k_294, List.forall_mem_cons.mpr ⟨ip_k_295, List.forall_mem_cons.mpr ⟨ip_k_296, List.forall_mem_cons.mpr ⟨ip_k_297, List.forall_mem_cons.mpr ⟨ip_k_298, List.forall_mem_cons.mpr ⟨ip_k_299, fun _ h => absurd h List.not_mem_nil⟩⟩⟩⟩⟩⟩⟩⟩⟩⟩⟩⟩⟩⟩⟩⟩⟩⟩⟩⟩⟩⟩⟩⟩⟩
set_option maxRecDepth 100000 in
theorem ip_Kq12 : ∀ r ∈ ip_K12, ip_Kok r := List.forall_mem_cons.mpr ⟨ip_k_300, List.forall_mem_cons.mpr ⟨ip_k_301, List.forall_mem_cons.mpr ⟨ip_k_302, List.forall_mem_cons.mpr ⟨ip_k_303, List.forall_mem_cons.mpr ⟨ip_k_304, List.forall_mem_cons.mpr ⟨ip_k_305, List.forall_mem_cons.mpr ⟨ip_k_306, List.forall_mem_cons.mpr ⟨ip_k_307, List.forall_mem_cons.mpr ⟨ip_k_308, List.forall_mem_cons.mpr ⟨ip_k_309, List.forall_mem_cons.mpr ⟨ip_k_310, List.forall_mem_cons.mpr ⟨ip_k_311, List.forall_mem_cons.mpr ⟨ip_k_312, List.forall_mem_cons.mpr ⟨ip_k_313, List.forall_mem_cons.mpr ⟨ip_k_314, List.forall_mem_cons.mpr ⟨ip_k_315, List.forall_mem_cons.mpr ⟨ip_k_316, List.forall_mem_cons.mpr ⟨ip_k_317, List.forall_mem_cons.mpr ⟨ip_k_318, List.forall_mem_cons.mpr ⟨ip_k_319, List.forall_mem_cons.mpr ⟨ip_k_320, List.forall_mem_cons.mpr ⟨ip_k_321, List.forall_mem_cons.mpr ⟨ip_k_322, List.forall_mem_cons.mpr ⟨ip_k_323, List.forall_mem_cons.mpr ⟨ip_k_324, fun _ h => absurd h List.not_mem_nil⟩⟩⟩⟩⟩⟩⟩⟩⟩⟩⟩⟩⟩⟩⟩⟩⟩⟩⟩⟩⟩⟩⟩⟩⟩
set_option maxRecDepth 100000 in
theorem ip_Kq13 : ∀ r ∈ ip_K13, ip_Kok r := List.forall_mem_cons.mpr ⟨ip_k_325, List.forall_mem_cons.mpr ⟨ip_k_326, List.forall_mem_cons.mpr ⟨ip_k_327, List.forall_mem_cons.mpr ⟨ip_k_328, List.forall_mem_cons.mpr ⟨ip_k_329, List.forall_mem_cons.mpr ⟨ip_k_330, List.forall_mem_cons.mpr ⟨ip_k_331, List.forall_mem_cons.mpr ⟨ip_k_332, List.forall_mem_cons.mpr ⟨ip_k_333, List.forall_mem_cons.mpr ⟨ip_k_334, List.forall_mem_cons.mpr ⟨ip_k_335, List.forall_mem_cons.mpr ⟨ip_k_336, List.forall_mem_cons.mpr ⟨ip_k_337, List.forall_mem_cons.mpr ⟨ip_k_338, List.forall_mem_cons.mpr ⟨ip_k_339, List.forall_mem_cons.mpr ⟨ip_k_340, List.forall_mem_cons.mpr ⟨ip_k_341, List.forall_mem_cons.mpr ⟨ip_k_342, List.forall_mem_cons.mpr ⟨ip_k_343, List.forall_mem_cons.mpr ⟨ip_k_344, List.forall_mem_cons.mpr ⟨ip_k_345, List.forall_mem_cons.mpr ⟨ip_k_346, List.forall_mem_cons.mpr ⟨ip_k_347, List.forall_mem_cons.mpr ⟨ip_k_348, List.forall_mem_cons.mpr ⟨ip_k_349, fun _ h => absurd h List.not_mem_nil⟩⟩⟩⟩⟩⟩⟩⟩⟩⟩⟩⟩⟩⟩⟩⟩⟩⟩⟩⟩⟩⟩⟩⟩⟩
set_option maxRecDepth 100000 in
theorem ip_K_ok : ∀ r ∈ ip_K, ip_Kok r := fun r h => (List.mem_append.mp h).elim (ip_Kq0 r) (fun h => (List.mem_append.mp h).elim (ip_Kq1 r) (fun h => (List.mem_append.mp h).elim (ip_Kq2 r) (fun h => (List.mem_append.mp h).elim (ip_Kq3 r) (fun h => (List.mem_append.mp h).elim (ip_Kq4 r) (fun h => (List.mem_append.mp h).elim (ip_Kq5 r) (fun h => (List.mem_append.mp h).elim (ip_Kq6 r) (fun h => (List.mem_append.mp h).elim (ip_Kq7 r) (fun h => (List.mem_append.mp h).elim (ip_Kq8 r) (fun h => (List.mem_append.mp h).elim (ip_Kq9 r) (fun h => (List.mem_append.mp h).elim (ip_Kq10 r) (fun h => (List.mem_append.mp h).elim (ip_Kq11 r) (fun h => (List.mem_append.mp h).elim (ip_Kq12 r) (fun h => ip_Kq13 r h)))))))))))))
def ip_Mok (c : Nat) : Prop := Cond.code (ip_nm c) (ip_by c) (ip_ml c) (ip_rt c) ∈ lw_tbl ∧ Cond.initialized (ip_nm c).cls ∈ lw_tbl ∧ ((ip_nm c).cls ≠ "java/lang/invoke/MethodHandle" ∧ (ip_nm c).cls ≠ "java/lang/invoke/VarHandle") ∧ plainFor (ip_nm c) = true ∧ ip_os c = (ip_nm c).cls
set_option maxRecDepth 100000 in
theorem ip_Mc_RJ9 : Cond.initialized RJ9 ∈ lw_tbl ∧ (RJ9 ≠ "java/lang/invoke/MethodHandle" ∧ RJ9 ≠ "java/lang/invoke/VarHandle") := ⟨(ip_t1 (ip_v1_0 (List.mem_of_getElem? (l := ip_u1_0.1) (i := 13) rfl))), ⟨by decide +kernel, by decide +kernel⟩⟩
set_option maxRecDepth 100000 in
theorem ip_Mc_RX0 : Cond.initialized RX0 ∈ lw_tbl ∧ (RX0 ≠ "java/lang/invoke/MethodHandle" ∧ RX0 ≠ "java/lang/invoke/VarHandle") := ⟨(ip_t1 (ip_v1_0 (List.mem_of_getElem? (l := ip_u1_0.1) (i := 11) rfl))), ⟨by decide +kernel, by decide +kernel⟩⟩
set_option maxRecDepth 100000 in
theorem ip_Mp_RX0 : plainName RX0 = true := by decide +kernel
set_option maxRecDepth 100000 in
theorem ip_Mc_RX1 : Cond.initialized RX1 ∈ lw_tbl ∧ (RX1 ≠ "java/lang/invoke/MethodHandle" ∧ RX1 ≠ "java/lang/invoke/VarHandle") := ⟨(ip_t1 (ip_v1_0 (List.mem_of_getElem? (l := ip_u1_0.1) (i := 5) rfl))), ⟨by decide +kernel, by decide +kernel⟩⟩
set_option maxRecDepth 100000 in
theorem ip_Mp_RX1 : plainName RX1 = true := by decide +kernel
set_option maxRecDepth 100000 in
theorem ip_Mc_RX10 : Cond.initialized RX10 ∈ lw_tbl ∧ (RX10 ≠ "java/lang/invoke/MethodHandle" ∧ RX10 ≠ "java/lang/invoke/VarHandle") := ⟨(ip_t1 (ip_v1_0 (List.mem_of_getElem? (l := ip_u1_0.1) (i := 1) rfl))), ⟨by decide +kernel, by decide +kernel⟩⟩
set_option maxRecDepth 100000 in
theorem ip_Mp_RX10 : plainName RX10 = true := by decide +kernel
set_option maxRecDepth 100000 in
theorem ip_Mc_RX11 : Cond.initialized RX11 ∈ lw_tbl ∧ (RX11 ≠ "java/lang/invoke/MethodHandle" ∧ RX11 ≠ "java/lang/invoke/VarHandle") := ⟨(ip_t1 (ip_v1_0 (List.mem_of_getElem? (l := ip_u1_0.1) (i := 12) rfl))), ⟨by decide +kernel, by decide +kernel⟩⟩
set_option maxRecDepth 100000 in
theorem ip_Mp_RX11 : plainName RX11 = true := by decide +kernel
set_option maxRecDepth 100000 in
theorem ip_Mc_RX2 : Cond.initialized RX2 ∈ lw_tbl ∧ (RX2 ≠ "java/lang/invoke/MethodHandle" ∧ RX2 ≠ "java/lang/invoke/VarHandle") := ⟨(ip_t1 (ip_v1_0 (List.mem_of_getElem? (l := ip_u1_0.1) (i := 2) rfl))), ⟨by decide +kernel, by decide +kernel⟩⟩
set_option maxRecDepth 100000 in
theorem ip_Mp_RX2 : plainName RX2 = true := by decide +kernel
set_option maxRecDepth 100000 in
theorem ip_Mc_RX3 : Cond.initialized RX3 ∈ lw_tbl ∧ (RX3 ≠ "java/lang/invoke/MethodHandle" ∧ RX3 ≠ "java/lang/invoke/VarHandle") := ⟨(ip_t1 (ip_v1_0 (List.mem_of_getElem? (l := ip_u1_0.1) (i := 8) rfl))), ⟨by decide +kernel, by decide +kernel⟩⟩
set_option maxRecDepth 100000 in
theorem ip_Mp_RX3 : plainName RX3 = true := by decide +kernel
set_option maxRecDepth 100000 in
theorem ip_Mc_RX4 : Cond.initialized RX4 ∈ lw_tbl ∧ (RX4 ≠ "java/lang/invoke/MethodHandle" ∧ RX4 ≠ "java/lang/invoke/VarHandle") := ⟨(ip_t1 (ip_v1_0 (List.mem_of_getElem? (l := ip_u1_0.1) (i := 3) rfl))), ⟨by decide +kernel, by decide +kernel⟩⟩
set_option maxRecDepth 100000 in
theorem ip_Mp_RX4 : plainName RX4 = true := by decide +kernel
set_option maxRecDepth 100000 in
theorem ip_Mc_RX5 : Cond.initialized RX5 ∈ lw_tbl ∧ (RX5 ≠ "java/lang/invoke/MethodHandle" ∧ RX5 ≠ "java/lang/invoke/VarHandle") := ⟨(ip_t1 (ip_v1_0 (List.mem_of_getElem? (l := ip_u1_0.1) (i := 9) rfl))), ⟨by decide +kernel, by decide +kernel⟩⟩
set_option maxRecDepth 100000 in
theorem ip_Mp_RX5 : plainName RX5 = true := by decide +kernel
set_option maxRecDepth 100000 in
theorem ip_Mc_RX6 : Cond.initialized RX6 ∈ lw_tbl ∧ (RX6 ≠ "java/lang/invoke/MethodHandle" ∧ RX6 ≠ "java/lang/invoke/VarHandle") := ⟨(ip_t1 (ip_v1_0 (List.mem_of_getElem? (l := ip_u1_0.1) (i := 7) rfl))), ⟨by decide +kernel, by decide +kernel⟩⟩
set_option maxRecDepth 100000 in
theorem ip_Mp_RX6 : plainName RX6 = true := by decide +kernel
set_option maxRecDepth 100000 in
theorem ip_Mc_RX7 : Cond.initialized RX7 ∈ lw_tbl ∧ (RX7 ≠ "java/lang/invoke/MethodHandle" ∧ RX7 ≠ "java/lang/invoke/VarHandle") := ⟨(ip_t1 (ip_v1_0 (List.mem_of_getElem? (l := ip_u1_0.1) (i := 10) rfl))), ⟨by decide +kernel, by decide +kernel⟩⟩
set_option maxRecDepth 100000 in
theorem ip_Mp_RX7 : plainName RX7 = true := by decide +kernel
set_option maxRecDepth 100000 in
theorem ip_Mc_RX8 : Cond.initialized RX8 ∈ lw_tbl ∧ (RX8 ≠ "java/lang/invoke/MethodHandle" ∧ RX8 ≠ "java/lang/invoke/VarHandle") := ⟨(ip_t1 (ip_v1_0 (List.mem_of_getElem? (l := ip_u1_0.1) (i := 4) rfl))), ⟨by decide +kernel, by decide +kernel⟩⟩
set_option maxRecDepth 100000 in
theorem ip_Mp_RX8 : plainName RX8 = true := by decide +kernel
set_option maxRecDepth 100000 in
theorem ip_Mc_RX9 : Cond.initialized RX9 ∈ lw_tbl ∧ (RX9 ≠ "java/lang/invoke/MethodHandle" ∧ RX9 ≠ "java/lang/invoke/VarHandle") := ⟨(ip_t1 (ip_v1_0 (List.mem_of_getElem? (l := ip_u1_0.1) (i := 6) rfl))), ⟨by decide +kernel, by decide +kernel⟩⟩
set_option maxRecDepth 100000 in
theorem ip_Mp_RX9 : plainName RX9 = true := by decide +kernel
theorem ip_pand1 {a b : Bool} (h : (a && b) = true) : a = true := (Bool.and_eq_true_iff.mp h).1
theorem ip_pand2 {a b : Bool} (h : (a && b) = true) : b = true := (Bool.and_eq_true_iff.mp h).2
set_option maxRecDepth 100000 in
theorem ip_pf : (plainFor (ip_nm 290) && (plainFor (ip_nm 291) && (plainFor (ip_nm 292) && (plainFor (ip_nm 293) && plainFor (ip_nm 294))))) = true := by decide +kernel
set_option maxRecDepth 100000 in
theorem ip_mw0 : ip_Mok 0 := ⟨(ip_t2 (ip_v2_1 (List.mem_of_getElem? (l := ip_u2_1.1) (i := 17) rfl))), ip_Mc_RX0.1, ip_Mc_RX0.2, plainFor_of_name (x := ip_nm 0) ip_Mp_RX0, rfl⟩
set_option maxRecDepth 100000 in
theorem ip_mw1 : ip_Mok 1 := ⟨(ip_t4 (ip_v4_4 (List.mem_of_getElem? (l := ip_u4_4.1) (i := 18) rfl))), ip_Mc_RX0.1, ip_Mc_RX0.2, plainFor_of_name (x := ip_nm 1) ip_Mp_RX0, rfl⟩
set_option maxRecDepth 100000 in
theorem ip_mw2 : ip_Mok 2 := ⟨(ip_t4 (ip_v4_4 (List.mem_of_getElem? (l := ip_u4_4.1) (i := 23) rfl))), ip_Mc_RX0.1, ip_Mc_RX0.2, plainFor_of_name (x := ip_nm 2) ip_Mp_RX0, rfl⟩
set_option maxRecDepth 100000 in
theorem ip_mw3 : ip_Mok 3 := ⟨(ip_t4 (ip_v4_4 (List.mem_of_getElem? (l := ip_u4_4.1) (i := 26) rfl))), ip_Mc_RX0.1, ip_Mc_RX0.2, plainFor_of_name (x := ip_nm 3) ip_Mp_RX0, rfl⟩
set_option maxRecDepth 100000 in
theorem ip_mw4 : ip_Mok 4 := ⟨(ip_t4 (ip_v4_4 (List.mem_of_getElem? (l := ip_u4_4.1) (i := 31) rfl))), ip_Mc_RX0.1, ip_Mc_RX0.2, plainFor_of_name (x := ip_nm 4) ip_Mp_RX0, rfl⟩
set_option maxRecDepth 100000 in
theorem ip_mw5 : ip_Mok 5 := ⟨(ip_t4 (ip_v4_5 (List.mem_of_getElem? (l := ip_u4_5.1) (i := 8) rfl))), ip_Mc_RX0.1, ip_Mc_RX0.2, plainFor_of_name (x := ip_nm 5) ip_Mp_RX0, rfl⟩
set_option maxRecDepth 100000 in
theorem ip_mw6 : ip_Mok 6 := ⟨(ip_t4 (ip_v4_6 (List.mem_of_getElem? (l := ip_u4_6.1) (i := 4) rfl))), ip_Mc_RX0.1, ip_Mc_RX0.2, plainFor_of_name (x := ip_nm 6) ip_Mp_RX0, rfl⟩
set_option maxRecDepth 100000 in
theorem ip_mw7 : ip_Mok 7 := ⟨(ip_t4 (ip_v4_5 (List.mem_of_getElem? (l := ip_u4_5.1) (i := 27) rfl))), ip_Mc_RX0.1, ip_Mc_RX0.2, plainFor_of_name (x := ip_nm 7) ip_Mp_RX0, rfl⟩
set_option maxRecDepth 100000 in
theorem ip_mw8 : ip_Mok 8 := ⟨(ip_t4 (ip_v4_6 (List.mem_of_getElem? (l := ip_u4_6.1) (i := 8) rfl))), ip_Mc_RX0.1, ip_Mc_RX0.2, plainFor_of_name (x := ip_nm 8) ip_Mp_RX0, rfl⟩
set_option maxRecDepth 100000 in
theorem ip_mw9 : ip_Mok 9 := ⟨(ip_t4 (ip_v4_6 (List.mem_of_getElem? (l := ip_u4_6.1) (i := 12) rfl))), ip_Mc_RX0.1, ip_Mc_RX0.2, plainFor_of_name (x := ip_nm 9) ip_Mp_RX0, rfl⟩
set_option maxRecDepth 100000 in
theorem ip_mw10 : ip_Mok 10 := ⟨(ip_t1 (ip_v1_3 (List.mem_of_getElem? (l := ip_u1_3.1) (i := 7) rfl))), ip_Mc_RX1.1, ip_Mc_RX1.2, plainFor_of_name (x := ip_nm 10) ip_Mp_RX1, rfl⟩
set_option maxRecDepth 100000 in
theorem ip_mw11 : ip_Mok 11 := ⟨(ip_t3 (ip_v3_3 (List.mem_of_getElem? (l := ip_u3_3.1) (i := 2) rfl))), ip_Mc_RX1.1, ip_Mc_RX1.2, plainFor_of_name (x := ip_nm 11) ip_Mp_RX1, rfl⟩
set_option maxRecDepth 100000 in
theorem ip_mw12 : ip_Mok 12 := ⟨(ip_t3 (ip_v3_5 (List.mem_of_getElem? (l := ip_u3_5.1) (i := 12) rfl))), ip_Mc_RX1.1, ip_Mc_RX1.2, plainFor_of_name (x := ip_nm 12) ip_Mp_RX1, rfl⟩
set_option maxRecDepth 100000 in
theorem ip_mw13 : ip_Mok 13 := ⟨(ip_t4 (ip_v4_3 (List.mem_of_getElem? (l := ip_u4_3.1) (i := 21) rfl))), ip_Mc_RX1.1, ip_Mc_RX1.2, plainFor_of_name (x := ip_nm 13) ip_Mp_RX1, rfl⟩
set_option maxRecDepth 100000 in
theorem ip_mw14 : ip_Mok 14 := ⟨(ip_t3 (ip_v3_2 (List.mem_of_getElem? (l := ip_u3_2.1) (i := 21) rfl))), ip_Mc_RX1.1, ip_Mc_RX1.2, plainFor_of_name (x := ip_nm 14) ip_Mp_RX1, rfl⟩
set_option maxRecDepth 100000 in
theorem ip_mw15 : ip_Mok 15 := ⟨(ip_t3 (ip_v3_2 (List.mem_of_getElem? (l := ip_u3_2.1) (i := 17) rfl))), ip_Mc_RX1.1, ip_Mc_RX1.2, plainFor_of_name (x := ip_nm 15) ip_Mp_RX1, rfl⟩
set_option maxRecDepth 100000 in
theorem ip_mw16 : ip_Mok 16 := ⟨(ip_t3 (ip_v3_3 (List.mem_of_getElem? (l := ip_u3_3.1) (i := 18) rfl))), ip_Mc_RX1.1, ip_Mc_RX1.2, plainFor_of_name (x := ip_nm 16) ip_Mp_RX1, rfl⟩
set_option maxRecDepth 100000 in
theorem ip_mw17 : ip_Mok 17 := ⟨(ip_t4 (ip_v4_3 (List.mem_of_getElem? (l := ip_u4_3.1) (i := 30) rfl))), ip_Mc_RX1.1, ip_Mc_RX1.2, plainFor_of_name (x := ip_nm 17) ip_Mp_RX1, rfl⟩
set_option maxRecDepth 100000 in
theorem ip_mw18 : ip_Mok 18 := ⟨(ip_t3 (ip_v3_1 (List.mem_of_getElem? (l := ip_u3_1.1) (i := 21) rfl))), ip_Mc_RX1.1, ip_Mc_RX1.2, plainFor_of_name (x := ip_nm 18) ip_Mp_RX1, rfl⟩
set_option maxRecDepth 100000 in
theorem ip_mw19 : ip_Mok 19 := ⟨(ip_t3 (ip_v3_1 (List.mem_of_getElem? (l := ip_u3_1.1) (i := 24) rfl))), ip_Mc_RX1.1, ip_Mc_RX1.2, plainFor_of_name (x := ip_nm 19) ip_Mp_RX1, rfl⟩
set_option maxRecDepth 100000 in
theorem ip_mw20 : ip_Mok 20 := ⟨(ip_t3 (ip_v3_2 (List.mem_of_getElem? (l := ip_u3_2.1) (i := 1) rfl))), ip_Mc_RX1.1, ip_Mc_RX1.2, plainFor_of_name (x := ip_nm 20) ip_Mp_RX1, rfl⟩
set_option maxRecDepth 100000 in
theorem ip_mw21 : ip_Mok 21 := ⟨(ip_t2 (ip_v2_5 (List.mem_of_getElem? (l := ip_u2_5.1) (i := 13) rfl))), ip_Mc_RX1.1, ip_Mc_RX1.2, plainFor_of_name (x := ip_nm 21) ip_Mp_RX1, rfl⟩
set_option maxRecDepth 100000 in
theorem ip_mw22 : ip_Mok 22 := ⟨(ip_t4 (ip_v4_1 (List.mem_of_getElem? (l := ip_u4_1.1) (i := 22) rfl))), ip_Mc_RX1.1, ip_Mc_RX1.2, plainFor_of_name (x := ip_nm 22) ip_Mp_RX1, rfl⟩
set_option maxRecDepth 100000 in
theorem ip_mw23 : ip_Mok 23 := ⟨(ip_t3 (ip_v3_3 (List.mem_of_getElem? (l := ip_u3_3.1) (i := 6) rfl))), ip_Mc_RX1.1, ip_Mc_RX1.2, plainFor_of_name (x := ip_nm 23) ip_Mp_RX1, rfl⟩
set_option maxRecDepth 100000 in
theorem ip_mw24 : ip_Mok 24 := ⟨(ip_t3 (ip_v3_3 (List.mem_of_getElem? (l := ip_u3_3.1) (i := 10) rfl))), ip_Mc_RX1.1, ip_Mc_RX1.2, plainFor_of_name (x := ip_nm 24) ip_Mp_RX1, rfl⟩
set_option maxRecDepth 100000 in
theorem ip_mw25 : ip_Mok 25 := ⟨(ip_t3 (ip_v3_2 (List.mem_of_getElem? (l := ip_u3_2.1) (i := 30) rfl))), ip_Mc_RX1.1, ip_Mc_RX1.2, plainFor_of_name (x := ip_nm 25) ip_Mp_RX1, rfl⟩
set_option maxRecDepth 100000 in
theorem ip_mw26 : ip_Mok 26 := ⟨(ip_t3 (ip_v3_3 (List.mem_of_getElem? (l := ip_u3_3.1) (i := 14) rfl))), ip_Mc_RX1.1, ip_Mc_RX1.2, plainFor_of_name (x := ip_nm 26) ip_Mp_RX1, rfl⟩
set_option maxRecDepth 100000 in
theorem ip_mw27 : ip_Mok 27 := ⟨(ip_t3 (ip_v3_4 (List.mem_of_getElem? (l := ip_u3_4.1) (i := 28) rfl))), ip_Mc_RX1.1, ip_Mc_RX1.2, plainFor_of_name (x := ip_nm 27) ip_Mp_RX1, rfl⟩
set_option maxRecDepth 100000 in
theorem ip_mw28 : ip_Mok 28 := ⟨(ip_t3 (ip_v3_2 (List.mem_of_getElem? (l := ip_u3_2.1) (i := 7) rfl))), ip_Mc_RX1.1, ip_Mc_RX1.2, plainFor_of_name (x := ip_nm 28) ip_Mp_RX1, rfl⟩
set_option maxRecDepth 100000 in
theorem ip_mw29 : ip_Mok 29 := ⟨(ip_t3 (ip_v3_5 (List.mem_of_getElem? (l := ip_u3_5.1) (i := 0) rfl))), ip_Mc_RX1.1, ip_Mc_RX1.2, plainFor_of_name (x := ip_nm 29) ip_Mp_RX1, rfl⟩
set_option maxRecDepth 100000 in
theorem ip_mw30 : ip_Mok 30 := ⟨(ip_t3 (ip_v3_5 (List.mem_of_getElem? (l := ip_u3_5.1) (i := 4) rfl))), ip_Mc_RX1.1, ip_Mc_RX1.2, plainFor_of_name (x := ip_nm 30) ip_Mp_RX1, rfl⟩
set_option maxRecDepth 100000 in
theorem ip_mw31 : ip_Mok 31 := ⟨(ip_t5 (ip_v5_1 (List.mem_of_getElem? (l := ip_u5_1.1) (i := 25) rfl))), ip_Mc_RX1.1, ip_Mc_RX1.2, plainFor_of_name (x := ip_nm 31) ip_Mp_RX1, rfl⟩
set_option maxRecDepth 100000 in
theorem ip_mw32 : ip_Mok 32 := ⟨(ip_t5 (ip_v5_2 (List.mem_of_getElem? (l := ip_u5_2.1) (i := 2) rfl))), ip_Mc_RX1.1, ip_Mc_RX1.2, plainFor_of_name (x := ip_nm 32) ip_Mp_RX1, rfl⟩
set_option maxRecDepth 100000 in
theorem ip_mw33 : ip_Mok 33 := ⟨(ip_t4 (ip_v4_6 (List.mem_of_getElem? (l := ip_u4_6.1) (i := 24) rfl))), ip_Mc_RX1.1, ip_Mc_RX1.2, plainFor_of_name (x := ip_nm 33) ip_Mp_RX1, rfl⟩
set_option maxRecDepth 100000 in
theorem ip_mw34 : ip_Mok 34 := ⟨(ip_t4 (ip_v4_7 (List.mem_of_getElem? (l := ip_u4_7.1) (i := 2) rfl))), ip_Mc_RX1.1, ip_Mc_RX1.2, plainFor_of_name (x := ip_nm 34) ip_Mp_RX1, rfl⟩
set_option maxRecDepth 100000 in
theorem ip_mw35 : ip_Mok 35 := ⟨(ip_t4 (ip_v4_7 (List.mem_of_getElem? (l := ip_u4_7.1) (i := 5) rfl))), ip_Mc_RX1.1, ip_Mc_RX1.2, plainFor_of_name (x := ip_nm 35) ip_Mp_RX1, rfl⟩
set_option maxRecDepth 100000 in
theorem ip_mw36 : ip_Mok 36 := ⟨(ip_t5 (ip_v5_0 (List.mem_of_getElem? (l := ip_u5_0.1) (i := 23) rfl))), ip_Mc_RX1.1, ip_Mc_RX1.2, plainFor_of_name (x := ip_nm 36) ip_Mp_RX1, rfl⟩
set_option maxRecDepth 100000 in
theorem ip_mw37 : ip_Mok 37 := ⟨(ip_t5 (ip_v5_0 (List.mem_of_getElem? (l := ip_u5_0.1) (i := 11) rfl))), ip_Mc_RX1.1, ip_Mc_RX1.2, plainFor_of_name (x := ip_nm 37) ip_Mp_RX1, rfl⟩
set_option maxRecDepth 100000 in
theorem ip_mw38 : ip_Mok 38 := ⟨(ip_t1 (ip_v1_0 (List.mem_of_getElem? (l := ip_u1_0.1) (i := 27) rfl))), ip_Mc_RX2.1, ip_Mc_RX2.2, plainFor_of_name (x := ip_nm 38) ip_Mp_RX2, rfl⟩
set_option maxRecDepth 100000 in
theorem ip_mw39 : ip_Mok 39 := ⟨(ip_t2 (ip_v2_3 (List.mem_of_getElem? (l := ip_u2_3.1) (i := 12) rfl))), ip_Mc_RX2.1, ip_Mc_RX2.2, plainFor_of_name (x := ip_nm 39) ip_Mp_RX2, rfl⟩
set_option maxRecDepth 100000 in
theorem ip_mw40 : ip_Mok 40 := ⟨(ip_t2 (ip_v2_3 (List.mem_of_getElem? (l := ip_u2_3.1) (i := 21) rfl))), ip_Mc_RX2.1, ip_Mc_RX2.2, plainFor_of_name (x := ip_nm 40) ip_Mp_RX2, rfl⟩
set_option maxRecDepth 100000 in
theorem ip_mw41 : ip_Mok 41 := ⟨(ip_t2 (ip_v2_3 (List.mem_of_getElem? (l := ip_u2_3.1) (i := 24) rfl))), ip_Mc_RX2.1, ip_Mc_RX2.2, plainFor_of_name (x := ip_nm 41) ip_Mp_RX2, rfl⟩
set_option maxRecDepth 100000 in
theorem ip_mw42 : ip_Mok 42 := ⟨(ip_t2 (ip_v2_5 (List.mem_of_getElem? (l := ip_u2_5.1) (i := 2) rfl))), ip_Mc_RX2.1, ip_Mc_RX2.2, plainFor_of_name (x := ip_nm 42) ip_Mp_RX2, rfl⟩
set_option maxRecDepth 100000 in
theorem ip_mw43 : ip_Mok 43 := ⟨(ip_t2 (ip_v2_5 (List.mem_of_getElem? (l := ip_u2_5.1) (i := 17) rfl))), ip_Mc_RX2.1, ip_Mc_RX2.2, plainFor_of_name (x := ip_nm 43) ip_Mp_RX2, rfl⟩
set_option maxRecDepth 100000 in
theorem ip_mw44 : ip_Mok 44 := ⟨(ip_t3 (ip_v3_0 (List.mem_of_getElem? (l := ip_u3_0.1) (i := 17) rfl))), ip_Mc_RX2.1, ip_Mc_RX2.2, plainFor_of_name (x := ip_nm 44) ip_Mp_RX2, rfl⟩
set_option maxRecDepth 100000 in
theorem ip_mw45 : ip_Mok 45 := ⟨(ip_t2 (ip_v2_6 (List.mem_of_getElem? (l := ip_u2_6.1) (i := 15) rfl))), ip_Mc_RX2.1, ip_Mc_RX2.2, plainFor_of_name (x := ip_nm 45) ip_Mp_RX2, rfl⟩
set_option maxRecDepth 100000 in
theorem ip_mw46 : ip_Mok 46 := ⟨(ip_t3 (ip_v3_1 (List.mem_of_getElem? (l := ip_u3_1.1) (i := 28) rfl))), ip_Mc_RX2.1, ip_Mc_RX2.2, plainFor_of_name (x := ip_nm 46) ip_Mp_RX2, rfl⟩
set_option maxRecDepth 100000 in
theorem ip_mw47 : ip_Mok 47 := ⟨(ip_t2 (ip_v2_6 (List.mem_of_getElem? (l := ip_u2_6.1) (i := 11) rfl))), ip_Mc_RX2.1, ip_Mc_RX2.2, plainFor_of_name (x := ip_nm 47) ip_Mp_RX2, rfl⟩
set_option maxRecDepth 100000 in
theorem ip_mw48 : ip_Mok 48 := ⟨(ip_t3 (ip_v3_3 (List.mem_of_getElem? (l := ip_u3_3.1) (i := 31) rfl))), ip_Mc_RX2.1, ip_Mc_RX2.2, plainFor_of_name (x := ip_nm 48) ip_Mp_RX2, rfl⟩
set_option maxRecDepth 100000 in
theorem ip_mw49 : ip_Mok 49 := ⟨(ip_t2 (ip_v2_6 (List.mem_of_getElem? (l := ip_u2_6.1) (i := 7) rfl))), ip_Mc_RX2.1, ip_Mc_RX2.2, plainFor_of_name (x := ip_nm 49) ip_Mp_RX2, rfl⟩
set_option maxRecDepth 100000 in
theorem ip_mw50 : ip_Mok 50 := ⟨(ip_t3 (ip_v3_0 (List.mem_of_getElem? (l := ip_u3_0.1) (i := 8) rfl))), ip_Mc_RX2.1, ip_Mc_RX2.2, plainFor_of_name (x := ip_nm 50) ip_Mp_RX2, rfl⟩
set_option maxRecDepth 100000 in
theorem ip_mw51 : ip_Mok 51 := ⟨(ip_t3 (ip_v3_0 (List.mem_of_getElem? (l := ip_u3_0.1) (i := 13) rfl))), ip_Mc_RX2.1, ip_Mc_RX2.2, plainFor_of_name (x := ip_nm 51) ip_Mp_RX2, rfl⟩
set_option maxRecDepth 100000 in
theorem ip_mw52 : ip_Mok 52 := ⟨(ip_t3 (ip_v3_1 (List.mem_of_getElem? (l := ip_u3_1.1) (i := 4) rfl))), ip_Mc_RX2.1, ip_Mc_RX2.2, plainFor_of_name (x := ip_nm 52) ip_Mp_RX2, rfl⟩
set_option maxRecDepth 100000 in
theorem ip_mw53 : ip_Mok 53 := ⟨(ip_t4 (ip_v4_0 (List.mem_of_getElem? (l := ip_u4_0.1) (i := 28) rfl))), ip_Mc_RX2.1, ip_Mc_RX2.2, plainFor_of_name (x := ip_nm 53) ip_Mp_RX2, rfl⟩
set_option maxRecDepth 100000 in
theorem ip_mw54 : ip_Mok 54 := ⟨(ip_t1 (ip_v1_6 (List.mem_of_getElem? (l := ip_u1_6.1) (i := 18) rfl))), ip_Mc_RX3.1, ip_Mc_RX3.2, plainFor_of_name (x := ip_nm 54) ip_Mp_RX3, rfl⟩
set_option maxRecDepth 100000 in
theorem ip_mw55 : ip_Mok 55 := ⟨(ip_t2 (ip_v2_4 (List.mem_of_getElem? (l := ip_u2_4.1) (i := 3) rfl))), ip_Mc_RX3.1, ip_Mc_RX3.2, plainFor_of_name (x := ip_nm 55) ip_Mp_RX3, rfl⟩
set_option maxRecDepth 100000 in
theorem ip_mw56 : ip_Mok 56 := ⟨(ip_t4 (ip_v4_1 (List.mem_of_getElem? (l := ip_u4_1.1) (i := 11) rfl))), ip_Mc_RX3.1, ip_Mc_RX3.2, plainFor_of_name (x := ip_nm 56) ip_Mp_RX3, rfl⟩
set_option maxRecDepth 100000 in
theorem ip_mw57 : ip_Mok 57 := ⟨(ip_t4 (ip_v4_1 (List.mem_of_getElem? (l := ip_u4_1.1) (i := 29) rfl))), ip_Mc_RX3.1, ip_Mc_RX3.2, plainFor_of_name (x := ip_nm 57) ip_Mp_RX3, rfl⟩
set_option maxRecDepth 100000 in
theorem ip_mw58 : ip_Mok 58 := ⟨(ip_t4 (ip_v4_2 (List.mem_of_getElem? (l := ip_u4_2.1) (i := 13) rfl))), ip_Mc_RX3.1, ip_Mc_RX3.2, plainFor_of_name (x := ip_nm 58) ip_Mp_RX3, rfl⟩
set_option maxRecDepth 100000 in
theorem ip_mw59 : ip_Mok 59 := ⟨(ip_t2 (ip_v2_4 (List.mem_of_getElem? (l := ip_u2_4.1) (i := 7) rfl))), ip_Mc_RX3.1, ip_Mc_RX3.2, plainFor_of_name (x := ip_nm 59) ip_Mp_RX3, rfl⟩
set_option maxRecDepth 100000 in
theorem ip_mw60 : ip_Mok 60 := ⟨(ip_t1 (ip_v1_1 (List.mem_of_getElem? (l := ip_u1_1.1) (i := 1) rfl))), ip_Mc_RX4.1, ip_Mc_RX4.2, plainFor_of_name (x := ip_nm 60) ip_Mp_RX4, rfl⟩
set_option maxRecDepth 100000 in
theorem ip_mw61 : ip_Mok 61 := ⟨(ip_t3 (ip_v3_0 (List.mem_of_getElem? (l := ip_u3_0.1) (i := 24) rfl))), ip_Mc_RX4.1, ip_Mc_RX4.2, plainFor_of_name (x := ip_nm 61) ip_Mp_RX4, rfl⟩
set_option maxRecDepth 100000 in
theorem ip_mw62 : ip_Mok 62 := ⟨(ip_t3 (ip_v3_1 (List.mem_of_getElem? (l := ip_u3_1.1) (i := 0) rfl))), ip_Mc_RX4.1, ip_Mc_RX4.2, plainFor_of_name (x := ip_nm 62) ip_Mp_RX4, rfl⟩
set_option maxRecDepth 100000 in
theorem ip_mw63 : ip_Mok 63 := ⟨(ip_t3 (ip_v3_0 (List.mem_of_getElem? (l := ip_u3_0.1) (i := 21) rfl))), ip_Mc_RX4.1, ip_Mc_RX4.2, plainFor_of_name (x := ip_nm 63) ip_Mp_RX4, rfl⟩
set_option maxRecDepth 100000 in
theorem ip_mw64 : ip_Mok 64 := ⟨(ip_t3 (ip_v3_2 (List.mem_of_getElem? (l := ip_u3_2.1) (i := 12) rfl))), ip_Mc_RX4.1, ip_Mc_RX4.2, plainFor_of_name (x := ip_nm 64) ip_Mp_RX4, rfl⟩
set_option maxRecDepth 100000 in
theorem ip_mw65 : ip_Mok 65 := ⟨(ip_t3 (ip_v3_4 (List.mem_of_getElem? (l := ip_u3_4.1) (i := 7) rfl))), ip_Mc_RX4.1, ip_Mc_RX4.2, plainFor_of_name (x := ip_nm 65) ip_Mp_RX4, rfl⟩
set_option maxRecDepth 100000 in
theorem ip_mw66 : ip_Mok 66 := ⟨(ip_t3 (ip_v3_4 (List.mem_of_getElem? (l := ip_u3_4.1) (i := 12) rfl))), ip_Mc_RX4.1, ip_Mc_RX4.2, plainFor_of_name (x := ip_nm 66) ip_Mp_RX4, rfl⟩
set_option maxRecDepth 100000 in
theorem ip_mw67 : ip_Mok 67 := ⟨(ip_t3 (ip_v3_4 (List.mem_of_getElem? (l := ip_u3_4.1) (i := 20) rfl))), ip_Mc_RX4.1, ip_Mc_RX4.2, plainFor_of_name (x := ip_nm 67) ip_Mp_RX4, rfl⟩
set_option maxRecDepth 100000 in
theorem ip_mw68 : ip_Mok 68 := ⟨(ip_t3 (ip_v3_4 (List.mem_of_getElem? (l := ip_u3_4.1) (i := 15) rfl))), ip_Mc_RX4.1, ip_Mc_RX4.2, plainFor_of_name (x := ip_nm 68) ip_Mp_RX4, rfl⟩
set_option maxRecDepth 100000 in
theorem ip_mw69 : ip_Mok 69 := ⟨(ip_t3 (ip_v3_4 (List.mem_of_getElem? (l := ip_u3_4.1) (i := 24) rfl))), ip_Mc_RX4.1, ip_Mc_RX4.2, plainFor_of_name (x := ip_nm 69) ip_Mp_RX4, rfl⟩
set_option maxRecDepth 100000 in
theorem ip_mw70 : ip_Mok 70 := ⟨(ip_t4 (ip_v4_0 (List.mem_of_getElem? (l := ip_u4_0.1) (i := 23) rfl))), ip_Mc_RX4.1, ip_Mc_RX4.2, plainFor_of_name (x := ip_nm 70) ip_Mp_RX4, rfl⟩
set_option maxRecDepth 100000 in
theorem ip_mw71 : ip_Mok 71 := ⟨(ip_t3 (ip_v3_1 (List.mem_of_getElem? (l := ip_u3_1.1) (i := 12) rfl))), ip_Mc_RX4.1, ip_Mc_RX4.2, plainFor_of_name (x := ip_nm 71) ip_Mp_RX4, rfl⟩
set_option maxRecDepth 100000 in
theorem ip_mw72 : ip_Mok 72 := ⟨(ip_t3 (ip_v3_1 (List.mem_of_getElem? (l := ip_u3_1.1) (i := 8) rfl))), ip_Mc_RX4.1, ip_Mc_RX4.2, plainFor_of_name (x := ip_nm 72) ip_Mp_RX4, rfl⟩
set_option maxRecDepth 100000 in
theorem ip_mw73 : ip_Mok 73 := ⟨(ip_t3 (ip_v3_0 (List.mem_of_getElem? (l := ip_u3_0.1) (i := 28) rfl))), ip_Mc_RX4.1, ip_Mc_RX4.2, plainFor_of_name (x := ip_nm 73) ip_Mp_RX4, rfl⟩
set_option maxRecDepth 100000 in
theorem ip_mw74 : ip_Mok 74 := ⟨(ip_t1 (ip_v1_6 (List.mem_of_getElem? (l := ip_u1_6.1) (i := 25) rfl))), ip_Mc_RX5.1, ip_Mc_RX5.2, plainFor_of_name (x := ip_nm 74) ip_Mp_RX5, rfl⟩
set_option maxRecDepth 100000 in
theorem ip_mw75 : ip_Mok 75 := ⟨(ip_t2 (ip_v2_4 (List.mem_of_getElem? (l := ip_u2_4.1) (i := 14) rfl))), ip_Mc_RX5.1, ip_Mc_RX5.2, plainFor_of_name (x := ip_nm 75) ip_Mp_RX5, rfl⟩
set_option maxRecDepth 100000 in
theorem ip_mw76 : ip_Mok 76 := ⟨(ip_t4 (ip_v4_1 (List.mem_of_getElem? (l := ip_u4_1.1) (i := 15) rfl))), ip_Mc_RX5.1, ip_Mc_RX5.2, plainFor_of_name (x := ip_nm 76) ip_Mp_RX5, rfl⟩
set_option maxRecDepth 100000 in
theorem ip_mw77 : ip_Mok 77 := ⟨(ip_t1 (ip_v1_5 (List.mem_of_getElem? (l := ip_u1_5.1) (i := 23) rfl))), ip_Mc_RX6.1, ip_Mc_RX6.2, plainFor_of_name (x := ip_nm 77) ip_Mp_RX6, rfl⟩
set_option maxRecDepth 100000 in
theorem ip_mw78 : ip_Mok 78 := ⟨(ip_t3 (ip_v3_5 (List.mem_of_getElem? (l := ip_u3_5.1) (i := 26) rfl))), ip_Mc_RX6.1, ip_Mc_RX6.2, plainFor_of_name (x := ip_nm 78) ip_Mp_RX6, rfl⟩
set_option maxRecDepth 100000 in
theorem ip_mw79 : ip_Mok 79 := ⟨(ip_t3 (ip_v3_5 (List.mem_of_getElem? (l := ip_u3_5.1) (i := 30) rfl))), ip_Mc_RX6.1, ip_Mc_RX6.2, plainFor_of_name (x := ip_nm 79) ip_Mp_RX6, rfl⟩
set_option maxRecDepth 100000 in
theorem ip_mw80 : ip_Mok 80 := ⟨(ip_t3 (ip_v3_6 (List.mem_of_getElem? (l := ip_u3_6.1) (i := 7) rfl))), ip_Mc_RX6.1, ip_Mc_RX6.2, plainFor_of_name (x := ip_nm 80) ip_Mp_RX6, rfl⟩
set_option maxRecDepth 100000 in
theorem ip_mw81 : ip_Mok 81 := ⟨(ip_t3 (ip_v3_6 (List.mem_of_getElem? (l := ip_u3_6.1) (i := 15) rfl))), ip_Mc_RX6.1, ip_Mc_RX6.2, plainFor_of_name (x := ip_nm 81) ip_Mp_RX6, rfl⟩
set_option maxRecDepth 100000 in
theorem ip_mw82 : ip_Mok 82 := ⟨(ip_t3 (ip_v3_6 (List.mem_of_getElem? (l := ip_u3_6.1) (i := 19) rfl))), ip_Mc_RX6.1, ip_Mc_RX6.2, plainFor_of_name (x := ip_nm 82) ip_Mp_RX6, rfl⟩
set_option maxRecDepth 100000 in
theorem ip_mw83 : ip_Mok 83 := ⟨(ip_t3 (ip_v3_6 (List.mem_of_getElem? (l := ip_u3_6.1) (i := 23) rfl))), ip_Mc_RX6.1, ip_Mc_RX6.2, plainFor_of_name (x := ip_nm 83) ip_Mp_RX6, rfl⟩
set_option maxRecDepth 100000 in
theorem ip_mw84 : ip_Mok 84 := ⟨(ip_t3 (ip_v3_7 (List.mem_of_getElem? (l := ip_u3_7.1) (i := 10) rfl))), ip_Mc_RX6.1, ip_Mc_RX6.2, plainFor_of_name (x := ip_nm 84) ip_Mp_RX6, rfl⟩
set_option maxRecDepth 100000 in
theorem ip_mw85 : ip_Mok 85 := ⟨(ip_t3 (ip_v3_6 (List.mem_of_getElem? (l := ip_u3_6.1) (i := 27) rfl))), ip_Mc_RX6.1, ip_Mc_RX6.2, plainFor_of_name (x := ip_nm 85) ip_Mp_RX6, rfl⟩
set_option maxRecDepth 100000 in
theorem ip_mw86 : ip_Mok 86 := ⟨(ip_t3 (ip_v3_7 (List.mem_of_getElem? (l := ip_u3_7.1) (i := 3) rfl))), ip_Mc_RX6.1, ip_Mc_RX6.2, plainFor_of_name (x := ip_nm 86) ip_Mp_RX6, rfl⟩
set_option maxRecDepth 100000 in
theorem ip_mw87 : ip_Mok 87 := ⟨(ip_t3 (ip_v3_6 (List.mem_of_getElem? (l := ip_u3_6.1) (i := 31) rfl))), ip_Mc_RX6.1, ip_Mc_RX6.2, plainFor_of_name (x := ip_nm 87) ip_Mp_RX6, rfl⟩
set_option maxRecDepth 100000 in
theorem ip_mw88 : ip_Mok 88 := ⟨(ip_t2 (ip_v2_1 (List.mem_of_getElem? (l := ip_u2_1.1) (i := 1) rfl))), ip_Mc_RX7.1, ip_Mc_RX7.2, plainFor_of_name (x := ip_nm 88) ip_Mp_RX7, rfl⟩
set_option maxRecDepth 100000 in
theorem ip_mw89 : ip_Mok 89 := ⟨(ip_t2 (ip_v2_3 (List.mem_of_getElem? (l := ip_u2_3.1) (i := 18) rfl))), ip_Mc_RX7.1, ip_Mc_RX7.2, plainFor_of_name (x := ip_nm 89) ip_Mp_RX7, rfl⟩
set_option maxRecDepth 100000 in
theorem ip_mw90 : ip_Mok 90 := ⟨(ip_t2 (ip_v2_5 (List.mem_of_getElem? (l := ip_u2_5.1) (i := 21) rfl))), ip_Mc_RX7.1, ip_Mc_RX7.2, plainFor_of_name (x := ip_nm 90) ip_Mp_RX7, rfl⟩
set_option maxRecDepth 100000 in
theorem ip_mw91 : ip_Mok 91 := ⟨(ip_t5 (ip_v5_2 (List.mem_of_getElem? (l := ip_u5_2.1) (i := 6) rfl))), ip_Mc_RX7.1, ip_Mc_RX7.2, plainFor_of_name (x := ip_nm 91) ip_Mp_RX7, rfl⟩
set_option maxRecDepth 100000 in
theorem ip_mw92 : ip_Mok 92 := ⟨(ip_t1 (ip_v1_1 (List.mem_of_getElem? (l := ip_u1_1.1) (i := 12) rfl))), ip_Mc_RX8.1, ip_Mc_RX8.2, plainFor_of_name (x := ip_nm 92) ip_Mp_RX8, rfl⟩
set_option maxRecDepth 100000 in
theorem ip_mw93 : ip_Mok 93 := ⟨(ip_t2 (ip_v2_5 (List.mem_of_getElem? (l := ip_u2_5.1) (i := 6) rfl))), ip_Mc_RX8.1, ip_Mc_RX8.2, plainFor_of_name (x := ip_nm 93) ip_Mp_RX8, rfl⟩
set_option maxRecDepth 100000 in
theorem ip_mw94 : ip_Mok 94 := ⟨(ip_t2 (ip_v2_6 (List.mem_of_getElem? (l := ip_u2_6.1) (i := 23) rfl))), ip_Mc_RX8.1, ip_Mc_RX8.2, plainFor_of_name (x := ip_nm 94) ip_Mp_RX8, rfl⟩
set_option maxRecDepth 100000 in
theorem ip_mw95 : ip_Mok 95 := ⟨(ip_t2 (ip_v2_7 (List.mem_of_getElem? (l := ip_u2_7.1) (i := 8) rfl))), ip_Mc_RX8.1, ip_Mc_RX8.2, plainFor_of_name (x := ip_nm 95) ip_Mp_RX8, rfl⟩
set_option maxRecDepth 100000 in
theorem ip_mw96 : ip_Mok 96 := ⟨(ip_t3 (ip_v3_3 (List.mem_of_getElem? (l := ip_u3_3.1) (i := 22) rfl))), ip_Mc_RX8.1, ip_Mc_RX8.2, plainFor_of_name (x := ip_nm 96) ip_Mp_RX8, rfl⟩
set_option maxRecDepth 100000 in
theorem ip_mw97 : ip_Mok 97 := ⟨(ip_t2 (ip_v2_4 (List.mem_of_getElem? (l := ip_u2_4.1) (i := 18) rfl))), ip_Mc_RX8.1, ip_Mc_RX8.2, plainFor_of_name (x := ip_nm 97) ip_Mp_RX8, rfl⟩
set_option maxRecDepth 100000 in
theorem ip_mw98 : ip_Mok 98 := ⟨(ip_t3 (ip_v3_3 (List.mem_of_getElem? (l := ip_u3_3.1) (i := 27) rfl))), ip_Mc_RX8.1, ip_Mc_RX8.2, plainFor_of_name (x := ip_nm 98) ip_Mp_RX8, rfl⟩
set_option maxRecDepth 100000 in
theorem ip_mw99 : ip_Mok 99 := ⟨(ip_t2 (ip_v2_7 (List.mem_of_getElem? (l := ip_u2_7.1) (i := 0) rfl))), ip_Mc_RX8.1, ip_Mc_RX8.2, plainFor_of_name (x := ip_nm 99) ip_Mp_RX8, rfl⟩
set_option maxRecDepth 100000 in
theorem ip_mw100 : ip_Mok 100 := ⟨(ip_t2 (ip_v2_7 (List.mem_of_getElem? (l := ip_u2_7.1) (i := 3) rfl))), ip_Mc_RX8.1, ip_Mc_RX8.2, plainFor_of_name (x := ip_nm 100) ip_Mp_RX8, rfl⟩
set_option maxRecDepth 100000 in
theorem ip_mw101 : ip_Mok 101 := ⟨(ip_t3 (ip_v3_0 (List.mem_of_getElem? (l := ip_u3_0.1) (i := 0) rfl))), ip_Mc_RX8.1, ip_Mc_RX8.2, plainFor_of_name (x := ip_nm 101) ip_Mp_RX8, rfl⟩
set_option maxRecDepth 100000 in
theorem ip_mw102 : ip_Mok 102 := ⟨(ip_t4 (ip_v4_2 (List.mem_of_getElem? (l := ip_u4_2.1) (i := 23) rfl))), ip_Mc_RX8.1, ip_Mc_RX8.2, plainFor_of_name (x := ip_nm 102) ip_Mp_RX8, rfl⟩
set_option maxRecDepth 100000 in
theorem ip_mw103 : ip_Mok 103 := ⟨(ip_t1 (ip_v1_5 (List.mem_of_getElem? (l := ip_u1_5.1) (i := 8) rfl))), ip_Mc_RX9.1, ip_Mc_RX9.2, plainFor_of_name (x := ip_nm 103) ip_Mp_RX9, rfl⟩
set_option maxRecDepth 100000 in
theorem ip_mw104 : ip_Mok 104 := ⟨(ip_t3 (ip_v3_7 (List.mem_of_getElem? (l := ip_u3_7.1) (i := 14) rfl))), ip_Mc_RX9.1, ip_Mc_RX9.2, plainFor_of_name (x := ip_nm 104) ip_Mp_RX9, rfl⟩
set_option maxRecDepth 100000 in
theorem ip_mw105 : ip_Mok 105 := ⟨(ip_t2 (ip_v2_4 (List.mem_of_getElem? (l := ip_u2_4.1) (i := 22) rfl))), ip_Mc_RX9.1, ip_Mc_RX9.2, plainFor_of_name (x := ip_nm 105) ip_Mp_RX9, rfl⟩
set_option maxRecDepth 100000 in
theorem ip_mw106 : ip_Mok 106 := ⟨(ip_t4 (ip_v4_0 (List.mem_of_getElem? (l := ip_u4_0.1) (i := 12) rfl))), ip_Mc_RX9.1, ip_Mc_RX9.2, plainFor_of_name (x := ip_nm 106) ip_Mp_RX9, rfl⟩
set_option maxRecDepth 100000 in
theorem ip_mw107 : ip_Mok 107 := ⟨(ip_t4 (ip_v4_0 (List.mem_of_getElem? (l := ip_u4_0.1) (i := 7) rfl))), ip_Mc_RX9.1, ip_Mc_RX9.2, plainFor_of_name (x := ip_nm 107) ip_Mp_RX9, rfl⟩
set_option maxRecDepth 100000 in
theorem ip_mw108 : ip_Mok 108 := ⟨(ip_t5 (ip_v5_1 (List.mem_of_getElem? (l := ip_u5_1.1) (i := 12) rfl))), ip_Mc_RX9.1, ip_Mc_RX9.2, plainFor_of_name (x := ip_nm 108) ip_Mp_RX9, rfl⟩
set_option maxRecDepth 100000 in
theorem ip_mw109 : ip_Mok 109 := ⟨(ip_t1 (ip_v1_0 (List.mem_of_getElem? (l := ip_u1_0.1) (i := 19) rfl))), ip_Mc_RX10.1, ip_Mc_RX10.2, plainFor_of_name (x := ip_nm 109) ip_Mp_RX10, rfl⟩
set_option maxRecDepth 100000 in
theorem ip_mw110 : ip_Mok 110 := ⟨(ip_t2 (ip_v2_3 (List.mem_of_getElem? (l := ip_u2_3.1) (i := 9) rfl))), ip_Mc_RX10.1, ip_Mc_RX10.2, plainFor_of_name (x := ip_nm 110) ip_Mp_RX10, rfl⟩
set_option maxRecDepth 100000 in
theorem ip_mw111 : ip_Mok 111 := ⟨(ip_t2 (ip_v2_5 (List.mem_of_getElem? (l := ip_u2_5.1) (i := 25) rfl))), ip_Mc_RX10.1, ip_Mc_RX10.2, plainFor_of_name (x := ip_nm 111) ip_Mp_RX10, rfl⟩
set_option maxRecDepth 100000 in
theorem ip_mw112 : ip_Mok 112 := ⟨(ip_t2 (ip_v2_5 (List.mem_of_getElem? (l := ip_u2_5.1) (i := 29) rfl))), ip_Mc_RX10.1, ip_Mc_RX10.2, plainFor_of_name (x := ip_nm 112) ip_Mp_RX10, rfl⟩
set_option maxRecDepth 100000 in
theorem ip_mw113 : ip_Mok 113 := ⟨(ip_t2 (ip_v2_6 (List.mem_of_getElem? (l := ip_u2_6.1) (i := 19) rfl))), ip_Mc_RX10.1, ip_Mc_RX10.2, plainFor_of_name (x := ip_nm 113) ip_Mp_RX10, rfl⟩
set_option maxRecDepth 100000 in
theorem ip_mw114 : ip_Mok 114 := ⟨(ip_t2 (ip_v2_7 (List.mem_of_getElem? (l := ip_u2_7.1) (i := 12) rfl))), ip_Mc_RX10.1, ip_Mc_RX10.2, plainFor_of_name (x := ip_nm 114) ip_Mp_RX10, rfl⟩
set_option maxRecDepth 100000 in
theorem ip_mw115 : ip_Mok 115 := ⟨(ip_t3 (ip_v3_1 (List.mem_of_getElem? (l := ip_u3_1.1) (i := 18) rfl))), ip_Mc_RX10.1, ip_Mc_RX10.2, plainFor_of_name (x := ip_nm 115) ip_Mp_RX10, rfl⟩
set_option maxRecDepth 100000 in
theorem ip_mw116 : ip_Mok 116 := ⟨(ip_t3 (ip_v3_2 (List.mem_of_getElem? (l := ip_u3_2.1) (i := 26) rfl))), ip_Mc_RX10.1, ip_Mc_RX10.2, plainFor_of_name (x := ip_nm 116) ip_Mp_RX10, rfl⟩
set_option maxRecDepth 100000 in
theorem ip_mw117 : ip_Mok 117 := ⟨(ip_t3 (ip_v3_5 (List.mem_of_getElem? (l := ip_u3_5.1) (i := 8) rfl))), ip_Mc_RX10.1, ip_Mc_RX10.2, plainFor_of_name (x := ip_nm 117) ip_Mp_RX10, rfl⟩
set_option maxRecDepth 100000 in
theorem ip_mw118 : ip_Mok 118 := ⟨(ip_t3 (ip_v3_5 (List.mem_of_getElem? (l := ip_u3_5.1) (i := 16) rfl))), ip_Mc_RX10.1, ip_Mc_RX10.2, plainFor_of_name (x := ip_nm 118) ip_Mp_RX10, rfl⟩
set_option maxRecDepth 100000 in
theorem ip_mw119 : ip_Mok 119 := ⟨(ip_t3 (ip_v3_5 (List.mem_of_getElem? (l := ip_u3_5.1) (i := 22) rfl))), ip_Mc_RX10.1, ip_Mc_RX10.2, plainFor_of_name (x := ip_nm 119) ip_Mp_RX10, rfl⟩
set_option maxRecDepth 100000 in
theorem ip_mw120 : ip_Mok 120 := ⟨(ip_t3 (ip_v3_6 (List.mem_of_getElem? (l := ip_u3_6.1) (i := 3) rfl))), ip_Mc_RX10.1, ip_Mc_RX10.2, plainFor_of_name (x := ip_nm 120) ip_Mp_RX10, rfl⟩
set_option maxRecDepth 100000 in
theorem ip_mw121 : ip_Mok 121 := ⟨(ip_t3 (ip_v3_6 (List.mem_of_getElem? (l := ip_u3_6.1) (i := 11) rfl))), ip_Mc_RX10.1, ip_Mc_RX10.2, plainFor_of_name (x := ip_nm 121) ip_Mp_RX10, rfl⟩
set_option maxRecDepth 100000 in
theorem ip_mw122 : ip_Mok 122 := ⟨(ip_t4 (ip_v4_0 (List.mem_of_getElem? (l := ip_u4_0.1) (i := 3) rfl))), ip_Mc_RX10.1, ip_Mc_RX10.2, plainFor_of_name (x := ip_nm 122) ip_Mp_RX10, rfl⟩
set_option maxRecDepth 100000 in
theorem ip_mw123 : ip_Mok 123 := ⟨(ip_t4 (ip_v4_1 (List.mem_of_getElem? (l := ip_u4_1.1) (i := 3) rfl))), ip_Mc_RX10.1, ip_Mc_RX10.2, plainFor_of_name (x := ip_nm 123) ip_Mp_RX10, rfl⟩
set_option maxRecDepth 100000 in
theorem ip_mw124 : ip_Mok 124 := ⟨(ip_t4 (ip_v4_1 (List.mem_of_getElem? (l := ip_u4_1.1) (i := 7) rfl))), ip_Mc_RX10.1, ip_Mc_RX10.2, plainFor_of_name (x := ip_nm 124) ip_Mp_RX10, rfl⟩
set_option maxRecDepth 100000 in
theorem ip_mw125 : ip_Mok 125 := ⟨(ip_t4 (ip_v4_2 (List.mem_of_getElem? (l := ip_u4_2.1) (i := 1) rfl))), ip_Mc_RX10.1, ip_Mc_RX10.2, plainFor_of_name (x := ip_nm 125) ip_Mp_RX10, rfl⟩
set_option maxRecDepth 100000 in
theorem ip_mw126 : ip_Mok 126 := ⟨(ip_t4 (ip_v4_2 (List.mem_of_getElem? (l := ip_u4_2.1) (i := 9) rfl))), ip_Mc_RX10.1, ip_Mc_RX10.2, plainFor_of_name (x := ip_nm 126) ip_Mp_RX10, rfl⟩
set_option maxRecDepth 100000 in
theorem ip_mw127 : ip_Mok 127 := ⟨(ip_t4 (ip_v4_2 (List.mem_of_getElem? (l := ip_u4_2.1) (i := 17) rfl))), ip_Mc_RX10.1, ip_Mc_RX10.2, plainFor_of_name (x := ip_nm 127) ip_Mp_RX10, rfl⟩
set_option maxRecDepth 100000 in
theorem ip_mw128 : ip_Mok 128 := ⟨(ip_t4 (ip_v4_2 (List.mem_of_getElem? (l := ip_u4_2.1) (i := 28) rfl))), ip_Mc_RX10.1, ip_Mc_RX10.2, plainFor_of_name (x := ip_nm 128) ip_Mp_RX10, rfl⟩
set_option maxRecDepth 100000 in
theorem ip_mw129 : ip_Mok 129 := ⟨(ip_t4 (ip_v4_3 (List.mem_of_getElem? (l := ip_u4_3.1) (i := 4) rfl))), ip_Mc_RX10.1, ip_Mc_RX10.2, plainFor_of_name (x := ip_nm 129) ip_Mp_RX10, rfl⟩
set_option maxRecDepth 100000 in
theorem ip_mw130 : ip_Mok 130 := ⟨(ip_t4 (ip_v4_3 (List.mem_of_getElem? (l := ip_u4_3.1) (i := 12) rfl))), ip_Mc_RX10.1, ip_Mc_RX10.2, plainFor_of_name (x := ip_nm 130) ip_Mp_RX10, rfl⟩
set_option maxRecDepth 100000 in
theorem ip_mw131 : ip_Mok 131 := ⟨(ip_t4 (ip_v4_3 (List.mem_of_getElem? (l := ip_u4_3.1) (i := 17) rfl))), ip_Mc_RX10.1, ip_Mc_RX10.2, plainFor_of_name (x := ip_nm 131) ip_Mp_RX10, rfl⟩
set_option maxRecDepth 100000 in
theorem ip_mw132 : ip_Mok 132 := ⟨(ip_t4 (ip_v4_3 (List.mem_of_getElem? (l := ip_u4_3.1) (i := 26) rfl))), ip_Mc_RX10.1, ip_Mc_RX10.2, plainFor_of_name (x := ip_nm 132) ip_Mp_RX10, rfl⟩
set_option maxRecDepth 100000 in
theorem ip_mw133 : ip_Mok 133 := ⟨(ip_t4 (ip_v4_4 (List.mem_of_getElem? (l := ip_u4_4.1) (i := 2) rfl))), ip_Mc_RX10.1, ip_Mc_RX10.2, plainFor_of_name (x := ip_nm 133) ip_Mp_RX10, rfl⟩
set_option maxRecDepth 100000 in
theorem ip_mw134 : ip_Mok 134 := ⟨(ip_t4 (ip_v4_4 (List.mem_of_getElem? (l := ip_u4_4.1) (i := 6) rfl))), ip_Mc_RX10.1, ip_Mc_RX10.2, plainFor_of_name (x := ip_nm 134) ip_Mp_RX10, rfl⟩
set_option maxRecDepth 100000 in
theorem ip_mw135 : ip_Mok 135 := ⟨(ip_t4 (ip_v4_4 (List.mem_of_getElem? (l := ip_u4_4.1) (i := 10) rfl))), ip_Mc_RX10.1, ip_Mc_RX10.2, plainFor_of_name (x := ip_nm 135) ip_Mp_RX10, rfl⟩
set_option maxRecDepth 100000 in
theorem ip_mw136 : ip_Mok 136 := ⟨(ip_t4 (ip_v4_5 (List.mem_of_getElem? (l := ip_u4_5.1) (i := 4) rfl))), ip_Mc_RX10.1, ip_Mc_RX10.2, plainFor_of_name (x := ip_nm 136) ip_Mp_RX10, rfl⟩
set_option maxRecDepth 100000 in
theorem ip_mw137 : ip_Mok 137 := ⟨(ip_t4 (ip_v4_5 (List.mem_of_getElem? (l := ip_u4_5.1) (i := 12) rfl))), ip_Mc_RX10.1, ip_Mc_RX10.2, plainFor_of_name (x := ip_nm 137) ip_Mp_RX10, rfl⟩
set_option maxRecDepth 100000 in
theorem ip_mw138 : ip_Mok 138 := ⟨(ip_t4 (ip_v4_5 (List.mem_of_getElem? (l := ip_u4_5.1) (i := 18) rfl))), ip_Mc_RX10.1, ip_Mc_RX10.2, plainFor_of_name (x := ip_nm 138) ip_Mp_RX10, rfl⟩
set_option maxRecDepth 100000 in
theorem ip_mw139 : ip_Mok 139 := ⟨(ip_t4 (ip_v4_5 (List.mem_of_getElem? (l := ip_u4_5.1) (i := 23) rfl))), ip_Mc_RX10.1, ip_Mc_RX10.2, plainFor_of_name (x := ip_nm 139) ip_Mp_RX10, rfl⟩
set_option maxRecDepth 100000 in
theorem ip_mw140 : ip_Mok 140 := ⟨(ip_t4 (ip_v4_6 (List.mem_of_getElem? (l := ip_u4_6.1) (i := 0) rfl))), ip_Mc_RX10.1, ip_Mc_RX10.2, plainFor_of_name (x := ip_nm 140) ip_Mp_RX10, rfl⟩
set_option maxRecDepth 100000 in
theorem ip_mw141 : ip_Mok 141 := ⟨(ip_t4 (ip_v4_6 (List.mem_of_getElem? (l := ip_u4_6.1) (i := 16) rfl))), ip_Mc_RX10.1, ip_Mc_RX10.2, plainFor_of_name (x := ip_nm 141) ip_Mp_RX10, rfl⟩
set_option maxRecDepth 100000 in
theorem ip_mw142 : ip_Mok 142 := ⟨(ip_t4 (ip_v4_6 (List.mem_of_getElem? (l := ip_u4_6.1) (i := 20) rfl))), ip_Mc_RX10.1, ip_Mc_RX10.2, plainFor_of_name (x := ip_nm 142) ip_Mp_RX10, rfl⟩
set_option maxRecDepth 100000 in
theorem ip_mw143 : ip_Mok 143 := ⟨(ip_t4 (ip_v4_6 (List.mem_of_getElem? (l := ip_u4_6.1) (i := 30) rfl))), ip_Mc_RX10.1, ip_Mc_RX10.2, plainFor_of_name (x := ip_nm 143) ip_Mp_RX10, rfl⟩
set_option maxRecDepth 100000 in
theorem ip_mw144 : ip_Mok 144 := ⟨(ip_t5 (ip_v5_0 (List.mem_of_getElem? (l := ip_u5_0.1) (i := 3) rfl))), ip_Mc_RX10.1, ip_Mc_RX10.2, plainFor_of_name (x := ip_nm 144) ip_Mp_RX10, rfl⟩
set_option maxRecDepth 100000 in
theorem ip_mw145 : ip_Mok 145 := ⟨(ip_t5 (ip_v5_0 (List.mem_of_getElem? (l := ip_u5_0.1) (i := 7) rfl))), ip_Mc_RX10.1, ip_Mc_RX10.2, plainFor_of_name (x := ip_nm 145) ip_Mp_RX10, rfl⟩
set_option maxRecDepth 100000 in
theorem ip_mw146 : ip_Mok 146 := ⟨(ip_t5 (ip_v5_0 (List.mem_of_getElem? (l := ip_u5_0.1) (i := 15) rfl))), ip_Mc_RX10.1, ip_Mc_RX10.2, plainFor_of_name (x := ip_nm 146) ip_Mp_RX10, rfl⟩
set_option maxRecDepth 100000 in
theorem ip_mw147 : ip_Mok 147 := ⟨(ip_t5 (ip_v5_0 (List.mem_of_getElem? (l := ip_u5_0.1) (i := 31) rfl))), ip_Mc_RX10.1, ip_Mc_RX10.2, plainFor_of_name (x := ip_nm 147) ip_Mp_RX10, rfl⟩
set_option maxRecDepth 100000 in
theorem ip_mw148 : ip_Mok 148 := ⟨(ip_t5 (ip_v5_1 (List.mem_of_getElem? (l := ip_u5_1.1) (i := 4) rfl))), ip_Mc_RX10.1, ip_Mc_RX10.2, plainFor_of_name (x := ip_nm 148) ip_Mp_RX10, rfl⟩
set_option maxRecDepth 100000 in
theorem ip_mw149 : ip_Mok 149 := ⟨(ip_t5 (ip_v5_1 (List.mem_of_getElem? (l := ip_u5_1.1) (i := 8) rfl))), ip_Mc_RX10.1, ip_Mc_RX10.2, plainFor_of_name (x := ip_nm 149) ip_Mp_RX10, rfl⟩
set_option maxRecDepth 100000 in
theorem ip_mw150 : ip_Mok 150 := ⟨(ip_t5 (ip_v5_1 (List.mem_of_getElem? (l := ip_u5_1.1) (i := 21) rfl))), ip_Mc_RX10.1, ip_Mc_RX10.2, plainFor_of_name (x := ip_nm 150) ip_Mp_RX10, rfl⟩
set_option maxRecDepth 100000 in
theorem ip_mw151 : ip_Mok 151 := ⟨(ip_t5 (ip_v5_1 (List.mem_of_getElem? (l := ip_u5_1.1) (i := 30) rfl))), ip_Mc_RX10.1, ip_Mc_RX10.2, plainFor_of_name (x := ip_nm 151) ip_Mp_RX10, rfl⟩
set_option maxRecDepth 100000 in
theorem ip_mw152 : ip_Mok 152 := ⟨(ip_t5 (ip_v5_2 (List.mem_of_getElem? (l := ip_u5_2.1) (i := 11) rfl))), ip_Mc_RX10.1, ip_Mc_RX10.2, plainFor_of_name (x := ip_nm 152) ip_Mp_RX10, rfl⟩
set_option maxRecDepth 100000 in
theorem ip_mw153 : ip_Mok 153 := ⟨(ip_t2 (ip_v2_3 (List.mem_of_getElem? (l := ip_u2_3.1) (i := 31) rfl))), ip_Mc_RX10.1, ip_Mc_RX10.2, plainFor_of_name (x := ip_nm 153) ip_Mp_RX10, rfl⟩
set_option maxRecDepth 100000 in
theorem ip_mw154 : ip_Mok 154 := ⟨(ip_t2 (ip_v2_4 (List.mem_of_getElem? (l := ip_u2_4.1) (i := 30) rfl))), ip_Mc_RX10.1, ip_Mc_RX10.2, plainFor_of_name (x := ip_nm 154) ip_Mp_RX10, rfl⟩
set_option maxRecDepth 100000 in
theorem ip_mw155 : ip_Mok 155 := ⟨(ip_t2 (ip_v2_6 (List.mem_of_getElem? (l := ip_u2_6.1) (i := 0) rfl))), ip_Mc_RX10.1, ip_Mc_RX10.2, plainFor_of_name (x := ip_nm 155) ip_Mp_RX10, rfl⟩
set_option maxRecDepth 100000 in
theorem ip_mw156 : ip_Mok 156 := ⟨(ip_t2 (ip_v2_6 (List.mem_of_getElem? (l := ip_u2_6.1) (i := 3) rfl))), ip_Mc_RX10.1, ip_Mc_RX10.2, plainFor_of_name (x := ip_nm 156) ip_Mp_RX10, rfl⟩
set_option maxRecDepth 100000 in
theorem ip_mw157 : ip_Mok 157 := ⟨(ip_t4 (ip_v4_2 (List.mem_of_getElem? (l := ip_u4_2.1) (i := 5) rfl))), ip_Mc_RX10.1, ip_Mc_RX10.2, plainFor_of_name (x := ip_nm 157) ip_Mp_RX10, rfl⟩
set_option maxRecDepth 100000 in
theorem ip_mw158 : ip_Mok 158 := ⟨(ip_t3 (ip_v3_0 (List.mem_of_getElem? (l := ip_u3_0.1) (i := 4) rfl))), ip_Mc_RX10.1, ip_Mc_RX10.2, plainFor_of_name (x := ip_nm 158) ip_Mp_RX10, rfl⟩
set_option maxRecDepth 100000 in
theorem ip_mw159 : ip_Mok 159 := ⟨(ip_t4 (ip_v4_0 (List.mem_of_getElem? (l := ip_u4_0.1) (i := 17) rfl))), ip_Mc_RX10.1, ip_Mc_RX10.2, plainFor_of_name (x := ip_nm 159) ip_Mp_RX10, rfl⟩
set_option maxRecDepth 100000 in
theorem ip_mw160 : ip_Mok 160 := ⟨(ip_t4 (ip_v4_4 (List.mem_of_getElem? (l := ip_u4_4.1) (i := 14) rfl))), ip_Mc_RX10.1, ip_Mc_RX10.2, plainFor_of_name (x := ip_nm 160) ip_Mp_RX10, rfl⟩
set_option maxRecDepth 100000 in
theorem ip_mw161 : ip_Mok 161 := ⟨(ip_t5 (ip_v5_0 (List.mem_of_getElem? (l := ip_u5_0.1) (i := 19) rfl))), ip_Mc_RX10.1, ip_Mc_RX10.2, plainFor_of_name (x := ip_nm 161) ip_Mp_RX10, rfl⟩
set_option maxRecDepth 100000 in
theorem ip_mw162 : ip_Mok 162 := ⟨(ip_t5 (ip_v5_1 (List.mem_of_getElem? (l := ip_u5_1.1) (i := 16) rfl))), ip_Mc_RX10.1, ip_Mc_RX10.2, plainFor_of_name (x := ip_nm 162) ip_Mp_RX10, rfl⟩
set_option maxRecDepth 100000 in
theorem ip_mw163 : ip_Mok 163 := ⟨(ip_t2 (ip_v2_5 (List.mem_of_getElem? (l := ip_u2_5.1) (i := 9) rfl))), ip_Mc_RX10.1, ip_Mc_RX10.2, plainFor_of_name (x := ip_nm 163) ip_Mp_RX10, rfl⟩
set_option maxRecDepth 100000 in
theorem ip_mw164 : ip_Mok 164 := ⟨(ip_t4 (ip_v4_3 (List.mem_of_getElem? (l := ip_u4_3.1) (i := 7) rfl))), ip_Mc_RX10.1, ip_Mc_RX10.2, plainFor_of_name (x := ip_nm 164) ip_Mp_RX10, rfl⟩
set_option maxRecDepth 100000 in
theorem ip_mw165 : ip_Mok 165 := ⟨(ip_t5 (ip_v5_2 (List.mem_of_getElem? (l := ip_u5_2.1) (i := 16) rfl))), ip_Mc_RX11.1, ip_Mc_RX11.2, plainFor_of_name (x := ip_nm 165) ip_Mp_RX11, rfl⟩
set_option maxRecDepth 100000 in
theorem ip_mw166 : ip_Mok 166 := ⟨(ip_t6 (ip_v6_0 (List.mem_of_getElem? (l := ip_u6_0.1) (i := 13) rfl))), ip_Mc_RX11.1, ip_Mc_RX11.2, plainFor_of_name (x := ip_nm 166) ip_Mp_RX11, rfl⟩
set_option maxRecDepth 100000 in
theorem ip_mw167 : ip_Mok 167 := ⟨(ip_t5 (ip_v5_7 (List.mem_of_getElem? (l := ip_u5_7.1) (i := 14) rfl))), ip_Mc_RX11.1, ip_Mc_RX11.2, plainFor_of_name (x := ip_nm 167) ip_Mp_RX11, rfl⟩
set_option maxRecDepth 100000 in
theorem ip_mw168 : ip_Mok 168 := ⟨(ip_t6 (ip_v6_0 (List.mem_of_getElem? (l := ip_u6_0.1) (i := 6) rfl))), ip_Mc_RX11.1, ip_Mc_RX11.2, plainFor_of_name (x := ip_nm 168) ip_Mp_RX11, rfl⟩
set_option maxRecDepth 100000 in
theorem ip_mw169 : ip_Mok 169 := ⟨(ip_t5 (ip_v5_2 (List.mem_of_getElem? (l := ip_u5_2.1) (i := 21) rfl))), ip_Mc_RX11.1, ip_Mc_RX11.2, plainFor_of_name (x := ip_nm 169) ip_Mp_RX11, rfl⟩
set_option maxRecDepth 100000 in
theorem ip_mw170 : ip_Mok 170 := ⟨(ip_t6 (ip_v6_1 (List.mem_of_getElem? (l := ip_u6_1.1) (i := 3) rfl))), ip_Mc_RX11.1, ip_Mc_RX11.2, plainFor_of_name (x := ip_nm 170) ip_Mp_RX11, rfl⟩
set_option maxRecDepth 100000 in
theorem ip_mw171 : ip_Mok 171 := ⟨(ip_t6 (ip_v6_0 (List.mem_of_getElem? (l := ip_u6_0.1) (i := 2) rfl))), ip_Mc_RX11.1, ip_Mc_RX11.2, plainFor_of_name (x := ip_nm 171) ip_Mp_RX11, rfl⟩
set_option maxRecDepth 100000 in
theorem ip_mw172 : ip_Mok 172 := ⟨(ip_t5 (ip_v5_7 (List.mem_of_getElem? (l := ip_u5_7.1) (i := 10) rfl))), ip_Mc_RX11.1, ip_Mc_RX11.2, plainFor_of_name (x := ip_nm 172) ip_Mp_RX11, rfl⟩
set_option maxRecDepth 100000 in
theorem ip_mw173 : ip_Mok 173 := ⟨(ip_t6 (ip_v6_0 (List.mem_of_getElem? (l := ip_u6_0.1) (i := 17) rfl))), ip_Mc_RX11.1, ip_Mc_RX11.2, plainFor_of_name (x := ip_nm 173) ip_Mp_RX11, rfl⟩
set_option maxRecDepth 100000 in
theorem ip_mw174 : ip_Mok 174 := ⟨(ip_t6 (ip_v6_0 (List.mem_of_getElem? (l := ip_u6_0.1) (i := 10) rfl))), ip_Mc_RX11.1, ip_Mc_RX11.2, plainFor_of_name (x := ip_nm 174) ip_Mp_RX11, rfl⟩
set_option maxRecDepth 100000 in
theorem ip_mw175 : ip_Mok 175 := ⟨(ip_t6 (ip_v6_0 (List.mem_of_getElem? (l := ip_u6_0.1) (i := 21) rfl))), ip_Mc_RX11.1, ip_Mc_RX11.2, plainFor_of_name (x := ip_nm 175) ip_Mp_RX11, rfl⟩
set_option maxRecDepth 100000 in
theorem ip_mw176 : ip_Mok 176 := ⟨(ip_t6 (ip_v6_2 (List.mem_of_getElem? (l := ip_u6_2.1) (i := 14) rfl))), ip_Mc_RX11.1, ip_Mc_RX11.2, plainFor_of_name (x := ip_nm 176) ip_Mp_RX11, rfl⟩
set_option maxRecDepth 100000 in
theorem ip_mw177 : ip_Mok 177 := ⟨(ip_t6 (ip_v6_2 (List.mem_of_getElem? (l := ip_u6_2.1) (i := 23) rfl))), ip_Mc_RX11.1, ip_Mc_RX11.2, plainFor_of_name (x := ip_nm 177) ip_Mp_RX11, rfl⟩
set_option maxRecDepth 100000 in
theorem ip_mw178 : ip_Mok 178 := ⟨(ip_t6 (ip_v6_3 (List.mem_of_getElem? (l := ip_u6_3.1) (i := 0) rfl))), ip_Mc_RX11.1, ip_Mc_RX11.2, plainFor_of_name (x := ip_nm 178) ip_Mp_RX11, rfl⟩
set_option maxRecDepth 100000 in
theorem ip_mw179 : ip_Mok 179 := ⟨(ip_t6 (ip_v6_2 (List.mem_of_getElem? (l := ip_u6_2.1) (i := 18) rfl))), ip_Mc_RX11.1, ip_Mc_RX11.2, plainFor_of_name (x := ip_nm 179) ip_Mp_RX11, rfl⟩
set_option maxRecDepth 100000 in
theorem ip_mw180 : ip_Mok 180 := ⟨(ip_t6 (ip_v6_2 (List.mem_of_getElem? (l := ip_u6_2.1) (i := 27) rfl))), ip_Mc_RX11.1, ip_Mc_RX11.2, plainFor_of_name (x := ip_nm 180) ip_Mp_RX11, rfl⟩
set_option maxRecDepth 100000 in
theorem ip_mw181 : ip_Mok 181 := ⟨(ip_t6 (ip_v6_3 (List.mem_of_getElem? (l := ip_u6_3.1) (i := 4) rfl))), ip_Mc_RX11.1, ip_Mc_RX11.2, plainFor_of_name (x := ip_nm 181) ip_Mp_RX11, rfl⟩
set_option maxRecDepth 100000 in
theorem ip_mw182 : ip_Mok 182 := ⟨(ip_t6 (ip_v6_4 (List.mem_of_getElem? (l := ip_u6_4.1) (i := 7) rfl))), ip_Mc_RX11.1, ip_Mc_RX11.2, plainFor_of_name (x := ip_nm 182) ip_Mp_RX11, rfl⟩
set_option maxRecDepth 100000 in
theorem ip_mw183 : ip_Mok 183 := ⟨(ip_t6 (ip_v6_4 (List.mem_of_getElem? (l := ip_u6_4.1) (i := 11) rfl))), ip_Mc_RX11.1, ip_Mc_RX11.2, plainFor_of_name (x := ip_nm 183) ip_Mp_RX11, rfl⟩
set_option maxRecDepth 100000 in
theorem ip_mw184 : ip_Mok 184 := ⟨(ip_t6 (ip_v6_2 (List.mem_of_getElem? (l := ip_u6_2.1) (i := 10) rfl))), ip_Mc_RX11.1, ip_Mc_RX11.2, plainFor_of_name (x := ip_nm 184) ip_Mp_RX11, rfl⟩
set_option maxRecDepth 100000 in
theorem ip_mw185 : ip_Mok 185 := ⟨(ip_t6 (ip_v6_2 (List.mem_of_getElem? (l := ip_u6_2.1) (i := 6) rfl))), ip_Mc_RX11.1, ip_Mc_RX11.2, plainFor_of_name (x := ip_nm 185) ip_Mp_RX11, rfl⟩
set_option maxRecDepth 100000 in
theorem ip_mw186 : ip_Mok 186 := ⟨(ip_t6 (ip_v6_2 (List.mem_of_getElem? (l := ip_u6_2.1) (i := 2) rfl))), ip_Mc_RX11.1, ip_Mc_RX11.2, plainFor_of_name (x := ip_nm 186) ip_Mp_RX11, rfl⟩
set_option maxRecDepth 100000 in
theorem ip_mw187 : ip_Mok 187 := ⟨(ip_t6 (ip_v6_1 (List.mem_of_getElem? (l := ip_u6_1.1) (i := 26) rfl))), ip_Mc_RX11.1, ip_Mc_RX11.2, plainFor_of_name (x := ip_nm 187) ip_Mp_RX11, rfl⟩
set_option maxRecDepth 100000 in
theorem ip_mw188 : ip_Mok 188 := ⟨(ip_t6 (ip_v6_1 (List.mem_of_getElem? (l := ip_u6_1.1) (i := 23) rfl))), ip_Mc_RX11.1, ip_Mc_RX11.2, plainFor_of_name (x := ip_nm 188) ip_Mp_RX11, rfl⟩
set_option maxRecDepth 100000 in
theorem ip_mw189 : ip_Mok 189 := ⟨(ip_t6 (ip_v6_1 (List.mem_of_getElem? (l := ip_u6_1.1) (i := 14) rfl))), ip_Mc_RX11.1, ip_Mc_RX11.2, plainFor_of_name (x := ip_nm 189) ip_Mp_RX11, rfl⟩
set_option maxRecDepth 100000 in
theorem ip_mw190 : ip_Mok 190 := ⟨(ip_t6 (ip_v6_4 (List.mem_of_getElem? (l := ip_u6_4.1) (i := 27) rfl))), ip_Mc_RX11.1, ip_Mc_RX11.2, plainFor_of_name (x := ip_nm 190) ip_Mp_RX11, rfl⟩
set_option maxRecDepth 100000 in
theorem ip_mw191 : ip_Mok 191 := ⟨(ip_t6 (ip_v6_3 (List.mem_of_getElem? (l := ip_u6_3.1) (i := 31) rfl))), ip_Mc_RX11.1, ip_Mc_RX11.2, plainFor_of_name (x := ip_nm 191) ip_Mp_RX11, rfl⟩
set_option maxRecDepth 100000 in
theorem ip_mw192 : ip_Mok 192 := ⟨(ip_t6 (ip_v6_4 (List.mem_of_getElem? (l := ip_u6_4.1) (i := 3) rfl))), ip_Mc_RX11.1, ip_Mc_RX11.2, plainFor_of_name (x := ip_nm 192) ip_Mp_RX11, rfl⟩
set_option maxRecDepth 100000 in
theorem ip_mw193 : ip_Mok 193 := ⟨(ip_t6 (ip_v6_4 (List.mem_of_getElem? (l := ip_u6_4.1) (i := 15) rfl))), ip_Mc_RX11.1, ip_Mc_RX11.2, plainFor_of_name (x := ip_nm 193) ip_Mp_RX11, rfl⟩
set_option maxRecDepth 100000 in
theorem ip_mw194 : ip_Mok 194 := ⟨(ip_t6 (ip_v6_4 (List.mem_of_getElem? (l := ip_u6_4.1) (i := 19) rfl))), ip_Mc_RX11.1, ip_Mc_RX11.2, plainFor_of_name (x := ip_nm 194) ip_Mp_RX11, rfl⟩
set_option maxRecDepth 100000 in
theorem ip_mw195 : ip_Mok 195 := ⟨(ip_t6 (ip_v6_4 (List.mem_of_getElem? (l := ip_u6_4.1) (i := 23) rfl))), ip_Mc_RX11.1, ip_Mc_RX11.2, plainFor_of_name (x := ip_nm 195) ip_Mp_RX11, rfl⟩
set_option maxRecDepth 100000 in
theorem ip_mw196 : ip_Mok 196 := ⟨(ip_t6 (ip_v6_1 (List.mem_of_getElem? (l := ip_u6_1.1) (i := 19) rfl))), ip_Mc_RX11.1, ip_Mc_RX11.2, plainFor_of_name (x := ip_nm 196) ip_Mp_RX11, rfl⟩
set_option maxRecDepth 100000 in
theorem ip_mw197 : ip_Mok 197 := ⟨(ip_t6 (ip_v6_3 (List.mem_of_getElem? (l := ip_u6_3.1) (i := 23) rfl))), ip_Mc_RX11.1, ip_Mc_RX11.2, plainFor_of_name (x := ip_nm 197) ip_Mp_RX11, rfl⟩
set_option maxRecDepth 100000 in
theorem ip_mw198 : ip_Mok 198 := ⟨(ip_t6 (ip_v6_1 (List.mem_of_getElem? (l := ip_u6_1.1) (i := 30) rfl))), ip_Mc_RX11.1, ip_Mc_RX11.2, plainFor_of_name (x := ip_nm 198) ip_Mp_RX11, rfl⟩
set_option maxRecDepth 100000 in
theorem ip_mw199 : ip_Mok 199 := ⟨(ip_t6 (ip_v6_0 (List.mem_of_getElem? (l := ip_u6_0.1) (i := 31) rfl))), ip_Mc_RX11.1, ip_Mc_RX11.2, plainFor_of_name (x := ip_nm 199) ip_Mp_RX11, rfl⟩
set_option maxRecDepth 100000 in
theorem ip_mw200 : ip_Mok 200 := ⟨(ip_t6 (ip_v6_0 (List.mem_of_getElem? (l := ip_u6_0.1) (i := 28) rfl))), ip_Mc_RX11.1, ip_Mc_RX11.2, plainFor_of_name (x := ip_nm 200) ip_Mp_RX11, rfl⟩
set_option maxRecDepth 100000 in
theorem ip_mw201 : ip_Mok 201 := ⟨(ip_t6 (ip_v6_0 (List.mem_of_getElem? (l := ip_u6_0.1) (i := 25) rfl))), ip_Mc_RX11.1, ip_Mc_RX11.2, plainFor_of_name (x := ip_nm 201) ip_Mp_RX11, rfl⟩
set_option maxRecDepth 100000 in
theorem ip_mw202 : ip_Mok 202 := ⟨(ip_t6 (ip_v6_1 (List.mem_of_getElem? (l := ip_u6_1.1) (i := 7) rfl))), ip_Mc_RX11.1, ip_Mc_RX11.2, plainFor_of_name (x := ip_nm 202) ip_Mp_RX11, rfl⟩
set_option maxRecDepth 100000 in
theorem ip_mw203 : ip_Mok 203 := ⟨(ip_t6 (ip_v6_1 (List.mem_of_getElem? (l := ip_u6_1.1) (i := 11) rfl))), ip_Mc_RX11.1, ip_Mc_RX11.2, plainFor_of_name (x := ip_nm 203) ip_Mp_RX11, rfl⟩
set_option maxRecDepth 100000 in
theorem ip_mw204 : ip_Mok 204 := ⟨(ip_t6 (ip_v6_3 (List.mem_of_getElem? (l := ip_u6_3.1) (i := 8) rfl))), ip_Mc_RX11.1, ip_Mc_RX11.2, plainFor_of_name (x := ip_nm 204) ip_Mp_RX11, rfl⟩
set_option maxRecDepth 100000 in
theorem ip_mw205 : ip_Mok 205 := ⟨(ip_t6 (ip_v6_3 (List.mem_of_getElem? (l := ip_u6_3.1) (i := 27) rfl))), ip_Mc_RX11.1, ip_Mc_RX11.2, plainFor_of_name (x := ip_nm 205) ip_Mp_RX11, rfl⟩
set_option maxRecDepth 100000 in
theorem ip_mw206 : ip_Mok 206 := ⟨(ip_t6 (ip_v6_3 (List.mem_of_getElem? (l := ip_u6_3.1) (i := 19) rfl))), ip_Mc_RX11.1, ip_Mc_RX11.2, plainFor_of_name (x := ip_nm 206) ip_Mp_RX11, rfl⟩
set_option maxRecDepth 100000 in
theorem ip_mw207 : ip_Mok 207 := ⟨(ip_t6 (ip_v6_3 (List.mem_of_getElem? (l := ip_u6_3.1) (i := 15) rfl))), ip_Mc_RX11.1, ip_Mc_RX11.2, plainFor_of_name (x := ip_nm 207) ip_Mp_RX11, rfl⟩
set_option maxRecDepth 100000 in
theorem ip_mw208 : ip_Mok 208 := ⟨(ip_t6 (ip_v6_5 (List.mem_of_getElem? (l := ip_u6_5.1) (i := 27) rfl))), ip_Mc_RX11.1, ip_Mc_RX11.2, plainFor_of_name (x := ip_nm 208) ip_Mp_RX11, rfl⟩
set_option maxRecDepth 100000 in
theorem ip_mw209 : ip_Mok 209 := ⟨(ip_t6 (ip_v6_5 (List.mem_of_getElem? (l := ip_u6_5.1) (i := 11) rfl))), ip_Mc_RX11.1, ip_Mc_RX11.2, plainFor_of_name (x := ip_nm 209) ip_Mp_RX11, rfl⟩
set_option maxRecDepth 100000 in
theorem ip_mw210 : ip_Mok 210 := ⟨(ip_t6 (ip_v6_5 (List.mem_of_getElem? (l := ip_u6_5.1) (i := 3) rfl))), ip_Mc_RX11.1, ip_Mc_RX11.2, plainFor_of_name (x := ip_nm 210) ip_Mp_RX11, rfl⟩
set_option maxRecDepth 100000 in
theorem ip_mw211 : ip_Mok 211 := ⟨(ip_t6 (ip_v6_5 (List.mem_of_getElem? (l := ip_u6_5.1) (i := 7) rfl))), ip_Mc_RX11.1, ip_Mc_RX11.2, plainFor_of_name (x := ip_nm 211) ip_Mp_RX11, rfl⟩
set_option maxRecDepth 100000 in
theorem ip_mw212 : ip_Mok 212 := ⟨(ip_t6 (ip_v6_4 (List.mem_of_getElem? (l := ip_u6_4.1) (i := 31) rfl))), ip_Mc_RX11.1, ip_Mc_RX11.2, plainFor_of_name (x := ip_nm 212) ip_Mp_RX11, rfl⟩
set_option maxRecDepth 100000 in
theorem ip_mw213 : ip_Mok 213 := ⟨(ip_t6 (ip_v6_5 (List.mem_of_getElem? (l := ip_u6_5.1) (i := 23) rfl))), ip_Mc_RX11.1, ip_Mc_RX11.2, plainFor_of_name (x := ip_nm 213) ip_Mp_RX11, rfl⟩
set_option maxRecDepth 100000 in
theorem ip_mw214 : ip_Mok 214 := ⟨(ip_t6 (ip_v6_5 (List.mem_of_getElem? (l := ip_u6_5.1) (i := 19) rfl))), ip_Mc_RX11.1, ip_Mc_RX11.2, plainFor_of_name (x := ip_nm 214) ip_Mp_RX11, rfl⟩
set_option maxRecDepth 100000 in
theorem ip_mw215 : ip_Mok 215 := ⟨(ip_t6 (ip_v6_6 (List.mem_of_getElem? (l := ip_u6_6.1) (i := 12) rfl))), ip_Mc_RX11.1, ip_Mc_RX11.2, plainFor_of_name (x := ip_nm 215) ip_Mp_RX11, rfl⟩
set_option maxRecDepth 100000 in
theorem ip_mw216 : ip_Mok 216 := ⟨(ip_t6 (ip_v6_6 (List.mem_of_getElem? (l := ip_u6_6.1) (i := 7) rfl))), ip_Mc_RX11.1, ip_Mc_RX11.2, plainFor_of_name (x := ip_nm 216) ip_Mp_RX11, rfl⟩
set_option maxRecDepth 100000 in
theorem ip_mw217 : ip_Mok 217 := ⟨(ip_t6 (ip_v6_6 (List.mem_of_getElem? (l := ip_u6_6.1) (i := 3) rfl))), ip_Mc_RX11.1, ip_Mc_RX11.2, plainFor_of_name (x := ip_nm 217) ip_Mp_RX11, rfl⟩
set_option maxRecDepth 100000 in
theorem ip_mw218 : ip_Mok 218 := ⟨(ip_t6 (ip_v6_6 (List.mem_of_getElem? (l := ip_u6_6.1) (i := 16) rfl))), ip_Mc_RX11.1, ip_Mc_RX11.2, plainFor_of_name (x := ip_nm 218) ip_Mp_RX11, rfl⟩
set_option maxRecDepth 100000 in
theorem ip_mw219 : ip_Mok 219 := ⟨(ip_t6 (ip_v6_5 (List.mem_of_getElem? (l := ip_u6_5.1) (i := 31) rfl))), ip_Mc_RX11.1, ip_Mc_RX11.2, plainFor_of_name (x := ip_nm 219) ip_Mp_RX11, rfl⟩
set_option maxRecDepth 100000 in
theorem ip_mw220 : ip_Mok 220 := ⟨(ip_t6 (ip_v6_6 (List.mem_of_getElem? (l := ip_u6_6.1) (i := 20) rfl))), ip_Mc_RX11.1, ip_Mc_RX11.2, plainFor_of_name (x := ip_nm 220) ip_Mp_RX11, rfl⟩
set_option maxRecDepth 100000 in
theorem ip_mw221 : ip_Mok 221 := ⟨(ip_t6 (ip_v6_6 (List.mem_of_getElem? (l := ip_u6_6.1) (i := 28) rfl))), ip_Mc_RX11.1, ip_Mc_RX11.2, plainFor_of_name (x := ip_nm 221) ip_Mp_RX11, rfl⟩
set_option maxRecDepth 100000 in
theorem ip_mw222 : ip_Mok 222 := ⟨(ip_t6 (ip_v6_6 (List.mem_of_getElem? (l := ip_u6_6.1) (i := 24) rfl))), ip_Mc_RX11.1, ip_Mc_RX11.2, plainFor_of_name (x := ip_nm 222) ip_Mp_RX11, rfl⟩
set_option maxRecDepth 100000 in
theorem ip_mw223 : ip_Mok 223 := ⟨(ip_t6 (ip_v6_5 (List.mem_of_getElem? (l := ip_u6_5.1) (i := 15) rfl))), ip_Mc_RX11.1, ip_Mc_RX11.2, plainFor_of_name (x := ip_nm 223) ip_Mp_RX11, rfl⟩
set_option maxRecDepth 100000 in
theorem ip_mw224 : ip_Mok 224 := ⟨(ip_t6 (ip_v6_7 (List.mem_of_getElem? (l := ip_u6_7.1) (i := 0) rfl))), ip_Mc_RX11.1, ip_Mc_RX11.2, plainFor_of_name (x := ip_nm 224) ip_Mp_RX11, rfl⟩
set_option maxRecDepth 100000 in
theorem ip_mw225 : ip_Mok 225 := ⟨(ip_t6 (ip_v6_7 (List.mem_of_getElem? (l := ip_u6_7.1) (i := 4) rfl))), ip_Mc_RX11.1, ip_Mc_RX11.2, plainFor_of_name (x := ip_nm 225) ip_Mp_RX11, rfl⟩
set_option maxRecDepth 100000 in
theorem ip_mw226 : ip_Mok 226 := ⟨(ip_t6 (ip_v6_7 (List.mem_of_getElem? (l := ip_u6_7.1) (i := 12) rfl))), ip_Mc_RX11.1, ip_Mc_RX11.2, plainFor_of_name (x := ip_nm 226) ip_Mp_RX11, rfl⟩
set_option maxRecDepth 100000 in
theorem ip_mw227 : ip_Mok 227 := ⟨(ip_t6 (ip_v6_7 (List.mem_of_getElem? (l := ip_u6_7.1) (i := 8) rfl))), ip_Mc_RX11.1, ip_Mc_RX11.2, plainFor_of_name (x := ip_nm 227) ip_Mp_RX11, rfl⟩
set_option maxRecDepth 100000 in
theorem ip_mw228 : ip_Mok 228 := ⟨(ip_t7 (ip_v7_0 (List.mem_of_getElem? (l := ip_u7_0.1) (i := 0) rfl))), ip_Mc_RX11.1, ip_Mc_RX11.2, plainFor_of_name (x := ip_nm 228) ip_Mp_RX11, rfl⟩
set_option maxRecDepth 100000 in
theorem ip_mw229 : ip_Mok 229 := ⟨(ip_t7 (ip_v7_0 (List.mem_of_getElem? (l := ip_u7_0.1) (i := 16) rfl))), ip_Mc_RX11.1, ip_Mc_RX11.2, plainFor_of_name (x := ip_nm 229) ip_Mp_RX11, rfl⟩
set_option maxRecDepth 100000 in
theorem ip_mw230 : ip_Mok 230 := ⟨(ip_t7 (ip_v7_0 (List.mem_of_getElem? (l := ip_u7_0.1) (i := 12) rfl))), ip_Mc_RX11.1, ip_Mc_RX11.2, plainFor_of_name (x := ip_nm 230) ip_Mp_RX11, rfl⟩
set_option maxRecDepth 100000 in
theorem ip_mw231 : ip_Mok 231 := ⟨(ip_t7 (ip_v7_0 (List.mem_of_getElem? (l := ip_u7_0.1) (i := 24) rfl))), ip_Mc_RX11.1, ip_Mc_RX11.2, plainFor_of_name (x := ip_nm 231) ip_Mp_RX11, rfl⟩
set_option maxRecDepth 100000 in
theorem ip_mw232 : ip_Mok 232 := ⟨(ip_t7 (ip_v7_0 (List.mem_of_getElem? (l := ip_u7_0.1) (i := 20) rfl))), ip_Mc_RX11.1, ip_Mc_RX11.2, plainFor_of_name (x := ip_nm 232) ip_Mp_RX11, rfl⟩
set_option maxRecDepth 100000 in
theorem ip_mw233 : ip_Mok 233 := ⟨(ip_t7 (ip_v7_0 (List.mem_of_getElem? (l := ip_u7_0.1) (i := 8) rfl))), ip_Mc_RX11.1, ip_Mc_RX11.2, plainFor_of_name (x := ip_nm 233) ip_Mp_RX11, rfl⟩
set_option maxRecDepth 100000 in
theorem ip_mw234 : ip_Mok 234 := ⟨(ip_t7 (ip_v7_0 (List.mem_of_getElem? (l := ip_u7_0.1) (i := 4) rfl))), ip_Mc_RX11.1, ip_Mc_RX11.2, plainFor_of_name (x := ip_nm 234) ip_Mp_RX11, rfl⟩
set_option maxRecDepth 100000 in
theorem ip_mw235 : ip_Mok 235 := ⟨(ip_t7 (ip_v7_0 (List.mem_of_getElem? (l := ip_u7_0.1) (i := 28) rfl))), ip_Mc_RX11.1, ip_Mc_RX11.2, plainFor_of_name (x := ip_nm 235) ip_Mp_RX11, rfl⟩
set_option maxRecDepth 100000 in
theorem ip_mw236 : ip_Mok 236 := ⟨(ip_t7 (ip_v7_1 (List.mem_of_getElem? (l := ip_u7_1.1) (i := 0) rfl))), ip_Mc_RX11.1, ip_Mc_RX11.2, plainFor_of_name (x := ip_nm 236) ip_Mp_RX11, rfl⟩
set_option maxRecDepth 100000 in
theorem ip_mw237 : ip_Mok 237 := ⟨(ip_t7 (ip_v7_1 (List.mem_of_getElem? (l := ip_u7_1.1) (i := 5) rfl))), ip_Mc_RX11.1, ip_Mc_RX11.2, plainFor_of_name (x := ip_nm 237) ip_Mp_RX11, rfl⟩
set_option maxRecDepth 100000 in
theorem ip_mw238 : ip_Mok 238 := ⟨(ip_t7 (ip_v7_1 (List.mem_of_getElem? (l := ip_u7_1.1) (i := 10) rfl))), ip_Mc_RX11.1, ip_Mc_RX11.2, plainFor_of_name (x := ip_nm 238) ip_Mp_RX11, rfl⟩
set_option maxRecDepth 100000 in
theorem ip_mw239 : ip_Mok 239 := ⟨(ip_t7 (ip_v7_1 (List.mem_of_getElem? (l := ip_u7_1.1) (i := 14) rfl))), ip_Mc_RX11.1, ip_Mc_RX11.2, plainFor_of_name (x := ip_nm 239) ip_Mp_RX11, rfl⟩
set_option maxRecDepth 100000 in
theorem ip_mw240 : ip_Mok 240 := ⟨(ip_t7 (ip_v7_1 (List.mem_of_getElem? (l := ip_u7_1.1) (i := 18) rfl))), ip_Mc_RX11.1, ip_Mc_RX11.2, plainFor_of_name (x := ip_nm 240) ip_Mp_RX11, rfl⟩
set_option maxRecDepth 100000 in
theorem ip_mw241 : ip_Mok 241 := ⟨(ip_t7 (ip_v7_1 (List.mem_of_getElem? (l := ip_u7_1.1) (i := 22) rfl))), ip_Mc_RX11.1, ip_Mc_RX11.2, plainFor_of_name (x := ip_nm 241) ip_Mp_RX11, rfl⟩
set_option maxRecDepth 100000 in
theorem ip_mw242 : ip_Mok 242 := ⟨(ip_t7 (ip_v7_1 (List.mem_of_getElem? (l := ip_u7_1.1) (i := 26) rfl))), ip_Mc_RX11.1, ip_Mc_RX11.2, plainFor_of_name (x := ip_nm 242) ip_Mp_RX11, rfl⟩
set_option maxRecDepth 100000 in
theorem ip_mw243 : ip_Mok 243 := ⟨(ip_t7 (ip_v7_2 (List.mem_of_getElem? (l := ip_u7_2.1) (i := 2) rfl))), ip_Mc_RX11.1, ip_Mc_RX11.2, plainFor_of_name (x := ip_nm 243) ip_Mp_RX11, rfl⟩
set_option maxRecDepth 100000 in
theorem ip_mw244 : ip_Mok 244 := ⟨(ip_t7 (ip_v7_2 (List.mem_of_getElem? (l := ip_u7_2.1) (i := 5) rfl))), ip_Mc_RX11.1, ip_Mc_RX11.2, plainFor_of_name (x := ip_nm 244) ip_Mp_RX11, rfl⟩
set_option maxRecDepth 100000 in
theorem ip_mw245 : ip_Mok 245 := ⟨(ip_t7 (ip_v7_1 (List.mem_of_getElem? (l := ip_u7_1.1) (i := 30) rfl))), ip_Mc_RX11.1, ip_Mc_RX11.2, plainFor_of_name (x := ip_nm 245) ip_Mp_RX11, rfl⟩
set_option maxRecDepth 100000 in
theorem ip_mw246 : ip_Mok 246 := ⟨(ip_t7 (ip_v7_2 (List.mem_of_getElem? (l := ip_u7_2.1) (i := 13) rfl))), ip_Mc_RX11.1, ip_Mc_RX11.2, plainFor_of_name (x := ip_nm 246) ip_Mp_RX11, rfl⟩
set_option maxRecDepth 100000 in
theorem ip_mw247 : ip_Mok 247 := ⟨(ip_t7 (ip_v7_2 (List.mem_of_getElem? (l := ip_u7_2.1) (i := 20) rfl))), ip_Mc_RX11.1, ip_Mc_RX11.2, plainFor_of_name (x := ip_nm 247) ip_Mp_RX11, rfl⟩
set_option maxRecDepth 100000 in
theorem ip_mw248 : ip_Mok 248 := ⟨(ip_t7 (ip_v7_2 (List.mem_of_getElem? (l := ip_u7_2.1) (i := 17) rfl))), ip_Mc_RX11.1, ip_Mc_RX11.2, plainFor_of_name (x := ip_nm 248) ip_Mp_RX11, rfl⟩
set_option maxRecDepth 100000 in
theorem ip_mw249 : ip_Mok 249 := ⟨(ip_t7 (ip_v7_2 (List.mem_of_getElem? (l := ip_u7_2.1) (i := 9) rfl))), ip_Mc_RX11.1, ip_Mc_RX11.2, plainFor_of_name (x := ip_nm 249) ip_Mp_RX11, rfl⟩
set_option maxRecDepth 100000 in
theorem ip_mw250 : ip_Mok 250 := ⟨(ip_t7 (ip_v7_2 (List.mem_of_getElem? (l := ip_u7_2.1) (i := 24) rfl))), ip_Mc_RX11.1, ip_Mc_RX11.2, plainFor_of_name (x := ip_nm 250) ip_Mp_RX11, rfl⟩
set_option maxRecDepth 100000 in
theorem ip_mw251 : ip_Mok 251 := ⟨(ip_t7 (ip_v7_3 (List.mem_of_getElem? (l := ip_u7_3.1) (i := 0) rfl))), ip_Mc_RX11.1, ip_Mc_RX11.2, plainFor_of_name (x := ip_nm 251) ip_Mp_RX11, rfl⟩
set_option maxRecDepth 100000 in
theorem ip_mw252 : ip_Mok 252 := ⟨(ip_t7 (ip_v7_3 (List.mem_of_getElem? (l := ip_u7_3.1) (i := 5) rfl))), ip_Mc_RX11.1, ip_Mc_RX11.2, plainFor_of_name (x := ip_nm 252) ip_Mp_RX11, rfl⟩
set_option maxRecDepth 100000 in
theorem ip_mw253 : ip_Mok 253 := ⟨(ip_t7 (ip_v7_2 (List.mem_of_getElem? (l := ip_u7_2.1) (i := 28) rfl))), ip_Mc_RX11.1, ip_Mc_RX11.2, plainFor_of_name (x := ip_nm 253) ip_Mp_RX11, rfl⟩
set_option maxRecDepth 100000 in
theorem ip_mw254 : ip_Mok 254 := ⟨(ip_t7 (ip_v7_3 (List.mem_of_getElem? (l := ip_u7_3.1) (i := 9) rfl))), ip_Mc_RX11.1, ip_Mc_RX11.2, plainFor_of_name (x := ip_nm 254) ip_Mp_RX11, rfl⟩
set_option maxRecDepth 100000 in
theorem ip_mw255 : ip_Mok 255 := ⟨(ip_t7 (ip_v7_3 (List.mem_of_getElem? (l := ip_u7_3.1) (i := 17) rfl))), ip_Mc_RX11.1, ip_Mc_RX11.2, plainFor_of_name (x := ip_nm 255) ip_Mp_RX11, rfl⟩
set_option maxRecDepth 100000 in
theorem ip_mw256 : ip_Mok 256 := ⟨(ip_t7 (ip_v7_3 (List.mem_of_getElem? (l := ip_u7_3.1) (i := 13) rfl))), ip_Mc_RX11.1, ip_Mc_RX11.2, plainFor_of_name (x := ip_nm 256) ip_Mp_RX11, rfl⟩
set_option maxRecDepth 100000 in
theorem ip_mw257 : ip_Mok 257 := ⟨(ip_t7 (ip_v7_3 (List.mem_of_getElem? (l := ip_u7_3.1) (i := 25) rfl))), ip_Mc_RX11.1, ip_Mc_RX11.2, plainFor_of_name (x := ip_nm 257) ip_Mp_RX11, rfl⟩
set_option maxRecDepth 100000 in
theorem ip_mw258 : ip_Mok 258 := ⟨(ip_t7 (ip_v7_3 (List.mem_of_getElem? (l := ip_u7_3.1) (i := 30) rfl))), ip_Mc_RX11.1, ip_Mc_RX11.2, plainFor_of_name (x := ip_nm 258) ip_Mp_RX11, rfl⟩
set_option maxRecDepth 100000 in
theorem ip_mw259 : ip_Mok 259 := ⟨(ip_t7 (ip_v7_3 (List.mem_of_getElem? (l := ip_u7_3.1) (i := 21) rfl))), ip_Mc_RX11.1, ip_Mc_RX11.2, plainFor_of_name (x := ip_nm 259) ip_Mp_RX11, rfl⟩
set_option maxRecDepth 100000 in
theorem ip_mw260 : ip_Mok 260 := ⟨(ip_t7 (ip_v7_4 (List.mem_of_getElem? (l := ip_u7_4.1) (i := 6) rfl))), ip_Mc_RX11.1, ip_Mc_RX11.2, plainFor_of_name (x := ip_nm 260) ip_Mp_RX11, rfl⟩
set_option maxRecDepth 100000 in
theorem ip_mw261 : ip_Mok 261 := ⟨(ip_t7 (ip_v7_4 (List.mem_of_getElem? (l := ip_u7_4.1) (i := 2) rfl))), ip_Mc_RX11.1, ip_Mc_RX11.2, plainFor_of_name (x := ip_nm 261) ip_Mp_RX11, rfl⟩
set_option maxRecDepth 100000 in
theorem ip_mw262 : ip_Mok 262 := ⟨(ip_t7 (ip_v7_4 (List.mem_of_getElem? (l := ip_u7_4.1) (i := 18) rfl))), ip_Mc_RX11.1, ip_Mc_RX11.2, plainFor_of_name (x := ip_nm 262) ip_Mp_RX11, rfl⟩
set_option maxRecDepth 100000 in
theorem ip_mw263 : ip_Mok 263 := ⟨(ip_t7 (ip_v7_4 (List.mem_of_getElem? (l := ip_u7_4.1) (i := 22) rfl))), ip_Mc_RX11.1, ip_Mc_RX11.2, plainFor_of_name (x := ip_nm 263) ip_Mp_RX11, rfl⟩
set_option maxRecDepth 100000 in
theorem ip_mw264 : ip_Mok 264 := ⟨(ip_t7 (ip_v7_4 (List.mem_of_getElem? (l := ip_u7_4.1) (i := 14) rfl))), ip_Mc_RX11.1, ip_Mc_RX11.2, plainFor_of_name (x := ip_nm 264) ip_Mp_RX11, rfl⟩
set_option maxRecDepth 100000 in
theorem ip_mw265 : ip_Mok 265 := ⟨(ip_t7 (ip_v7_4 (List.mem_of_getElem? (l := ip_u7_4.1) (i := 10) rfl))), ip_Mc_RX11.1, ip_Mc_RX11.2, plainFor_of_name (x := ip_nm 265) ip_Mp_RX11, rfl⟩
set_option maxRecDepth 100000 in
theorem ip_mw266 : ip_Mok 266 := ⟨(ip_t7 (ip_v7_5 (List.mem_of_getElem? (l := ip_u7_5.1) (i := 3) rfl))), ip_Mc_RX11.1, ip_Mc_RX11.2, plainFor_of_name (x := ip_nm 266) ip_Mp_RX11, rfl⟩
set_option maxRecDepth 100000 in
theorem ip_mw267 : ip_Mok 267 := ⟨(ip_t7 (ip_v7_4 (List.mem_of_getElem? (l := ip_u7_4.1) (i := 30) rfl))), ip_Mc_RX11.1, ip_Mc_RX11.2, plainFor_of_name (x := ip_nm 267) ip_Mp_RX11, rfl⟩
set_option maxRecDepth 100000 in
theorem ip_mw268 : ip_Mok 268 := ⟨(ip_t7 (ip_v7_4 (List.mem_of_getElem? (l := ip_u7_4.1) (i := 26) rfl))), ip_Mc_RX11.1, ip_Mc_RX11.2, plainFor_of_name (x := ip_nm 268) ip_Mp_RX11, rfl⟩
set_option maxRecDepth 100000 in
theorem ip_mw269 : ip_Mok 269 := ⟨(ip_t7 (ip_v7_5 (List.mem_of_getElem? (l := ip_u7_5.1) (i := 11) rfl))), ip_Mc_RX11.1, ip_Mc_RX11.2, plainFor_of_name (x := ip_nm 269) ip_Mp_RX11, rfl⟩
set_option maxRecDepth 100000 in
theorem ip_mw270 : ip_Mok 270 := ⟨(ip_t7 (ip_v7_5 (List.mem_of_getElem? (l := ip_u7_5.1) (i := 7) rfl))), ip_Mc_RX11.1, ip_Mc_RX11.2, plainFor_of_name (x := ip_nm 270) ip_Mp_RX11, rfl⟩
set_option maxRecDepth 100000 in
theorem ip_mw271 : ip_Mok 271 := ⟨(ip_t7 (ip_v7_5 (List.mem_of_getElem? (l := ip_u7_5.1) (i := 19) rfl))), ip_Mc_RX11.1, ip_Mc_RX11.2, plainFor_of_name (x := ip_nm 271) ip_Mp_RX11, rfl⟩
set_option maxRecDepth 100000 in
theorem ip_mw272 : ip_Mok 272 := ⟨(ip_t7 (ip_v7_5 (List.mem_of_getElem? (l := ip_u7_5.1) (i := 15) rfl))), ip_Mc_RX11.1, ip_Mc_RX11.2, plainFor_of_name (x := ip_nm 272) ip_Mp_RX11, rfl⟩
set_option maxRecDepth 100000 in
theorem ip_mw273 : ip_Mok 273 := ⟨(ip_t7 (ip_v7_5 (List.mem_of_getElem? (l := ip_u7_5.1) (i := 26) rfl))), ip_Mc_RX11.1, ip_Mc_RX11.2, plainFor_of_name (x := ip_nm 273) ip_Mp_RX11, rfl⟩
set_option maxRecDepth 100000 in
theorem ip_mw274 : ip_Mok 274 := ⟨(ip_t7 (ip_v7_5 (List.mem_of_getElem? (l := ip_u7_5.1) (i := 23) rfl))), ip_Mc_RX11.1, ip_Mc_RX11.2, plainFor_of_name (x := ip_nm 274) ip_Mp_RX11, rfl⟩
set_option maxRecDepth 100000 in
theorem ip_mw275 : ip_Mok 275 := ⟨(ip_t7 (ip_v7_5 (List.mem_of_getElem? (l := ip_u7_5.1) (i := 30) rfl))), ip_Mc_RX11.1, ip_Mc_RX11.2, plainFor_of_name (x := ip_nm 275) ip_Mp_RX11, rfl⟩
set_option maxRecDepth 100000 in
theorem ip_mw276 : ip_Mok 276 := ⟨(ip_t7 (ip_v7_6 (List.mem_of_getElem? (l := ip_u7_6.1) (i := 2) rfl))), ip_Mc_RX11.1, ip_Mc_RX11.2, plainFor_of_name (x := ip_nm 276) ip_Mp_RX11, rfl⟩
set_option maxRecDepth 100000 in
theorem ip_mw277 : ip_Mok 277 := ⟨(ip_t7 (ip_v7_6 (List.mem_of_getElem? (l := ip_u7_6.1) (i := 10) rfl))), ip_Mc_RX11.1, ip_Mc_RX11.2, plainFor_of_name (x := ip_nm 277) ip_Mp_RX11, rfl⟩
set_option maxRecDepth 100000 in
theorem ip_mw278 : ip_Mok 278 := ⟨(ip_t7 (ip_v7_6 (List.mem_of_getElem? (l := ip_u7_6.1) (i := 14) rfl))), ip_Mc_RX11.1, ip_Mc_RX11.2, plainFor_of_name (x := ip_nm 278) ip_Mp_RX11, rfl⟩
set_option maxRecDepth 100000 in
theorem ip_mw279 : ip_Mok 279 := ⟨(ip_t7 (ip_v7_6 (List.mem_of_getElem? (l := ip_u7_6.1) (i := 6) rfl))), ip_Mc_RX11.1, ip_Mc_RX11.2, plainFor_of_name (x := ip_nm 279) ip_Mp_RX11, rfl⟩
set_option maxRecDepth 100000 in
theorem ip_mw280 : ip_Mok 280 := ⟨(ip_t7 (ip_v7_7 (List.mem_of_getElem? (l := ip_u7_7.1) (i := 3) rfl))), ip_Mc_RX11.1, ip_Mc_RX11.2, plainFor_of_name (x := ip_nm 280) ip_Mp_RX11, rfl⟩
set_option maxRecDepth 100000 in
theorem ip_mw281 : ip_Mok 281 := ⟨(ip_t7 (ip_v7_6 (List.mem_of_getElem? (l := ip_u7_6.1) (i := 31) rfl))), ip_Mc_RX11.1, ip_Mc_RX11.2, plainFor_of_name (x := ip_nm 281) ip_Mp_RX11, rfl⟩
set_option maxRecDepth 100000 in
theorem ip_mw282 : ip_Mok 282 := ⟨(ip_t7 (ip_v7_6 (List.mem_of_getElem? (l := ip_u7_6.1) (i := 22) rfl))), ip_Mc_RX11.1, ip_Mc_RX11.2, plainFor_of_name (x := ip_nm 282) ip_Mp_RX11, rfl⟩
set_option maxRecDepth 100000 in
theorem ip_mw283 : ip_Mok 283 := ⟨(ip_t7 (ip_v7_6 (List.mem_of_getElem? (l := ip_u7_6.1) (i := 27) rfl))), ip_Mc_RX11.1, ip_Mc_RX11.2, plainFor_of_name (x := ip_nm 283) ip_Mp_RX11, rfl⟩
set_option maxRecDepth 100000 in
theorem ip_mw284 : ip_Mok 284 := ⟨(ip_t7 (ip_v7_6 (List.mem_of_getElem? (l := ip_u7_6.1) (i := 18) rfl))), ip_Mc_RX11.1, ip_Mc_RX11.2, plainFor_of_name (x := ip_nm 284) ip_Mp_RX11, rfl⟩
set_option maxRecDepth 100000 in
theorem ip_mw285 : ip_Mok 285 := ⟨(ip_t7 (ip_v7_7 (List.mem_of_getElem? (l := ip_u7_7.1) (i := 7) rfl))), ip_Mc_RX11.1, ip_Mc_RX11.2, plainFor_of_name (x := ip_nm 285) ip_Mp_RX11, rfl⟩
set_option maxRecDepth 100000 in
theorem ip_mw286 : ip_Mok 286 := ⟨(ip_t7 (ip_v7_7 (List.mem_of_getElem? (l := ip_u7_7.1) (i := 15) rfl))), ip_Mc_RX11.1, ip_Mc_RX11.2, plainFor_of_name (x := ip_nm 286) ip_Mp_RX11, rfl⟩
set_option maxRecDepth 100000 in
theorem ip_mw287 : ip_Mok 287 := ⟨(ip_t7 (ip_v7_7 (List.mem_of_getElem? (l := ip_u7_7.1) (i := 11) rfl))), ip_Mc_RX11.1, ip_Mc_RX11.2, plainFor_of_name (x := ip_nm 287) ip_Mp_RX11, rfl⟩
set_option maxRecDepth 100000 in
theorem ip_mw288 : ip_Mok 288 := ⟨(ip_t8 (ip_v8_0 (List.mem_of_getElem? (l := ip_u8_0.1) (i := 3) rfl))), ip_Mc_RX11.1, ip_Mc_RX11.2, plainFor_of_name (x := ip_nm 288) ip_Mp_RX11, rfl⟩
set_option maxRecDepth 100000 in
theorem ip_mw289 : ip_Mok 289 := ⟨(ip_t8 (ip_v8_0 (List.mem_of_getElem? (l := ip_u8_0.1) (i := 7) rfl))), ip_Mc_RX11.1, ip_Mc_RX11.2, plainFor_of_name (x := ip_nm 289) ip_Mp_RX11, rfl⟩
set_option maxRecDepth 100000 in
theorem ip_mw290 : ip_Mok 290 := ⟨(ip_t4 (ip_v4_7 (List.mem_of_getElem? (l := ip_u4_7.1) (i := 10) rfl))), ip_Mc_RJ9.1, ip_Mc_RJ9.2, ip_pand1 (ip_pf), rfl⟩
set_option maxRecDepth 100000 in
theorem ip_mw291 : ip_Mok 291 := ⟨(ip_t2 (ip_v2_4 (List.mem_of_getElem? (l := ip_u2_4.1) (i := 10) rfl))), ip_Mc_RJ9.1, ip_Mc_RJ9.2, ip_pand1 (ip_pand2 (ip_pf)), rfl⟩
set_option maxRecDepth 100000 in
theorem ip_mw292 : ip_Mok 292 := ⟨(ip_t4 (ip_v4_7 (List.mem_of_getElem? (l := ip_u4_7.1) (i := 13) rfl))), ip_Mc_RJ9.1, ip_Mc_RJ9.2, ip_pand1 (ip_pand2 (ip_pand2 (ip_pf))), rfl⟩
set_option maxRecDepth 100000 in
theorem ip_mw293 : ip_Mok 293 := ⟨(ip_t5 (ip_v5_0 (List.mem_of_getElem? (l := ip_u5_0.1) (i := 27) rfl))), ip_Mc_RJ9.1, ip_Mc_RJ9.2, ip_pand1 (ip_pand2 (ip_pand2 (ip_pand2 (ip_pf)))), rfl⟩
set_option maxRecDepth 100000 in
theorem ip_mw294 : ip_Mok 294 := ⟨(ip_t3 (ip_v3_7 (List.mem_of_getElem? (l := ip_u3_7.1) (i := 6) rfl))), ip_Mc_RJ9.1, ip_Mc_RJ9.2, ip_pand2 (ip_pand2 (ip_pand2 (ip_pand2 (ip_pf)))), rfl⟩
theorem ip_Ma0 : ∀ c, c < 0 → ip_Mok c := fun c h => absurd h (Nat.not_lt_zero c)
theorem ip_Ma1 : ∀ c, c < 1 → ip_Mok c := fun c h => (Nat.lt_or_eq_of_le (Nat.le_of_lt_succ h)).elim (ip_Ma0 c) (fun e => e ▸ ip_mw0)
theorem ip_Ma2 : ∀ c, c < 2 → ip_Mok c := fun c h => (Nat.lt_or_eq_of_le (Nat.le_of_lt_succ h)).elim (ip_Ma1 c) (fun e => e ▸ ip_mw1)
theorem ip_Ma3 : ∀ c, c < 3 → ip_Mok c := fun c h => (Nat.lt_or_eq_of_le (Nat.le_of_lt_succ h)).elim (ip_Ma2 c) (fun e => e ▸ ip_mw2)
theorem ip_Ma4 : ∀ c, c < 4 → ip_Mok c := fun c h => (Nat.lt_or_eq_of_le (Nat.le_of_lt_succ h)).elim (ip_Ma3 c) (fun e => e ▸ ip_mw3)
theorem ip_Ma5 : ∀ c, c < 5 → ip_Mok c := fun c h => (Nat.lt_or_eq_of_le (Nat.le_of_lt_succ h)).elim (ip_Ma4 c) (fun e => e ▸ ip_mw4)
theorem ip_Ma6 : ∀ c, c < 6 → ip_Mok c := fun c h => (Nat.lt_or_eq_of_le (Nat.le_of_lt_succ h)).elim (ip_Ma5 c) (fun e => e ▸ ip_mw5)
theorem ip_Ma7 : ∀ c, c < 7 → ip_Mok c := fun c h => (Nat.lt_or_eq_of_le (Nat.le_of_lt_succ h)).elim (ip_Ma6 c) (fun e => e ▸ ip_mw6)
theorem ip_Ma8 : ∀ c, c < 8 → ip_Mok c := fun c h => (Nat.lt_or_eq_of_le (Nat.le_of_lt_succ h)).elim (ip_Ma7 c) (fun e => e ▸ ip_mw7)
theorem ip_Ma9 : ∀ c, c < 9 → ip_Mok c := fun c h => (Nat.lt_or_eq_of_le (Nat.le_of_lt_succ h)).elim (ip_Ma8 c) (fun e => e ▸ ip_mw8)
theorem ip_Ma10 : ∀ c, c < 10 → ip_Mok c := fun c h => (Nat.lt_or_eq_of_le (Nat.le_of_lt_succ h)).elim (ip_Ma9 c) (fun e => e ▸ ip_mw9)
theorem ip_Ma11 : ∀ c, c < 11 → ip_Mok c := fun c h => (Nat.lt_or_eq_of_le (Nat.le_of_lt_succ h)).elim (ip_Ma10 c) (fun e => e ▸ ip_mw10)
theorem ip_Ma12 : ∀ c, c < 12 → ip_Mok c := fun c h => (Nat.lt_or_eq_of_le (Nat.le_of_lt_succ h)).elim (ip_Ma11 c) (fun e => e ▸ ip_mw11)
theorem ip_Ma13 : ∀ c, c < 13 → ip_Mok c := fun c h => (Nat.lt_or_eq_of_le (Nat.le_of_lt_succ h)).elim (ip_Ma12 c) (fun e => e ▸ ip_mw12)
theorem ip_Ma14 : ∀ c, c < 14 → ip_Mok c := fun c h => (Nat.lt_or_eq_of_le (Nat.le_of_lt_succ h)).elim (ip_Ma13 c) (fun e => e ▸ ip_mw13)
theorem ip_Ma15 : ∀ c, c < 15 → ip_Mok c := fun c h => (Nat.lt_or_eq_of_le (Nat.le_of_lt_succ h)).elim (ip_Ma14 c) (fun e => e ▸ ip_mw14)
theorem ip_Ma16 : ∀ c, c < 16 → ip_Mok c := fun c h => (Nat.lt_or_eq_of_le (Nat.le_of_lt_succ h)).elim (ip_Ma15 c) (fun e => e ▸ ip_mw15)
theorem ip_Ma17 : ∀ c, c < 17 → ip_Mok c := fun c h => (Nat.lt_or_eq_of_le (Nat.le_of_lt_succ h)).elim (ip_Ma16 c) (fun e => e ▸ ip_mw16)
theorem ip_Ma18 : ∀ c, c < 18 → ip_Mok c := fun c h => (Nat.lt_or_eq_of_le (Nat.le_of_lt_succ h)).elim (ip_Ma17 c) (fun e => e ▸ ip_mw17)
theorem ip_Ma19 : ∀ c, c < 19 → ip_Mok c := fun c h => (Nat.lt_or_eq_of_le (Nat.le_of_lt_succ h)).elim (ip_Ma18 c) (fun e => e ▸ ip_mw18)
theorem ip_Ma20 : ∀ c, c < 20 → ip_Mok c := fun c h => (Nat.lt_or_eq_of_le (Nat.le_of_lt_succ h)).elim (ip_Ma19 c) (fun e => e ▸ ip_mw19)
theorem ip_Ma21 : ∀ c, c < 21 → ip_Mok c := fun c h => (Nat.lt_or_eq_of_le (Nat.le_of_lt_succ h)).elim (ip_Ma20 c) (fun e => e ▸ ip_mw20)
theorem ip_Ma22 : ∀ c, c < 22 → ip_Mok c := fun c h => (Nat.lt_or_eq_of_le (Nat.le_of_lt_succ h)).elim (ip_Ma21 c) (fun e => e ▸ ip_mw21)
theorem ip_Ma23 : ∀ c, c < 23 → ip_Mok c := fun c h => (Nat.lt_or_eq_of_le (Nat.le_of_lt_succ h)).elim (ip_Ma22 c) (fun e => e ▸ ip_mw22)
theorem ip_Ma24 : ∀ c, c < 24 → ip_Mok c := fun c h => (Nat.lt_or_eq_of_le (Nat.le_of_lt_succ h)).elim (ip_Ma23 c) (fun e => e ▸ ip_mw23)
theorem ip_Ma25 : ∀ c, c < 25 → ip_Mok c := fun c h => (Nat.lt_or_eq_of_le (Nat.le_of_lt_succ h)).elim (ip_Ma24 c) (fun e => e ▸ ip_mw24)
theorem ip_Ma26 : ∀ c, c < 26 → ip_Mok c := fun c h => (Nat.lt_or_eq_of_le (Nat.le_of_lt_succ h)).elim (ip_Ma25 c) (fun e => e ▸ ip_mw25)
theorem ip_Ma27 : ∀ c, c < 27 → ip_Mok c := fun c h => (Nat.lt_or_eq_of_le (Nat.le_of_lt_succ h)).elim (ip_Ma26 c) (fun e => e ▸ ip_mw26)
theorem ip_Ma28 : ∀ c, c < 28 → ip_Mok c := fun c h => (Nat.lt_or_eq_of_le (Nat.le_of_lt_succ h)).elim (ip_Ma27 c) (fun e => e ▸ ip_mw27)
theorem ip_Ma29 : ∀ c, c < 29 → ip_Mok c := fun c h => (Nat.lt_or_eq_of_le (Nat.le_of_lt_succ h)).elim (ip_Ma28 c) (fun e => e ▸ ip_mw28)
theorem ip_Ma30 : ∀ c, c < 30 → ip_Mok c := fun c h => (Nat.lt_or_eq_of_le (Nat.le_of_lt_succ h)).elim (ip_Ma29 c) (fun e => e ▸ ip_mw29)
theorem ip_Ma31 : ∀ c, c < 31 → ip_Mok c := fun c h => (Nat.lt_or_eq_of_le (Nat.le_of_lt_succ h)).elim (ip_Ma30 c) (fun e => e ▸ ip_mw30)
theorem ip_Ma32 : ∀ c, c < 32 → ip_Mok c := fun c h => (Nat.lt_or_eq_of_le (Nat.le_of_lt_succ h)).elim (ip_Ma31 c) (fun e => e ▸ ip_mw31)
theorem ip_Ma33 : ∀ c, c < 33 → ip_Mok c := fun c h => (Nat.lt_or_eq_of_le (Nat.le_of_lt_succ h)).elim (ip_Ma32 c) (fun e => e ▸ ip_mw32)
theorem ip_Ma34 : ∀ c, c < 34 → ip_Mok c := fun c h => (Nat.lt_or_eq_of_le (Nat.le_of_lt_succ h)).elim (ip_Ma33 c) (fun e => e ▸ ip_mw33)
theorem ip_Ma35 : ∀ c, c < 35 → ip_Mok c := fun c h => (Nat.lt_or_eq_of_le (Nat.le_of_lt_succ h)).elim (ip_Ma34 c) (fun e => e ▸ ip_mw34)
theorem ip_Ma36 : ∀ c, c < 36 → ip_Mok c := fun c h => (Nat.lt_or_eq_of_le (Nat.le_of_lt_succ h)).elim (ip_Ma35 c) (fun e => e ▸ ip_mw35)
theorem ip_Ma37 : ∀ c, c < 37 → ip_Mok c := fun c h => (Nat.lt_or_eq_of_le (Nat.le_of_lt_succ h)).elim (ip_Ma36 c) (fun e => e ▸ ip_mw36)
theorem ip_Ma38 : ∀ c, c < 38 → ip_Mok c := fun c h => (Nat.lt_or_eq_of_le (Nat.le_of_lt_succ h)).elim (ip_Ma37 c) (fun e => e ▸ ip_mw37)
theorem ip_Ma39 : ∀ c, c < 39 → ip_Mok c := fun c h => (Nat.lt_or_eq_of_le (Nat.le_of_lt_succ h)).elim (ip_Ma38 c) (fun e => e ▸ ip_mw38)
theorem ip_Ma40 : ∀ c, c < 40 → ip_Mok c := fun c h => (Nat.lt_or_eq_of_le (Nat.le_of_lt_succ h)).elim (ip_Ma39 c) (fun e => e ▸ ip_mw39)
theorem ip_Ma41 : ∀ c, c < 41 → ip_Mok c := fun c h => (Nat.lt_or_eq_of_le (Nat.le_of_lt_succ h)).elim (ip_Ma40 c) (fun e => e ▸ ip_mw40)
theorem ip_Ma42 : ∀ c, c < 42 → ip_Mok c := fun c h => (Nat.lt_or_eq_of_le (Nat.le_of_lt_succ h)).elim (ip_Ma41 c) (fun e => e ▸ ip_mw41)
theorem ip_Ma43 : ∀ c, c < 43 → ip_Mok c := fun c h => (Nat.lt_or_eq_of_le (Nat.le_of_lt_succ h)).elim (ip_Ma42 c) (fun e => e ▸ ip_mw42)
theorem ip_Ma44 : ∀ c, c < 44 → ip_Mok c := fun c h => (Nat.lt_or_eq_of_le (Nat.le_of_lt_succ h)).elim (ip_Ma43 c) (fun e => e ▸ ip_mw43)
theorem ip_Ma45 : ∀ c, c < 45 → ip_Mok c := fun c h => (Nat.lt_or_eq_of_le (Nat.le_of_lt_succ h)).elim (ip_Ma44 c) (fun e => e ▸ ip_mw44)
theorem ip_Ma46 : ∀ c, c < 46 → ip_Mok c := fun c h => (Nat.lt_or_eq_of_le (Nat.le_of_lt_succ h)).elim (ip_Ma45 c) (fun e => e ▸ ip_mw45)
theorem ip_Ma47 : ∀ c, c < 47 → ip_Mok c := fun c h => (Nat.lt_or_eq_of_le (Nat.le_of_lt_succ h)).elim (ip_Ma46 c) (fun e => e ▸ ip_mw46)
theorem ip_Ma48 : ∀ c, c < 48 → ip_Mok c := fun c h => (Nat.lt_or_eq_of_le (Nat.le_of_lt_succ h)).elim (ip_Ma47 c) (fun e => e ▸ ip_mw47)
theorem ip_Ma49 : ∀ c, c < 49 → ip_Mok c := fun c h => (Nat.lt_or_eq_of_le (Nat.le_of_lt_succ h)).elim (ip_Ma48 c) (fun e => e ▸ ip_mw48)
theorem ip_Ma50 : ∀ c, c < 50 → ip_Mok c := fun c h => (Nat.lt_or_eq_of_le (Nat.le_of_lt_succ h)).elim (ip_Ma49 c) (fun e => e ▸ ip_mw49)
theorem ip_Ma51 : ∀ c, c < 51 → ip_Mok c := fun c h => (Nat.lt_or_eq_of_le (Nat.le_of_lt_succ h)).elim (ip_Ma50 c) (fun e => e ▸ ip_mw50)
theorem ip_Ma52 : ∀ c, c < 52 → ip_Mok c := fun c h => (Nat.lt_or_eq_of_le (Nat.le_of_lt_succ h)).elim (ip_Ma51 c) (fun e => e ▸ ip_mw51)
theorem ip_Ma53 : ∀ c, c < 53 → ip_Mok c := fun c h => (Nat.lt_or_eq_of_le (Nat.le_of_lt_succ h)).elim (ip_Ma52 c) (fun e => e ▸ ip_mw52)
theorem ip_Ma54 : ∀ c, c < 54 → ip_Mok c := fun c h => (Nat.lt_or_eq_of_le (Nat.le_of_lt_succ h)).elim (ip_Ma53 c) (fun e => e ▸ ip_mw53)
theorem ip_Ma55 : ∀ c, c < 55 → ip_Mok c := fun c h => (Nat.lt_or_eq_of_le (Nat.le_of_lt_succ h)).elim (ip_Ma54 c) (fun e => e ▸ ip_mw54)
theorem ip_Ma56 : ∀ c, c < 56 → ip_Mok c := fun c h => (Nat.lt_or_eq_of_le (Nat.le_of_lt_succ h)).elim (ip_Ma55 c) (fun e => e ▸ ip_mw55)
theorem ip_Ma57 : ∀ c, c < 57 → ip_Mok c := fun c h => (Nat.lt_or_eq_of_le (Nat.le_of_lt_succ h)).elim (ip_Ma56 c) (fun e => e ▸ ip_mw56)
theorem ip_Ma58 : ∀ c, c < 58 → ip_Mok c := fun c h => (Nat.lt_or_eq_of_le (Nat.le_of_lt_succ h)).elim (ip_Ma57 c) (fun e => e ▸ ip_mw57)
theorem ip_Ma59 : ∀ c, c < 59 → ip_Mok c := fun c h => (Nat.lt_or_eq_of_le (Nat.le_of_lt_succ h)).elim (ip_Ma58 c) (fun e => e ▸ ip_mw58)
theorem ip_Ma60 : ∀ c, c < 60 → ip_Mok c := fun c h => (Nat.lt_or_eq_of_le (Nat.le_of_lt_succ h)).elim (ip_Ma59 c) (fun e => e ▸ ip_mw59)
theorem ip_Ma61 : ∀ c, c < 61 → ip_Mok c := fun c h => (Nat.lt_or_eq_of_le (Nat.le_of_lt_succ h)).elim (ip_Ma60 c) (fun e => e ▸ ip_mw60)
theorem ip_Ma62 : ∀ c, c < 62 → ip_Mok c := fun c h => (Nat.lt_or_eq_of_le (Nat.le_of_lt_succ h)).elim (ip_Ma61 c) (fun e => e ▸ ip_mw61)
theorem ip_Ma63 : ∀ c, c < 63 → ip_Mok c := fun c h => (Nat.lt_or_eq_of_le (Nat.le_of_lt_succ h)).elim (ip_Ma62 c) (fun e => e ▸ ip_mw62)
theorem ip_Ma64 : ∀ c, c < 64 → ip_Mok c := fun c h => (Nat.lt_or_eq_of_le (Nat.le_of_lt_succ h)).elim (ip_Ma63 c) (fun e => e ▸ ip_mw63)
theorem ip_Ma65 : ∀ c, c < 65 → ip_Mok c := fun c h => (Nat.lt_or_eq_of_le (Nat.le_of_lt_succ h)).elim (ip_Ma64 c) (fun e => e ▸ ip_mw64)
theorem ip_Ma66 : ∀ c, c < 66 → ip_Mok c := fun c h => (Nat.lt_or_eq_of_le (Nat.le_of_lt_succ h)).elim (ip_Ma65 c) (fun e => e ▸ ip_mw65)
theorem ip_Ma67 : ∀ c, c < 67 → ip_Mok c := fun c h => (Nat.lt_or_eq_of_le (Nat.le_of_lt_succ h)).elim (ip_Ma66 c) (fun e => e ▸ ip_mw66)
theorem ip_Ma68 : ∀ c, c < 68 → ip_Mok c := fun c h => (Nat.lt_or_eq_of_le (Nat.le_of_lt_succ h)).elim (ip_Ma67 c) (fun e => e ▸ ip_mw67)
theorem ip_Ma69 : ∀ c, c < 69 → ip_Mok c := fun c h => (Nat.lt_or_eq_of_le (Nat.le_of_lt_succ h)).elim (ip_Ma68 c) (fun e => e ▸ ip_mw68)
theorem ip_Ma70 : ∀ c, c < 70 → ip_Mok c := fun c h => (Nat.lt_or_eq_of_le (Nat.le_of_lt_succ h)).elim (ip_Ma69 c) (fun e => e ▸ ip_mw69)
theorem ip_Ma71 : ∀ c, c < 71 → ip_Mok c := fun c h => (Nat.lt_or_eq_of_le (Nat.le_of_lt_succ h)).elim (ip_Ma70 c) (fun e => e ▸ ip_mw70)
theorem ip_Ma72 : ∀ c, c < 72 → ip_Mok c := fun c h => (Nat.lt_or_eq_of_le (Nat.le_of_lt_succ h)).elim (ip_Ma71 c) (fun e => e ▸ ip_mw71)
theorem ip_Ma73 : ∀ c, c < 73 → ip_Mok c := fun c h => (Nat.lt_or_eq_of_le (Nat.le_of_lt_succ h)).elim (ip_Ma72 c) (fun e => e ▸ ip_mw72)
theorem ip_Ma74 : ∀ c, c < 74 → ip_Mok c := fun c h => (Nat.lt_or_eq_of_le (Nat.le_of_lt_succ h)).elim (ip_Ma73 c) (fun e => e ▸ ip_mw73)
theorem ip_Ma75 : ∀ c, c < 75 → ip_Mok c := fun c h => (Nat.lt_or_eq_of_le (Nat.le_of_lt_succ h)).elim (ip_Ma74 c) (fun e => e ▸ ip_mw74)
theorem ip_Ma76 : ∀ c, c < 76 → ip_Mok c := fun c h => (Nat.lt_or_eq_of_le (Nat.le_of_lt_succ h)).elim (ip_Ma75 c) (fun e => e ▸ ip_mw75)
theorem ip_Ma77 : ∀ c, c < 77 → ip_Mok c := fun c h => (Nat.lt_or_eq_of_le (Nat.le_of_lt_succ h)).elim (ip_Ma76 c) (fun e => e ▸ ip_mw76)
theorem ip_Ma78 : ∀ c, c < 78 → ip_Mok c := fun c h => (Nat.lt_or_eq_of_le (Nat.le_of_lt_succ h)).elim (ip_Ma77 c) (fun e => e ▸ ip_mw77)
theorem ip_Ma79 : ∀ c, c < 79 → ip_Mok c := fun c h => (Nat.lt_or_eq_of_le (Nat.le_of_lt_succ h)).elim (ip_Ma78 c) (fun e => e ▸ ip_mw78)
theorem ip_Ma80 : ∀ c, c < 80 → ip_Mok c := fun c h => (Nat.lt_or_eq_of_le (Nat.le_of_lt_succ h)).elim (ip_Ma79 c) (fun e => e ▸ ip_mw79)
theorem ip_Ma81 : ∀ c, c < 81 → ip_Mok c := fun c h => (Nat.lt_or_eq_of_le (Nat.le_of_lt_succ h)).elim (ip_Ma80 c) (fun e => e ▸ ip_mw80)
theorem ip_Ma82 : ∀ c, c < 82 → ip_Mok c := fun c h => (Nat.lt_or_eq_of_le (Nat.le_of_lt_succ h)).elim (ip_Ma81 c) (fun e => e ▸ ip_mw81)
theorem ip_Ma83 : ∀ c, c < 83 → ip_Mok c := fun c h => (Nat.lt_or_eq_of_le (Nat.le_of_lt_succ h)).elim (ip_Ma82 c) (fun e => e ▸ ip_mw82)
theorem ip_Ma84 : ∀ c, c < 84 → ip_Mok c := fun c h => (Nat.lt_or_eq_of_le (Nat.le_of_lt_succ h)).elim (ip_Ma83 c) (fun e => e ▸ ip_mw83)
theorem ip_Ma85 : ∀ c, c < 85 → ip_Mok c := fun c h => (Nat.lt_or_eq_of_le (Nat.le_of_lt_succ h)).elim (ip_Ma84 c) (fun e => e ▸ ip_mw84)
theorem ip_Ma86 : ∀ c, c < 86 → ip_Mok c := fun c h => (Nat.lt_or_eq_of_le (Nat.le_of_lt_succ h)).elim (ip_Ma85 c) (fun e => e ▸ ip_mw85)
theorem ip_Ma87 : ∀ c, c < 87 → ip_Mok c := fun c h => (Nat.lt_or_eq_of_le (Nat.le_of_lt_succ h)).elim (ip_Ma86 c) (fun e => e ▸ ip_mw86)
theorem ip_Ma88 : ∀ c, c < 88 → ip_Mok c := fun c h => (Nat.lt_or_eq_of_le (Nat.le_of_lt_succ h)).elim (ip_Ma87 c) (fun e => e ▸ ip_mw87)
theorem ip_Ma89 : ∀ c, c < 89 → ip_Mok c := fun c h => (Nat.lt_or_eq_of_le (Nat.le_of_lt_succ h)).elim (ip_Ma88 c) (fun e => e ▸ ip_mw88)
theorem ip_Ma90 : ∀ c, c < 90 → ip_Mok c := fun c h => (Nat.lt_or_eq_of_le (Nat.le_of_lt_succ h)).elim (ip_Ma89 c) (fun e => e ▸ ip_mw89)
theorem ip_Ma91 : ∀ c, c < 91 → ip_Mok c := fun c h => (Nat.lt_or_eq_of_le (Nat.le_of_lt_succ h)).elim (ip_Ma90 c) (fun e => e ▸ ip_mw90)
theorem ip_Ma92 : ∀ c, c < 92 → ip_Mok c := fun c h => (Nat.lt_or_eq_of_le (Nat.le_of_lt_succ h)).elim (ip_Ma91 c) (fun e => e ▸ ip_mw91)
theorem ip_Ma93 : ∀ c, c < 93 → ip_Mok c := fun c h => (Nat.lt_or_eq_of_le (Nat.le_of_lt_succ h)).elim (ip_Ma92 c) (fun e => e ▸ ip_mw92)
theorem ip_Ma94 : ∀ c, c < 94 → ip_Mok c := fun c h => (Nat.lt_or_eq_of_le (Nat.le_of_lt_succ h)).elim (ip_Ma93 c) (fun e => e ▸ ip_mw93)
theorem ip_Ma95 : ∀ c, c < 95 → ip_Mok c := fun c h => (Nat.lt_or_eq_of_le (Nat.le_of_lt_succ h)).elim (ip_Ma94 c) (fun e => e ▸ ip_mw94)
theorem ip_Ma96 : ∀ c, c < 96 → ip_Mok c := fun c h => (Nat.lt_or_eq_of_le (Nat.le_of_lt_succ h)).elim (ip_Ma95 c) (fun e => e ▸ ip_mw95)
theorem ip_Ma97 : ∀ c, c < 97 → ip_Mok c := fun c h => (Nat.lt_or_eq_of_le (Nat.le_of_lt_succ h)).elim (ip_Ma96 c) (fun e => e ▸ ip_mw96)
theorem ip_Ma98 : ∀ c, c < 98 → ip_Mok c := fun c h => (Nat.lt_or_eq_of_le (Nat.le_of_lt_succ h)).elim (ip_Ma97 c) (fun e => e ▸ ip_mw97)
theorem ip_Ma99 : ∀ c, c < 99 → ip_Mok c := fun c h => (Nat.lt_or_eq_of_le (Nat.le_of_lt_succ h)).elim (ip_Ma98 c) (fun e => e ▸ ip_mw98)
theorem ip_Ma100 : ∀ c, c < 100 → ip_Mok c := fun c h => (Nat.lt_or_eq_of_le (Nat.le_of_lt_succ h)).elim (ip_Ma99 c) (fun e => e ▸ ip_mw99)
theorem ip_Ma101 : ∀ c, c < 101 → ip_Mok c := fun c h => (Nat.lt_or_eq_of_le (Nat.le_of_lt_succ h)).elim (ip_Ma100 c) (fun e => e ▸ ip_mw100)
theorem ip_Ma102 : ∀ c, c < 102 → ip_Mok c := fun c h => (Nat.lt_or_eq_of_le (Nat.le_of_lt_succ h)).elim (ip_Ma101 c) (fun e => e ▸ ip_mw101)
theorem ip_Ma103 : ∀ c, c < 103 → ip_Mok c := fun c h => (Nat.lt_or_eq_of_le (Nat.le_of_lt_succ h)).elim (ip_Ma102 c) (fun e => e ▸ ip_mw102)
theorem ip_Ma104 : ∀ c, c < 104 → ip_Mok c := fun c h => (Nat.lt_or_eq_of_le (Nat.le_of_lt_succ h)).elim (ip_Ma103 c) (fun e => e ▸ ip_mw103)
theorem ip_Ma105 : ∀ c, c < 105 → ip_Mok c := fun c h => (Nat.lt_or_eq_of_le (Nat.le_of_lt_succ h)).elim (ip_Ma104 c) (fun e => e ▸ ip_mw104)
theorem ip_Ma106 : ∀ c, c < 106 → ip_Mok c := fun c h => (Nat.lt_or_eq_of_le (Nat.le_of_lt_succ h)).elim (ip_Ma105 c) (fun e => e ▸ ip_mw105)
theorem ip_Ma107 : ∀ c, c < 107 → ip_Mok c := fun c h => (Nat.lt_or_eq_of_le (Nat.le_of_lt_succ h)).elim (ip_Ma106 c) (fun e => e ▸ ip_mw106)
theorem ip_Ma108 : ∀ c, c < 108 → ip_Mok c := fun c h => (Nat.lt_or_eq_of_le (Nat.le_of_lt_succ h)).elim (ip_Ma107 c) (fun e => e ▸ ip_mw107)
theorem ip_Ma109 : ∀ c, c < 109 → ip_Mok c := fun c h => (Nat.lt_or_eq_of_le (Nat.le_of_lt_succ h)).elim (ip_Ma108 c) (fun e => e ▸ ip_mw108)
theorem ip_Ma110 : ∀ c, c < 110 → ip_Mok c := fun c h => (Nat.lt_or_eq_of_le (Nat.le_of_lt_succ h)).elim (ip_Ma109 c) (fun e => e ▸ ip_mw109)
theorem ip_Ma111 : ∀ c, c < 111 → ip_Mok c := fun c h => (Nat.lt_or_eq_of_le (Nat.le_of_lt_succ h)).elim (ip_Ma110 c) (fun e => e ▸ ip_mw110)
theorem ip_Ma112 : ∀ c, c < 112 → ip_Mok c := fun c h => (Nat.lt_or_eq_of_le (Nat.le_of_lt_succ h)).elim (ip_Ma111 c) (fun e => e ▸ ip_mw111)
theorem ip_Ma113 : ∀ c, c < 113 → ip_Mok c := fun c h => (Nat.lt_or_eq_of_le (Nat.le_of_lt_succ h)).elim (ip_Ma112 c) (fun e => e ▸ ip_mw112)
theorem ip_Ma114 : ∀ c, c < 114 → ip_Mok c := fun c h => (Nat.lt_or_eq_of_le (Nat.le_of_lt_succ h)).elim (ip_Ma113 c) (fun e => e ▸ ip_mw113)
theorem ip_Ma115 : ∀ c, c < 115 → ip_Mok c := fun c h => (Nat.lt_or_eq_of_le (Nat.le_of_lt_succ h)).elim (ip_Ma114 c) (fun e => e ▸ ip_mw114)
theorem ip_Ma116 : ∀ c, c < 116 → ip_Mok c := fun c h => (Nat.lt_or_eq_of_le (Nat.le_of_lt_succ h)).elim (ip_Ma115 c) (fun e => e ▸ ip_mw115)
theorem ip_Ma117 : ∀ c, c < 117 → ip_Mok c := fun c h => (Nat.lt_or_eq_of_le (Nat.le_of_lt_succ h)).elim (ip_Ma116 c) (fun e => e ▸ ip_mw116)
theorem ip_Ma118 : ∀ c, c < 118 → ip_Mok c := fun c h => (Nat.lt_or_eq_of_le (Nat.le_of_lt_succ h)).elim (ip_Ma117 c) (fun e => e ▸ ip_mw117)
theorem ip_Ma119 : ∀ c, c < 119 → ip_Mok c := fun c h => (Nat.lt_or_eq_of_le (Nat.le_of_lt_succ h)).elim (ip_Ma118 c) (fun e => e ▸ ip_mw118)
theorem ip_Ma120 : ∀ c, c < 120 → ip_Mok c := fun c h => (Nat.lt_or_eq_of_le (Nat.le_of_lt_succ h)).elim (ip_Ma119 c) (fun e => e ▸ ip_mw119)
theorem ip_Ma121 : ∀ c, c < 121 → ip_Mok c := fun c h => (Nat.lt_or_eq_of_le (Nat.le_of_lt_succ h)).elim (ip_Ma120 c) (fun e => e ▸ ip_mw120)
theorem ip_Ma122 : ∀ c, c < 122 → ip_Mok c := fun c h => (Nat.lt_or_eq_of_le (Nat.le_of_lt_succ h)).elim (ip_Ma121 c) (fun e => e ▸ ip_mw121)
theorem ip_Ma123 : ∀ c, c < 123 → ip_Mok c := fun c h => (Nat.lt_or_eq_of_le (Nat.le_of_lt_succ h)).elim (ip_Ma122 c) (fun e => e ▸ ip_mw122)
theorem ip_Ma124 : ∀ c, c < 124 → ip_Mok c := fun c h => (Nat.lt_or_eq_of_le (Nat.le_of_lt_succ h)).elim (ip_Ma123 c) (fun e => e ▸ ip_mw123)
theorem ip_Ma125 : ∀ c, c < 125 → ip_Mok c := fun c h => (Nat.lt_or_eq_of_le (Nat.le_of_lt_succ h)).elim (ip_Ma124 c) (fun e => e ▸ ip_mw124)
theorem ip_Ma126 : ∀ c, c < 126 → ip_Mok c := fun c h => (Nat.lt_or_eq_of_le (Nat.le_of_lt_succ h)).elim (ip_Ma125 c) (fun e => e ▸ ip_mw125)
theorem ip_Ma127 : ∀ c, c < 127 → ip_Mok c := fun c h => (Nat.lt_or_eq_of_le (Nat.le_of_lt_succ h)).elim (ip_Ma126 c) (fun e => e ▸ ip_mw126)
theorem ip_Ma128 : ∀ c, c < 128 → ip_Mok c := fun c h => (Nat.lt_or_eq_of_le (Nat.le_of_lt_succ h)).elim (ip_Ma127 c) (fun e => e ▸ ip_mw127)
theorem ip_Ma129 : ∀ c, c < 129 → ip_Mok c := fun c h => (Nat.lt_or_eq_of_le (Nat.le_of_lt_succ h)).elim (ip_Ma128 c) (fun e => e ▸ ip_mw128)
theorem ip_Ma130 : ∀ c, c < 130 → ip_Mok c := fun c h => (Nat.lt_or_eq_of_le (Nat.le_of_lt_succ h)).elim (ip_Ma129 c) (fun e => e ▸ ip_mw129)
theorem ip_Ma131 : ∀ c, c < 131 → ip_Mok c := fun c h => (Nat.lt_or_eq_of_le (Nat.le_of_lt_succ h)).elim (ip_Ma130 c) (fun e => e ▸ ip_mw130)
theorem ip_Ma132 : ∀ c, c < 132 → ip_Mok c := fun c h => (Nat.lt_or_eq_of_le (Nat.le_of_lt_succ h)).elim (ip_Ma131 c) (fun e => e ▸ ip_mw131)
theorem ip_Ma133 : ∀ c, c < 133 → ip_Mok c := fun c h => (Nat.lt_or_eq_of_le (Nat.le_of_lt_succ h)).elim (ip_Ma132 c) (fun e => e ▸ ip_mw132)
theorem ip_Ma134 : ∀ c, c < 134 → ip_Mok c := fun c h => (Nat.lt_or_eq_of_le (Nat.le_of_lt_succ h)).elim (ip_Ma133 c) (fun e => e ▸ ip_mw133)
theorem ip_Ma135 : ∀ c, c < 135 → ip_Mok c := fun c h => (Nat.lt_or_eq_of_le (Nat.le_of_lt_succ h)).elim (ip_Ma134 c) (fun e => e ▸ ip_mw134)
theorem ip_Ma136 : ∀ c, c < 136 → ip_Mok c := fun c h => (Nat.lt_or_eq_of_le (Nat.le_of_lt_succ h)).elim (ip_Ma135 c) (fun e => e ▸ ip_mw135)
theorem ip_Ma137 : ∀ c, c < 137 → ip_Mok c := fun c h => (Nat.lt_or_eq_of_le (Nat.le_of_lt_succ h)).elim (ip_Ma136 c) (fun e => e ▸ ip_mw136)
theorem ip_Ma138 : ∀ c, c < 138 → ip_Mok c := fun c h => (Nat.lt_or_eq_of_le (Nat.le_of_lt_succ h)).elim (ip_Ma137 c) (fun e => e ▸ ip_mw137)
theorem ip_Ma139 : ∀ c, c < 139 → ip_Mok c := fun c h => (Nat.lt_or_eq_of_le (Nat.le_of_lt_succ h)).elim (ip_Ma138 c) (fun e => e ▸ ip_mw138)
theorem ip_Ma140 : ∀ c, c < 140 → ip_Mok c := fun c h => (Nat.lt_or_eq_of_le (Nat.le_of_lt_succ h)).elim (ip_Ma139 c) (fun e => e ▸ ip_mw139)
theorem ip_Ma141 : ∀ c, c < 141 → ip_Mok c := fun c h => (Nat.lt_or_eq_of_le (Nat.le_of_lt_succ h)).elim (ip_Ma140 c) (fun e => e ▸ ip_mw140)
theorem ip_Ma142 : ∀ c, c < 142 → ip_Mok c := fun c h => (Nat.lt_or_eq_of_le (Nat.le_of_lt_succ h)).elim (ip_Ma141 c) (fun e => e ▸ ip_mw141)
theorem ip_Ma143 : ∀ c, c < 143 → ip_Mok c := fun c h => (Nat.lt_or_eq_of_le (Nat.le_of_lt_succ h)).elim (ip_Ma142 c) (fun e => e ▸ ip_mw142)
theorem ip_Ma144 : ∀ c, c < 144 → ip_Mok c := fun c h => (Nat.lt_or_eq_of_le (Nat.le_of_lt_succ h)).elim (ip_Ma143 c) (fun e => e ▸ ip_mw143)
theorem ip_Ma145 : ∀ c, c < 145 → ip_Mok c := fun c h => (Nat.lt_or_eq_of_le (Nat.le_of_lt_succ h)).elim (ip_Ma144 c) (fun e => e ▸ ip_mw144)
theorem ip_Ma146 : ∀ c, c < 146 → ip_Mok c := fun c h => (Nat.lt_or_eq_of_le (Nat.le_of_lt_succ h)).elim (ip_Ma145 c) (fun e => e ▸ ip_mw145)
theorem ip_Ma147 : ∀ c, c < 147 → ip_Mok c := fun c h => (Nat.lt_or_eq_of_le (Nat.le_of_lt_succ h)).elim (ip_Ma146 c) (fun e => e ▸ ip_mw146)
theorem ip_Ma148 : ∀ c, c < 148 → ip_Mok c := fun c h => (Nat.lt_or_eq_of_le (Nat.le_of_lt_succ h)).elim (ip_Ma147 c) (fun e => e ▸ ip_mw147)
theorem ip_Ma149 : ∀ c, c < 149 → ip_Mok c := fun c h => (Nat.lt_or_eq_of_le (Nat.le_of_lt_succ h)).elim (ip_Ma148 c) (fun e => e ▸ ip_mw148)
theorem ip_Ma150 : ∀ c, c < 150 → ip_Mok c := fun c h => (Nat.lt_or_eq_of_le (Nat.le_of_lt_succ h)).elim (ip_Ma149 c) (fun e => e ▸ ip_mw149)
theorem ip_Ma151 : ∀ c, c < 151 → ip_Mok c := fun c h => (Nat.lt_or_eq_of_le (Nat.le_of_lt_succ h)).elim (ip_Ma150 c) (fun e => e ▸ ip_mw150)
theorem ip_Ma152 : ∀ c, c < 152 → ip_Mok c := fun c h => (Nat.lt_or_eq_of_le (Nat.le_of_lt_succ h)).elim (ip_Ma151 c) (fun e => e ▸ ip_mw151)
theorem ip_Ma153 : ∀ c, c < 153 → ip_Mok c := fun c h => (Nat.lt_or_eq_of_le (Nat.le_of_lt_succ h)).elim (ip_Ma152 c) (fun e => e ▸ ip_mw152)
theorem ip_Ma154 : ∀ c, c < 154 → ip_Mok c := fun c h => (Nat.lt_or_eq_of_le (Nat.le_of_lt_succ h)).elim (ip_Ma153 c) (fun e => e ▸ ip_mw153)
theorem ip_Ma155 : ∀ c, c < 155 → ip_Mok c := fun c h => (Nat.lt_or_eq_of_le (Nat.le_of_lt_succ h)).elim (ip_Ma154 c) (fun e => e ▸ ip_mw154)
theorem ip_Ma156 : ∀ c, c < 156 → ip_Mok c := fun c h => (Nat.lt_or_eq_of_le (Nat.le_of_lt_succ h)).elim (ip_Ma155 c) (fun e => e ▸ ip_mw155)
theorem ip_Ma157 : ∀ c, c < 157 → ip_Mok c := fun c h => (Nat.lt_or_eq_of_le (Nat.le_of_lt_succ h)).elim (ip_Ma156 c) (fun e => e ▸ ip_mw156)
theorem ip_Ma158 : ∀ c, c < 158 → ip_Mok c := fun c h => (Nat.lt_or_eq_of_le (Nat.le_of_lt_succ h)).elim (ip_Ma157 c) (fun e => e ▸ ip_mw157)
theorem ip_Ma159 : ∀ c, c < 159 → ip_Mok c := fun c h => (Nat.lt_or_eq_of_le (Nat.le_of_lt_succ h)).elim (ip_Ma158 c) (fun e => e ▸ ip_mw158)
theorem ip_Ma160 : ∀ c, c < 160 → ip_Mok c := fun c h => (Nat.lt_or_eq_of_le (Nat.le_of_lt_succ h)).elim (ip_Ma159 c) (fun e => e ▸ ip_mw159)
theorem ip_Ma161 : ∀ c, c < 161 → ip_Mok c := fun c h => (Nat.lt_or_eq_of_le (Nat.le_of_lt_succ h)).elim (ip_Ma160 c) (fun e => e ▸ ip_mw160)
theorem ip_Ma162 : ∀ c, c < 162 → ip_Mok c := fun c h => (Nat.lt_or_eq_of_le (Nat.le_of_lt_succ h)).elim (ip_Ma161 c) (fun e => e ▸ ip_mw161)
theorem ip_Ma163 : ∀ c, c < 163 → ip_Mok c := fun c h => (Nat.lt_or_eq_of_le (Nat.le_of_lt_succ h)).elim (ip_Ma162 c) (fun e => e ▸ ip_mw162)
theorem ip_Ma164 : ∀ c, c < 164 → ip_Mok c := fun c h => (Nat.lt_or_eq_of_le (Nat.le_of_lt_succ h)).elim (ip_Ma163 c) (fun e => e ▸ ip_mw163)
theorem ip_Ma165 : ∀ c, c < 165 → ip_Mok c := fun c h => (Nat.lt_or_eq_of_le (Nat.le_of_lt_succ h)).elim (ip_Ma164 c) (fun e => e ▸ ip_mw164)
theorem ip_Ma166 : ∀ c, c < 166 → ip_Mok c := fun c h => (Nat.lt_or_eq_of_le (Nat.le_of_lt_succ h)).elim (ip_Ma165 c) (fun e => e ▸ ip_mw165)
theorem ip_Ma167 : ∀ c, c < 167 → ip_Mok c := fun c h => (Nat.lt_or_eq_of_le (Nat.le_of_lt_succ h)).elim (ip_Ma166 c) (fun e => e ▸ ip_mw166)
theorem ip_Ma168 : ∀ c, c < 168 → ip_Mok c := fun c h => (Nat.lt_or_eq_of_le (Nat.le_of_lt_succ h)).elim (ip_Ma167 c) (fun e => e ▸ ip_mw167)
theorem ip_Ma169 : ∀ c, c < 169 → ip_Mok c := fun c h => (Nat.lt_or_eq_of_le (Nat.le_of_lt_succ h)).elim (ip_Ma168 c) (fun e => e ▸ ip_mw168)
theorem ip_Ma170 : ∀ c, c < 170 → ip_Mok c := fun c h => (Nat.lt_or_eq_of_le (Nat.le_of_lt_succ h)).elim (ip_Ma169 c) (fun e => e ▸ ip_mw169)
theorem ip_Ma171 : ∀ c, c < 171 → ip_Mok c := fun c h => (Nat.lt_or_eq_of_le (Nat.le_of_lt_succ h)).elim (ip_Ma170 c) (fun e => e ▸ ip_mw170)
theorem ip_Ma172 : ∀ c, c < 172 → ip_Mok c := fun c h => (Nat.lt_or_eq_of_le (Nat.le_of_lt_succ h)).elim (ip_Ma171 c) (fun e => e ▸ ip_mw171)
theorem ip_Ma173 : ∀ c, c < 173 → ip_Mok c := fun c h => (Nat.lt_or_eq_of_le (Nat.le_of_lt_succ h)).elim (ip_Ma172 c) (fun e => e ▸ ip_mw172)
theorem ip_Ma174 : ∀ c, c < 174 → ip_Mok c := fun c h => (Nat.lt_or_eq_of_le (Nat.le_of_lt_succ h)).elim (ip_Ma173 c) (fun e => e ▸ ip_mw173)
theorem ip_Ma175 : ∀ c, c < 175 → ip_Mok c := fun c h => (Nat.lt_or_eq_of_le (Nat.le_of_lt_succ h)).elim (ip_Ma174 c) (fun e => e ▸ ip_mw174)
theorem ip_Ma176 : ∀ c, c < 176 → ip_Mok c := fun c h => (Nat.lt_or_eq_of_le (Nat.le_of_lt_succ h)).elim (ip_Ma175 c) (fun e => e ▸ ip_mw175)
theorem ip_Ma177 : ∀ c, c < 177 → ip_Mok c := fun c h => (Nat.lt_or_eq_of_le (Nat.le_of_lt_succ h)).elim (ip_Ma176 c) (fun e => e ▸ ip_mw176)
theorem ip_Ma178 : ∀ c, c < 178 → ip_Mok c := fun c h => (Nat.lt_or_eq_of_le (Nat.le_of_lt_succ h)).elim (ip_Ma177 c) (fun e => e ▸ ip_mw177)
theorem ip_Ma179 : ∀ c, c < 179 → ip_Mok c := fun c h => (Nat.lt_or_eq_of_le (Nat.le_of_lt_succ h)).elim (ip_Ma178 c) (fun e => e ▸ ip_mw178)
theorem ip_Ma180 : ∀ c, c < 180 → ip_Mok c := fun c h => (Nat.lt_or_eq_of_le (Nat.le_of_lt_succ h)).elim (ip_Ma179 c) (fun e => e ▸ ip_mw179)
theorem ip_Ma181 : ∀ c, c < 181 → ip_Mok c := fun c h => (Nat.lt_or_eq_of_le (Nat.le_of_lt_succ h)).elim (ip_Ma180 c) (fun e => e ▸ ip_mw180)
theorem ip_Ma182 : ∀ c, c < 182 → ip_Mok c := fun c h => (Nat.lt_or_eq_of_le (Nat.le_of_lt_succ h)).elim (ip_Ma181 c) (fun e => e ▸ ip_mw181)
theorem ip_Ma183 : ∀ c, c < 183 → ip_Mok c := fun c h => (Nat.lt_or_eq_of_le (Nat.le_of_lt_succ h)).elim (ip_Ma182 c) (fun e => e ▸ ip_mw182)
theorem ip_Ma184 : ∀ c, c < 184 → ip_Mok c := fun c h => (Nat.lt_or_eq_of_le (Nat.le_of_lt_succ h)).elim (ip_Ma183 c) (fun e => e ▸ ip_mw183)
theorem ip_Ma185 : ∀ c, c < 185 → ip_Mok c := fun c h => (Nat.lt_or_eq_of_le (Nat.le_of_lt_succ h)).elim (ip_Ma184 c) (fun e => e ▸ ip_mw184)
theorem ip_Ma186 : ∀ c, c < 186 → ip_Mok c := fun c h => (Nat.lt_or_eq_of_le (Nat.le_of_lt_succ h)).elim (ip_Ma185 c) (fun e => e ▸ ip_mw185)
theorem ip_Ma187 : ∀ c, c < 187 → ip_Mok c := fun c h => (Nat.lt_or_eq_of_le (Nat.le_of_lt_succ h)).elim (ip_Ma186 c) (fun e => e ▸ ip_mw186)
theorem ip_Ma188 : ∀ c, c < 188 → ip_Mok c := fun c h => (Nat.lt_or_eq_of_le (Nat.le_of_lt_succ h)).elim (ip_Ma187 c) (fun e => e ▸ ip_mw187)
theorem ip_Ma189 : ∀ c, c < 189 → ip_Mok c := fun c h => (Nat.lt_or_eq_of_le (Nat.le_of_lt_succ h)).elim (ip_Ma188 c) (fun e => e ▸ ip_mw188)
theorem ip_Ma190 : ∀ c, c < 190 → ip_Mok c := fun c h => (Nat.lt_or_eq_of_le (Nat.le_of_lt_succ h)).elim (ip_Ma189 c) (fun e => e ▸ ip_mw189)
theorem ip_Ma191 : ∀ c, c < 191 → ip_Mok c := fun c h => (Nat.lt_or_eq_of_le (Nat.le_of_lt_succ h)).elim (ip_Ma190 c) (fun e => e ▸ ip_mw190)
theorem ip_Ma192 : ∀ c, c < 192 → ip_Mok c := fun c h => (Nat.lt_or_eq_of_le (Nat.le_of_lt_succ h)).elim (ip_Ma191 c) (fun e => e ▸ ip_mw191)
theorem ip_Ma193 : ∀ c, c < 193 → ip_Mok c := fun c h => (Nat.lt_or_eq_of_le (Nat.le_of_lt_succ h)).elim (ip_Ma192 c) (fun e => e ▸ ip_mw192)
theorem ip_Ma194 : ∀ c, c < 194 → ip_Mok c := fun c h => (Nat.lt_or_eq_of_le (Nat.le_of_lt_succ h)).elim (ip_Ma193 c) (fun e => e ▸ ip_mw193)
theorem ip_Ma195 : ∀ c, c < 195 → ip_Mok c := fun c h => (Nat.lt_or_eq_of_le (Nat.le_of_lt_succ h)).elim (ip_Ma194 c) (fun e => e ▸ ip_mw194)
theorem ip_Ma196 : ∀ c, c < 196 → ip_Mok c := fun c h => (Nat.lt_or_eq_of_le (Nat.le_of_lt_succ h)).elim (ip_Ma195 c) (fun e => e ▸ ip_mw195)
theorem ip_Ma197 : ∀ c, c < 197 → ip_Mok c := fun c h => (Nat.lt_or_eq_of_le (Nat.le_of_lt_succ h)).elim (ip_Ma196 c) (fun e => e ▸ ip_mw196)
theorem ip_Ma198 : ∀ c, c < 198 → ip_Mok c := fun c h => (Nat.lt_or_eq_of_le (Nat.le_of_lt_succ h)).elim (ip_Ma197 c) (fun e => e ▸ ip_mw197)
theorem ip_Ma199 : ∀ c, c < 199 → ip_Mok c := fun c h => (Nat.lt_or_eq_of_le (Nat.le_of_lt_succ h)).elim (ip_Ma198 c) (fun e => e ▸ ip_mw198)
theorem ip_Ma200 : ∀ c, c < 200 → ip_Mok c := fun c h => (Nat.lt_or_eq_of_le (Nat.le_of_lt_succ h)).elim (ip_Ma199 c) (fun e => e ▸ ip_mw199)
theorem ip_Ma201 : ∀ c, c < 201 → ip_Mok c := fun c h => (Nat.lt_or_eq_of_le (Nat.le_of_lt_succ h)).elim (ip_Ma200 c) (fun e => e ▸ ip_mw200)
theorem ip_Ma202 : ∀ c, c < 202 → ip_Mok c := fun c h => (Nat.lt_or_eq_of_le (Nat.le_of_lt_succ h)).elim (ip_Ma201 c) (fun e => e ▸ ip_mw201)
theorem ip_Ma203 : ∀ c, c < 203 → ip_Mok c := fun c h => (Nat.lt_or_eq_of_le (Nat.le_of_lt_succ h)).elim (ip_Ma202 c) (fun e => e ▸ ip_mw202)
theorem ip_Ma204 : ∀ c, c < 204 → ip_Mok c := fun c h => (Nat.lt_or_eq_of_le (Nat.le_of_lt_succ h)).elim (ip_Ma203 c) (fun e => e ▸ ip_mw203)
theorem ip_Ma205 : ∀ c, c < 205 → ip_Mok c := fun c h => (Nat.lt_or_eq_of_le (Nat.le_of_lt_succ h)).elim (ip_Ma204 c) (fun e => e ▸ ip_mw204)
theorem ip_Ma206 : ∀ c, c < 206 → ip_Mok c := fun c h => (Nat.lt_or_eq_of_le (Nat.le_of_lt_succ h)).elim (ip_Ma205 c) (fun e => e ▸ ip_mw205)
theorem ip_Ma207 : ∀ c, c < 207 → ip_Mok c := fun c h => (Nat.lt_or_eq_of_le (Nat.le_of_lt_succ h)).elim (ip_Ma206 c) (fun e => e ▸ ip_mw206)
theorem ip_Ma208 : ∀ c, c < 208 → ip_Mok c := fun c h => (Nat.lt_or_eq_of_le (Nat.le_of_lt_succ h)).elim (ip_Ma207 c) (fun e => e ▸ ip_mw207)
theorem ip_Ma209 : ∀ c, c < 209 → ip_Mok c := fun c h => (Nat.lt_or_eq_of_le (Nat.le_of_lt_succ h)).elim (ip_Ma208 c) (fun e => e ▸ ip_mw208)
theorem ip_Ma210 : ∀ c, c < 210 → ip_Mok c := fun c h => (Nat.lt_or_eq_of_le (Nat.le_of_lt_succ h)).elim (ip_Ma209 c) (fun e => e ▸ ip_mw209)
theorem ip_Ma211 : ∀ c, c < 211 → ip_Mok c := fun c h => (Nat.lt_or_eq_of_le (Nat.le_of_lt_succ h)).elim (ip_Ma210 c) (fun e => e ▸ ip_mw210)
theorem ip_Ma212 : ∀ c, c < 212 → ip_Mok c := fun c h => (Nat.lt_or_eq_of_le (Nat.le_of_lt_succ h)).elim (ip_Ma211 c) (fun e => e ▸ ip_mw211)
theorem ip_Ma213 : ∀ c, c < 213 → ip_Mok c := fun c h => (Nat.lt_or_eq_of_le (Nat.le_of_lt_succ h)).elim (ip_Ma212 c) (fun e => e ▸ ip_mw212)
theorem ip_Ma214 : ∀ c, c < 214 → ip_Mok c := fun c h => (Nat.lt_or_eq_of_le (Nat.le_of_lt_succ h)).elim (ip_Ma213 c) (fun e => e ▸ ip_mw213)
theorem ip_Ma215 : ∀ c, c < 215 → ip_Mok c := fun c h => (Nat.lt_or_eq_of_le (Nat.le_of_lt_succ h)).elim (ip_Ma214 c) (fun e => e ▸ ip_mw214)
theorem ip_Ma216 : ∀ c, c < 216 → ip_Mok c := fun c h => (Nat.lt_or_eq_of_le (Nat.le_of_lt_succ h)).elim (ip_Ma215 c) (fun e => e ▸ ip_mw215)
theorem ip_Ma217 : ∀ c, c < 217 → ip_Mok c := fun c h => (Nat.lt_or_eq_of_le (Nat.le_of_lt_succ h)).elim (ip_Ma216 c) (fun e => e ▸ ip_mw216)
theorem ip_Ma218 : ∀ c, c < 218 → ip_Mok c := fun c h => (Nat.lt_or_eq_of_le (Nat.le_of_lt_succ h)).elim (ip_Ma217 c) (fun e => e ▸ ip_mw217)
theorem ip_Ma219 : ∀ c, c < 219 → ip_Mok c := fun c h => (Nat.lt_or_eq_of_le (Nat.le_of_lt_succ h)).elim (ip_Ma218 c) (fun e => e ▸ ip_mw218)
theorem ip_Ma220 : ∀ c, c < 220 → ip_Mok c := fun c h => (Nat.lt_or_eq_of_le (Nat.le_of_lt_succ h)).elim (ip_Ma219 c) (fun e => e ▸ ip_mw219)
theorem ip_Ma221 : ∀ c, c < 221 → ip_Mok c := fun c h => (Nat.lt_or_eq_of_le (Nat.le_of_lt_succ h)).elim (ip_Ma220 c) (fun e => e ▸ ip_mw220)
theorem ip_Ma222 : ∀ c, c < 222 → ip_Mok c := fun c h => (Nat.lt_or_eq_of_le (Nat.le_of_lt_succ h)).elim (ip_Ma221 c) (fun e => e ▸ ip_mw221)
theorem ip_Ma223 : ∀ c, c < 223 → ip_Mok c := fun c h => (Nat.lt_or_eq_of_le (Nat.le_of_lt_succ h)).elim (ip_Ma222 c) (fun e => e ▸ ip_mw222)
theorem ip_Ma224 : ∀ c, c < 224 → ip_Mok c := fun c h => (Nat.lt_or_eq_of_le (Nat.le_of_lt_succ h)).elim (ip_Ma223 c) (fun e => e ▸ ip_mw223)
theorem ip_Ma225 : ∀ c, c < 225 → ip_Mok c := fun c h => (Nat.lt_or_eq_of_le (Nat.le_of_lt_succ h)).elim (ip_Ma224 c) (fun e => e ▸ ip_mw224)
theorem ip_Ma226 : ∀ c, c < 226 → ip_Mok c := fun c h => (Nat.lt_or_eq_of_le (Nat.le_of_lt_succ h)).elim (ip_Ma225 c) (fun e => e ▸ ip_mw225)
theorem ip_Ma227 : ∀ c, c < 227 → ip_Mok c := fun c h => (Nat.lt_or_eq_of_le (Nat.le_of_lt_succ h)).elim (ip_Ma226 c) (fun e => e ▸ ip_mw226)
theorem ip_Ma228 : ∀ c, c < 228 → ip_Mok c := fun c h => (Nat.lt_or_eq_of_le (Nat.le_of_lt_succ h)).elim (ip_Ma227 c) (fun e => e ▸ ip_mw227)
theorem ip_Ma229 : ∀ c, c < 229 → ip_Mok c := fun c h => (Nat.lt_or_eq_of_le (Nat.le_of_lt_succ h)).elim (ip_Ma228 c) (fun e => e ▸ ip_mw228)
theorem ip_Ma230 : ∀ c, c < 230 → ip_Mok c := fun c h => (Nat.lt_or_eq_of_le (Nat.le_of_lt_succ h)).elim (ip_Ma229 c) (fun e => e ▸ ip_mw229)
theorem ip_Ma231 : ∀ c, c < 231 → ip_Mok c := fun c h => (Nat.lt_or_eq_of_le (Nat.le_of_lt_succ h)).elim (ip_Ma230 c) (fun e => e ▸ ip_mw230)
theorem ip_Ma232 : ∀ c, c < 232 → ip_Mok c := fun c h => (Nat.lt_or_eq_of_le (Nat.le_of_lt_succ h)).elim (ip_Ma231 c) (fun e => e ▸ ip_mw231)
theorem ip_Ma233 : ∀ c, c < 233 → ip_Mok c := fun c h => (Nat.lt_or_eq_of_le (Nat.le_of_lt_succ h)).elim (ip_Ma232 c) (fun e => e ▸ ip_mw232)
theorem ip_Ma234 : ∀ c, c < 234 → ip_Mok c := fun c h => (Nat.lt_or_eq_of_le (Nat.le_of_lt_succ h)).elim (ip_Ma233 c) (fun e => e ▸ ip_mw233)
theorem ip_Ma235 : ∀ c, c < 235 → ip_Mok c := fun c h => (Nat.lt_or_eq_of_le (Nat.le_of_lt_succ h)).elim (ip_Ma234 c) (fun e => e ▸ ip_mw234)
theorem ip_Ma236 : ∀ c, c < 236 → ip_Mok c := fun c h => (Nat.lt_or_eq_of_le (Nat.le_of_lt_succ h)).elim (ip_Ma235 c) (fun e => e ▸ ip_mw235)
theorem ip_Ma237 : ∀ c, c < 237 → ip_Mok c := fun c h => (Nat.lt_or_eq_of_le (Nat.le_of_lt_succ h)).elim (ip_Ma236 c) (fun e => e ▸ ip_mw236)
theorem ip_Ma238 : ∀ c, c < 238 → ip_Mok c := fun c h => (Nat.lt_or_eq_of_le (Nat.le_of_lt_succ h)).elim (ip_Ma237 c) (fun e => e ▸ ip_mw237)
theorem ip_Ma239 : ∀ c, c < 239 → ip_Mok c := fun c h => (Nat.lt_or_eq_of_le (Nat.le_of_lt_succ h)).elim (ip_Ma238 c) (fun e => e ▸ ip_mw238)
theorem ip_Ma240 : ∀ c, c < 240 → ip_Mok c := fun c h => (Nat.lt_or_eq_of_le (Nat.le_of_lt_succ h)).elim (ip_Ma239 c) (fun e => e ▸ ip_mw239)
theorem ip_Ma241 : ∀ c, c < 241 → ip_Mok c := fun c h => (Nat.lt_or_eq_of_le (Nat.le_of_lt_succ h)).elim (ip_Ma240 c) (fun e => e ▸ ip_mw240)
theorem ip_Ma242 : ∀ c, c < 242 → ip_Mok c := fun c h => (Nat.lt_or_eq_of_le (Nat.le_of_lt_succ h)).elim (ip_Ma241 c) (fun e => e ▸ ip_mw241)
theorem ip_Ma243 : ∀ c, c < 243 → ip_Mok c := fun c h => (Nat.lt_or_eq_of_le (Nat.le_of_lt_succ h)).elim (ip_Ma242 c) (fun e => e ▸ ip_mw242)
theorem ip_Ma244 : ∀ c, c < 244 → ip_Mok c := fun c h => (Nat.lt_or_eq_of_le (Nat.le_of_lt_succ h)).elim (ip_Ma243 c) (fun e => e ▸ ip_mw243)
theorem ip_Ma245 : ∀ c, c < 245 → ip_Mok c := fun c h => (Nat.lt_or_eq_of_le (Nat.le_of_lt_succ h)).elim (ip_Ma244 c) (fun e => e ▸ ip_mw244)
theorem ip_Ma246 : ∀ c, c < 246 → ip_Mok c := fun c h => (Nat.lt_or_eq_of_le (Nat.le_of_lt_succ h)).elim (ip_Ma245 c) (fun e => e ▸ ip_mw245)
theorem ip_Ma247 : ∀ c, c < 247 → ip_Mok c := fun c h => (Nat.lt_or_eq_of_le (Nat.le_of_lt_succ h)).elim (ip_Ma246 c) (fun e => e ▸ ip_mw246)
theorem ip_Ma248 : ∀ c, c < 248 → ip_Mok c := fun c h => (Nat.lt_or_eq_of_le (Nat.le_of_lt_succ h)).elim (ip_Ma247 c) (fun e => e ▸ ip_mw247)
theorem ip_Ma249 : ∀ c, c < 249 → ip_Mok c := fun c h => (Nat.lt_or_eq_of_le (Nat.le_of_lt_succ h)).elim (ip_Ma248 c) (fun e => e ▸ ip_mw248)
theorem ip_Ma250 : ∀ c, c < 250 → ip_Mok c := fun c h => (Nat.lt_or_eq_of_le (Nat.le_of_lt_succ h)).elim (ip_Ma249 c) (fun e => e ▸ ip_mw249)
theorem ip_Ma251 : ∀ c, c < 251 → ip_Mok c := fun c h => (Nat.lt_or_eq_of_le (Nat.le_of_lt_succ h)).elim (ip_Ma250 c) (fun e => e ▸ ip_mw250)
theorem ip_Ma252 : ∀ c, c < 252 → ip_Mok c := fun c h => (Nat.lt_or_eq_of_le (Nat.le_of_lt_succ h)).elim (ip_Ma251 c) (fun e => e ▸ ip_mw251)
theorem ip_Ma253 : ∀ c, c < 253 → ip_Mok c := fun c h => (Nat.lt_or_eq_of_le (Nat.le_of_lt_succ h)).elim (ip_Ma252 c) (fun e => e ▸ ip_mw252)
theorem ip_Ma254 : ∀ c, c < 254 → ip_Mok c := fun c h => (Nat.lt_or_eq_of_le (Nat.le_of_lt_succ h)).elim (ip_Ma253 c) (fun e => e ▸ ip_mw253)
theorem ip_Ma255 : ∀ c, c < 255 → ip_Mok c := fun c h => (Nat.lt_or_eq_of_le (Nat.le_of_lt_succ h)).elim (ip_Ma254 c) (fun e => e ▸ ip_mw254)
theorem ip_Ma256 : ∀ c, c < 256 → ip_Mok c := fun c h => (Nat.lt_or_eq_of_le (Nat.le_of_lt_succ h)).elim (ip_Ma255 c) (fun e => e ▸ ip_mw255)
theorem ip_Ma257 : ∀ c, c < 257 → ip_Mok c := fun c h => (Nat.lt_or_eq_of_le (Nat.le_of_lt_succ h)).elim (ip_Ma256 c) (fun e => e ▸ ip_mw256)
theorem ip_Ma258 : ∀ c, c < 258 → ip_Mok c := fun c h => (Nat.lt_or_eq_of_le (Nat.le_of_lt_succ h)).elim (ip_Ma257 c) (fun e => e ▸ ip_mw257)
theorem ip_Ma259 : ∀ c, c < 259 → ip_Mok c := fun c h => (Nat.lt_or_eq_of_le (Nat.le_of_lt_succ h)).elim (ip_Ma258 c) (fun e => e ▸ ip_mw258)
theorem ip_Ma260 : ∀ c, c < 260 → ip_Mok c := fun c h => (Nat.lt_or_eq_of_le (Nat.le_of_lt_succ h)).elim (ip_Ma259 c) (fun e => e ▸ ip_mw259)
theorem ip_Ma261 : ∀ c, c < 261 → ip_Mok c := fun c h => (Nat.lt_or_eq_of_le (Nat.le_of_lt_succ h)).elim (ip_Ma260 c) (fun e => e ▸ ip_mw260)
theorem ip_Ma262 : ∀ c, c < 262 → ip_Mok c := fun c h => (Nat.lt_or_eq_of_le (Nat.le_of_lt_succ h)).elim (ip_Ma261 c) (fun e => e ▸ ip_mw261)
theorem ip_Ma263 : ∀ c, c < 263 → ip_Mok c := fun c h => (Nat.lt_or_eq_of_le (Nat.le_of_lt_succ h)).elim (ip_Ma262 c) (fun e => e ▸ ip_mw262)
theorem ip_Ma264 : ∀ c, c < 264 → ip_Mok c := fun c h => (Nat.lt_or_eq_of_le (Nat.le_of_lt_succ h)).elim (ip_Ma263 c) (fun e => e ▸ ip_mw263)
theorem ip_Ma265 : ∀ c, c < 265 → ip_Mok c := fun c h => (Nat.lt_or_eq_of_le (Nat.le_of_lt_succ h)).elim (ip_Ma264 c) (fun e => e ▸ ip_mw264)
theorem ip_Ma266 : ∀ c, c < 266 → ip_Mok c := fun c h => (Nat.lt_or_eq_of_le (Nat.le_of_lt_succ h)).elim (ip_Ma265 c) (fun e => e ▸ ip_mw265)
theorem ip_Ma267 : ∀ c, c < 267 → ip_Mok c := fun c h => (Nat.lt_or_eq_of_le (Nat.le_of_lt_succ h)).elim (ip_Ma266 c) (fun e => e ▸ ip_mw266)
theorem ip_Ma268 : ∀ c, c < 268 → ip_Mok c := fun c h => (Nat.lt_or_eq_of_le (Nat.le_of_lt_succ h)).elim (ip_Ma267 c) (fun e => e ▸ ip_mw267)
theorem ip_Ma269 : ∀ c, c < 269 → ip_Mok c := fun c h => (Nat.lt_or_eq_of_le (Nat.le_of_lt_succ h)).elim (ip_Ma268 c) (fun e => e ▸ ip_mw268)
theorem ip_Ma270 : ∀ c, c < 270 → ip_Mok c := fun c h => (Nat.lt_or_eq_of_le (Nat.le_of_lt_succ h)).elim (ip_Ma269 c) (fun e => e ▸ ip_mw269)
theorem ip_Ma271 : ∀ c, c < 271 → ip_Mok c := fun c h => (Nat.lt_or_eq_of_le (Nat.le_of_lt_succ h)).elim (ip_Ma270 c) (fun e => e ▸ ip_mw270)
theorem ip_Ma272 : ∀ c, c < 272 → ip_Mok c := fun c h => (Nat.lt_or_eq_of_le (Nat.le_of_lt_succ h)).elim (ip_Ma271 c) (fun e => e ▸ ip_mw271)
theorem ip_Ma273 : ∀ c, c < 273 → ip_Mok c := fun c h => (Nat.lt_or_eq_of_le (Nat.le_of_lt_succ h)).elim (ip_Ma272 c) (fun e => e ▸ ip_mw272)
theorem ip_Ma274 : ∀ c, c < 274 → ip_Mok c := fun c h => (Nat.lt_or_eq_of_le (Nat.le_of_lt_succ h)).elim (ip_Ma273 c) (fun e => e ▸ ip_mw273)
theorem ip_Ma275 : ∀ c, c < 275 → ip_Mok c := fun c h => (Nat.lt_or_eq_of_le (Nat.le_of_lt_succ h)).elim (ip_Ma274 c) (fun e => e ▸ ip_mw274)
theorem ip_Ma276 : ∀ c, c < 276 → ip_Mok c := fun c h => (Nat.lt_or_eq_of_le (Nat.le_of_lt_succ h)).elim (ip_Ma275 c) (fun e => e ▸ ip_mw275)
theorem ip_Ma277 : ∀ c, c < 277 → ip_Mok c := fun c h => (Nat.lt_or_eq_of_le (Nat.le_of_lt_succ h)).elim (ip_Ma276 c) (fun e => e ▸ ip_mw276)
theorem ip_Ma278 : ∀ c, c < 278 → ip_Mok c := fun c h => (Nat.lt_or_eq_of_le (Nat.le_of_lt_succ h)).elim (ip_Ma277 c) (fun e => e ▸ ip_mw277)
theorem ip_Ma279 : ∀ c, c < 279 → ip_Mok c := fun c h => (Nat.lt_or_eq_of_le (Nat.le_of_lt_succ h)).elim (ip_Ma278 c) (fun e => e ▸ ip_mw278)
theorem ip_Ma280 : ∀ c, c < 280 → ip_Mok c := fun c h => (Nat.lt_or_eq_of_le (Nat.le_of_lt_succ h)).elim (ip_Ma279 c) (fun e => e ▸ ip_mw279)
theorem ip_Ma281 : ∀ c, c < 281 → ip_Mok c := fun c h => (Nat.lt_or_eq_of_le (Nat.le_of_lt_succ h)).elim (ip_Ma280 c) (fun e => e ▸ ip_mw280)
theorem ip_Ma282 : ∀ c, c < 282 → ip_Mok c := fun c h => (Nat.lt_or_eq_of_le (Nat.le_of_lt_succ h)).elim (ip_Ma281 c) (fun e => e ▸ ip_mw281)
theorem ip_Ma283 : ∀ c, c < 283 → ip_Mok c := fun c h => (Nat.lt_or_eq_of_le (Nat.le_of_lt_succ h)).elim (ip_Ma282 c) (fun e => e ▸ ip_mw282)
theorem ip_Ma284 : ∀ c, c < 284 → ip_Mok c := fun c h => (Nat.lt_or_eq_of_le (Nat.le_of_lt_succ h)).elim (ip_Ma283 c) (fun e => e ▸ ip_mw283)
theorem ip_Ma285 : ∀ c, c < 285 → ip_Mok c := fun c h => (Nat.lt_or_eq_of_le (Nat.le_of_lt_succ h)).elim (ip_Ma284 c) (fun e => e ▸ ip_mw284)
theorem ip_Ma286 : ∀ c, c < 286 → ip_Mok c := fun c h => (Nat.lt_or_eq_of_le (Nat.le_of_lt_succ h)).elim (ip_Ma285 c) (fun e => e ▸ ip_mw285)
theorem ip_Ma287 : ∀ c, c < 287 → ip_Mok c := fun c h => (Nat.lt_or_eq_of_le (Nat.le_of_lt_succ h)).elim (ip_Ma286 c) (fun e => e ▸ ip_mw286)
theorem ip_Ma288 : ∀ c, c < 288 → ip_Mok c := fun c h => (Nat.lt_or_eq_of_le (Nat.le_of_lt_succ h)).elim (ip_Ma287 c) (fun e => e ▸ ip_mw287)
theorem ip_Ma289 : ∀ c, c < 289 → ip_Mok c := fun c h => (Nat.lt_or_eq_of_le (Nat.le_of_lt_succ h)).elim (ip_Ma288 c) (fun e => e ▸ ip_mw288)
theorem ip_Ma290 : ∀ c, c < 290 → ip_Mok c := fun c h => (Nat.lt_or_eq_of_le (Nat.le_of_lt_succ h)).elim (ip_Ma289 c) (fun e => e ▸ ip_mw289)
theorem ip_Ma291 : ∀ c, c < 291 → ip_Mok c := fun c h => (Nat.lt_or_eq_of_le (Nat.le_of_lt_succ h)).elim (ip_Ma290 c) (fun e => e ▸ ip_mw290)
theorem ip_Ma292 : ∀ c, c < 292 → ip_Mok c := fun c h => (Nat.lt_or_eq_of_le (Nat.le_of_lt_succ h)).elim (ip_Ma291 c) (fun e => e ▸ ip_mw291)
theorem ip_Ma293 : ∀ c, c < 293 → ip_Mok c := fun c h => (Nat.lt_or_eq_of_le (Nat.le_of_lt_succ h)).elim (ip_Ma292 c) (fun e => e ▸ ip_mw292)
theorem ip_Ma294 : ∀ c, c < 294 → ip_Mok c := fun c h => (Nat.lt_or_eq_of_le (Nat.le_of_lt_succ h)).elim (ip_Ma293 c) (fun e => e ▸ ip_mw293)
theorem ip_Ma295 : ∀ c, c < 295 → ip_Mok c := fun c h => (Nat.lt_or_eq_of_le (Nat.le_of_lt_succ h)).elim (ip_Ma294 c) (fun e => e ▸ ip_mw294)
theorem ip_M_ok : ∀ c, c < 295 → ip_Mok c := ip_Ma295
def ip_Lk (C : String) (T : u_T) (j : Nat) : Prop := u_lay C T j ∈ lw_tbl ∧ ip_gw (u_lay C T j) = true
theorem ip_La0_0 : ∀ j, j < 0 → ip_Lk RX0 TX0 j := fun j h => absurd h (Nat.not_lt_zero j)
set_option maxRecDepth 100000 in
theorem ip_Lx0_0 : ip_Lk RX0 TX0 0 := ⟨(ip_t2 (ip_v2_1 (List.mem_of_getElem? (l := ip_u2_1.1) (i := 21) rfl))), rfl⟩
theorem ip_La0_1 : ∀ j, j < 1 → ip_Lk RX0 TX0 j := fun j h => (Nat.lt_or_eq_of_le (Nat.le_of_lt_succ h)).elim (ip_La0_0 j) (fun e => e ▸ ip_Lx0_0)
set_option maxRecDepth 100000 in
theorem ip_Lx0_1 : ip_Lk RX0 TX0 1 := ⟨(ip_t2 (ip_v2_1 (List.mem_of_getElem? (l := ip_u2_1.1) (i := 23) rfl))), rfl⟩
theorem ip_La0_2 : ∀ j, j < 2 → ip_Lk RX0 TX0 j := fun j h => (Nat.lt_or_eq_of_le (Nat.le_of_lt_succ h)).elim (ip_La0_1 j) (fun e => e ▸ ip_Lx0_1)
theorem ip_La1_0 : ∀ j, j < 0 → ip_Lk RX1 TX1 j := fun j h => absurd h (Nat.not_lt_zero j)
set_option maxRecDepth 100000 in
theorem ip_Lx1_0 : ip_Lk RX1 TX1 0 := ⟨(ip_t1 (ip_v1_4 (List.mem_of_getElem? (l := ip_u1_4.1) (i := 3) rfl))), rfl⟩
theorem ip_La1_1 : ∀ j, j < 1 → ip_Lk RX1 TX1 j := fun j h => (Nat.lt_or_eq_of_le (Nat.le_of_lt_succ h)).elim (ip_La1_0 j) (fun e => e ▸ ip_Lx1_0)
set_option maxRecDepth 100000 in
theorem ip_Lx1_1 : ip_Lk RX1 TX1 1 := ⟨(ip_t1 (ip_v1_4 (List.mem_of_getElem? (l := ip_u1_4.1) (i := 5) rfl))), rfl⟩
theorem ip_La1_2 : ∀ j, j < 2 → ip_Lk RX1 TX1 j := fun j h => (Nat.lt_or_eq_of_le (Nat.le_of_lt_succ h)).elim (ip_La1_1 j) (fun e => e ▸ ip_Lx1_1)
set_option maxRecDepth 100000 in
theorem ip_Lx1_2 : ip_Lk RX1 TX1 2 := ⟨(ip_t1 (ip_v1_4 (List.mem_of_getElem? (l := ip_u1_4.1) (i := 7) rfl))), rfl⟩
theorem ip_La1_3 : ∀ j, j < 3 → ip_Lk RX1 TX1 j := fun j h => (Nat.lt_or_eq_of_le (Nat.le_of_lt_succ h)).elim (ip_La1_2 j) (fun e => e ▸ ip_Lx1_2)
set_option maxRecDepth 100000 in
theorem ip_Lx1_3 : ip_Lk RX1 TX1 3 := ⟨(ip_t1 (ip_v1_4 (List.mem_of_getElem? (l := ip_u1_4.1) (i := 9) rfl))), rfl⟩
theorem ip_La1_4 : ∀ j, j < 4 → ip_Lk RX1 TX1 j := fun j h => (Nat.lt_or_eq_of_le (Nat.le_of_lt_succ h)).elim (ip_La1_3 j) (fun e => e ▸ ip_Lx1_3)
set_option maxRecDepth 100000 in
theorem ip_Lx1_4 : ip_Lk RX1 TX1 4 := ⟨(ip_t1 (ip_v1_4 (List.mem_of_getElem? (l := ip_u1_4.1) (i := 11) rfl))), rfl⟩
theorem ip_La1_5 : ∀ j, j < 5 → ip_Lk RX1 TX1 j := fun j h => (Nat.lt_or_eq_of_le (Nat.le_of_lt_succ h)).elim (ip_La1_4 j) (fun e => e ▸ ip_Lx1_4)
set_option maxRecDepth 100000 in
theorem ip_Lx1_5 : ip_Lk RX1 TX1 5 := ⟨(ip_t1 (ip_v1_4 (List.mem_of_getElem? (l := ip_u1_4.1) (i := 13) rfl))), rfl⟩
theorem ip_La1_6 : ∀ j, j < 6 → ip_Lk RX1 TX1 j := fun j h => (Nat.lt_or_eq_of_le (Nat.le_of_lt_succ h)).elim (ip_La1_5 j) (fun e => e ▸ ip_Lx1_5)
set_option maxRecDepth 100000 in
theorem ip_Lx1_6 : ip_Lk RX1 TX1 6 := ⟨(ip_t1 (ip_v1_4 (List.mem_of_getElem? (l := ip_u1_4.1) (i := 15) rfl))), rfl⟩
theorem ip_La1_7 : ∀ j, j < 7 → ip_Lk RX1 TX1 j := fun j h => (Nat.lt_or_eq_of_le (Nat.le_of_lt_succ h)).elim (ip_La1_6 j) (fun e => e ▸ ip_Lx1_6)
set_option maxRecDepth 100000 in
theorem ip_Lx1_7 : ip_Lk RX1 TX1 7 := ⟨(ip_t1 (ip_v1_4 (List.mem_of_getElem? (l := ip_u1_4.1) (i := 17) rfl))), rfl⟩
theorem ip_La1_8 : ∀ j, j < 8 → ip_Lk RX1 TX1 j := fun j h => (Nat.lt_or_eq_of_le (Nat.le_of_lt_succ h)).elim (ip_La1_7 j) (fun e => e ▸ ip_Lx1_7)
set_option maxRecDepth 100000 in
theorem ip_Lx1_8 : ip_Lk RX1 TX1 8 := ⟨(ip_t1 (ip_v1_4 (List.mem_of_getElem? (l := ip_u1_4.1) (i := 19) rfl))), rfl⟩
theorem ip_La1_9 : ∀ j, j < 9 → ip_Lk RX1 TX1 j := fun j h => (Nat.lt_or_eq_of_le (Nat.le_of_lt_succ h)).elim (ip_La1_8 j) (fun e => e ▸ ip_Lx1_8)
set_option maxRecDepth 100000 in
theorem ip_Lx1_9 : ip_Lk RX1 TX1 9 := ⟨(ip_t1 (ip_v1_4 (List.mem_of_getElem? (l := ip_u1_4.1) (i := 21) rfl))), rfl⟩
theorem ip_La1_10 : ∀ j, j < 10 → ip_Lk RX1 TX1 j := fun j h => (Nat.lt_or_eq_of_le (Nat.le_of_lt_succ h)).elim (ip_La1_9 j) (fun e => e ▸ ip_Lx1_9)
set_option maxRecDepth 100000 in
theorem ip_Lx1_10 : ip_Lk RX1 TX1 10 := ⟨(ip_t1 (ip_v1_4 (List.mem_of_getElem? (l := ip_u1_4.1) (i := 23) rfl))), rfl⟩
theorem ip_La1_11 : ∀ j, j < 11 → ip_Lk RX1 TX1 j := fun j h => (Nat.lt_or_eq_of_le (Nat.le_of_lt_succ h)).elim (ip_La1_10 j) (fun e => e ▸ ip_Lx1_10)
set_option maxRecDepth 100000 in
theorem ip_Lx1_11 : ip_Lk RX1 TX1 11 := ⟨(ip_t1 (ip_v1_4 (List.mem_of_getElem? (l := ip_u1_4.1) (i := 25) rfl))), rfl⟩
theorem ip_La1_12 : ∀ j, j < 12 → ip_Lk RX1 TX1 j := fun j h => (Nat.lt_or_eq_of_le (Nat.le_of_lt_succ h)).elim (ip_La1_11 j) (fun e => e ▸ ip_Lx1_11)
set_option maxRecDepth 100000 in
theorem ip_Lx1_12 : ip_Lk RX1 TX1 12 := ⟨(ip_t1 (ip_v1_4 (List.mem_of_getElem? (l := ip_u1_4.1) (i := 27) rfl))), rfl⟩
theorem ip_La1_13 : ∀ j, j < 13 → ip_Lk RX1 TX1 j := fun j h => (Nat.lt_or_eq_of_le (Nat.le_of_lt_succ h)).elim (ip_La1_12 j) (fun e => e ▸ ip_Lx1_12)
set_option maxRecDepth 100000 in
theorem ip_Lx1_13 : ip_Lk RX1 TX1 13 := ⟨(ip_t1 (ip_v1_4 (List.mem_of_getElem? (l := ip_u1_4.1) (i := 29) rfl))), rfl⟩
theorem ip_La1_14 : ∀ j, j < 14 → ip_Lk RX1 TX1 j := fun j h => (Nat.lt_or_eq_of_le (Nat.le_of_lt_succ h)).elim (ip_La1_13 j) (fun e => e ▸ ip_Lx1_13)
set_option maxRecDepth 100000 in
theorem ip_Lx1_14 : ip_Lk RX1 TX1 14 := ⟨(ip_t1 (ip_v1_4 (List.mem_of_getElem? (l := ip_u1_4.1) (i := 31) rfl))), rfl⟩
theorem ip_La1_15 : ∀ j, j < 15 → ip_Lk RX1 TX1 j := fun j h => (Nat.lt_or_eq_of_le (Nat.le_of_lt_succ h)).elim (ip_La1_14 j) (fun e => e ▸ ip_Lx1_14)
theorem ip_La2_0 : ∀ j, j < 0 → ip_Lk RX2 TX2 j := fun j h => absurd h (Nat.not_lt_zero j)
set_option maxRecDepth 100000 in
theorem ip_Lx2_0 : ip_Lk RX2 TX2 0 := ⟨(ip_t1 (ip_v1_2 (List.mem_of_getElem? (l := ip_u1_2.1) (i := 22) rfl))), rfl⟩
theorem ip_La2_1 : ∀ j, j < 1 → ip_Lk RX2 TX2 j := fun j h => (Nat.lt_or_eq_of_le (Nat.le_of_lt_succ h)).elim (ip_La2_0 j) (fun e => e ▸ ip_Lx2_0)
set_option maxRecDepth 100000 in
theorem ip_Lx2_1 : ip_Lk RX2 TX2 1 := ⟨(ip_t1 (ip_v1_2 (List.mem_of_getElem? (l := ip_u1_2.1) (i := 24) rfl))), rfl⟩
theorem ip_La2_2 : ∀ j, j < 2 → ip_Lk RX2 TX2 j := fun j h => (Nat.lt_or_eq_of_le (Nat.le_of_lt_succ h)).elim (ip_La2_1 j) (fun e => e ▸ ip_Lx2_1)
set_option maxRecDepth 100000 in
theorem ip_Lx2_2 : ip_Lk RX2 TX2 2 := ⟨(ip_t1 (ip_v1_2 (List.mem_of_getElem? (l := ip_u1_2.1) (i := 26) rfl))), rfl⟩
theorem ip_La2_3 : ∀ j, j < 3 → ip_Lk RX2 TX2 j := fun j h => (Nat.lt_or_eq_of_le (Nat.le_of_lt_succ h)).elim (ip_La2_2 j) (fun e => e ▸ ip_Lx2_2)
set_option maxRecDepth 100000 in
theorem ip_Lx2_3 : ip_Lk RX2 TX2 3 := ⟨(ip_t1 (ip_v1_2 (List.mem_of_getElem? (l := ip_u1_2.1) (i := 28) rfl))), rfl⟩
theorem ip_La2_4 : ∀ j, j < 4 → ip_Lk RX2 TX2 j := fun j h => (Nat.lt_or_eq_of_le (Nat.le_of_lt_succ h)).elim (ip_La2_3 j) (fun e => e ▸ ip_Lx2_3)
set_option maxRecDepth 100000 in
theorem ip_Lx2_4 : ip_Lk RX2 TX2 4 := ⟨(ip_t1 (ip_v1_2 (List.mem_of_getElem? (l := ip_u1_2.1) (i := 30) rfl))), rfl⟩
theorem ip_La2_5 : ∀ j, j < 5 → ip_Lk RX2 TX2 j := fun j h => (Nat.lt_or_eq_of_le (Nat.le_of_lt_succ h)).elim (ip_La2_4 j) (fun e => e ▸ ip_Lx2_4)
theorem ip_La3_0 : ∀ j, j < 0 → ip_Lk RX3 TX3 j := fun j h => absurd h (Nat.not_lt_zero j)
set_option maxRecDepth 100000 in
theorem ip_Lx3_0 : ip_Lk RX3 TX3 0 := ⟨(ip_t2 (ip_v2_0 (List.mem_of_getElem? (l := ip_u2_0.1) (i := 16) rfl))), rfl⟩
theorem ip_La3_1 : ∀ j, j < 1 → ip_Lk RX3 TX3 j := fun j h => (Nat.lt_or_eq_of_le (Nat.le_of_lt_succ h)).elim (ip_La3_0 j) (fun e => e ▸ ip_Lx3_0)
set_option maxRecDepth 100000 in
theorem ip_Lx3_1 : ip_Lk RX3 TX3 1 := ⟨(ip_t2 (ip_v2_0 (List.mem_of_getElem? (l := ip_u2_0.1) (i := 18) rfl))), rfl⟩
theorem ip_La3_2 : ∀ j, j < 2 → ip_Lk RX3 TX3 j := fun j h => (Nat.lt_or_eq_of_le (Nat.le_of_lt_succ h)).elim (ip_La3_1 j) (fun e => e ▸ ip_Lx3_1)
set_option maxRecDepth 100000 in
theorem ip_Lx3_2 : ip_Lk RX3 TX3 2 := ⟨(ip_t2 (ip_v2_0 (List.mem_of_getElem? (l := ip_u2_0.1) (i := 20) rfl))), rfl⟩
theorem ip_La3_3 : ∀ j, j < 3 → ip_Lk RX3 TX3 j := fun j h => (Nat.lt_or_eq_of_le (Nat.le_of_lt_succ h)).elim (ip_La3_2 j) (fun e => e ▸ ip_Lx3_2)
set_option maxRecDepth 100000 in
theorem ip_Lx3_3 : ip_Lk RX3 TX3 3 := ⟨(ip_t2 (ip_v2_0 (List.mem_of_getElem? (l := ip_u2_0.1) (i := 22) rfl))), rfl⟩
theorem ip_La3_4 : ∀ j, j < 4 → ip_Lk RX3 TX3 j := fun j h => (Nat.lt_or_eq_of_le (Nat.le_of_lt_succ h)).elim (ip_La3_3 j) (fun e => e ▸ ip_Lx3_3)
set_option maxRecDepth 100000 in
theorem ip_Lx3_4 : ip_Lk RX3 TX3 4 := ⟨(ip_t2 (ip_v2_0 (List.mem_of_getElem? (l := ip_u2_0.1) (i := 24) rfl))), rfl⟩
theorem ip_La3_5 : ∀ j, j < 5 → ip_Lk RX3 TX3 j := fun j h => (Nat.lt_or_eq_of_le (Nat.le_of_lt_succ h)).elim (ip_La3_4 j) (fun e => e ▸ ip_Lx3_4)
set_option maxRecDepth 100000 in
theorem ip_Lx3_5 : ip_Lk RX3 TX3 5 := ⟨(ip_t2 (ip_v2_0 (List.mem_of_getElem? (l := ip_u2_0.1) (i := 26) rfl))), rfl⟩
theorem ip_La3_6 : ∀ j, j < 6 → ip_Lk RX3 TX3 j := fun j h => (Nat.lt_or_eq_of_le (Nat.le_of_lt_succ h)).elim (ip_La3_5 j) (fun e => e ▸ ip_Lx3_5)
theorem ip_La4_0 : ∀ j, j < 0 → ip_Lk RX4 TX4 j := fun j h => absurd h (Nat.not_lt_zero j)
set_option maxRecDepth 100000 in
theorem ip_Lx4_0 : ip_Lk RX4 TX4 0 := ⟨(ip_t1 (ip_v1_1 (List.mem_of_getElem? (l := ip_u1_1.1) (i := 4) rfl))), rfl⟩
theorem ip_La4_1 : ∀ j, j < 1 → ip_Lk RX4 TX4 j := fun j h => (Nat.lt_or_eq_of_le (Nat.le_of_lt_succ h)).elim (ip_La4_0 j) (fun e => e ▸ ip_Lx4_0)
theorem ip_La5_0 : ∀ j, j < 0 → ip_Lk RX5 TX5 j := fun j h => absurd h (Nat.not_lt_zero j)
set_option maxRecDepth 100000 in
theorem ip_Lx5_0 : ip_Lk RX5 TX5 0 := ⟨(ip_t1 (ip_v1_7 (List.mem_of_getElem? (l := ip_u1_7.1) (i := 5) rfl))), rfl⟩
theorem ip_La5_1 : ∀ j, j < 1 → ip_Lk RX5 TX5 j := fun j h => (Nat.lt_or_eq_of_le (Nat.le_of_lt_succ h)).elim (ip_La5_0 j) (fun e => e ▸ ip_Lx5_0)
set_option maxRecDepth 100000 in
theorem ip_Lx5_1 : ip_Lk RX5 TX5 1 := ⟨(ip_t1 (ip_v1_7 (List.mem_of_getElem? (l := ip_u1_7.1) (i := 7) rfl))), rfl⟩
theorem ip_La5_2 : ∀ j, j < 2 → ip_Lk RX5 TX5 j := fun j h => (Nat.lt_or_eq_of_le (Nat.le_of_lt_succ h)).elim (ip_La5_1 j) (fun e => e ▸ ip_Lx5_1)
set_option maxRecDepth 100000 in
theorem ip_Lx5_2 : ip_Lk RX5 TX5 2 := ⟨(ip_t1 (ip_v1_7 (List.mem_of_getElem? (l := ip_u1_7.1) (i := 9) rfl))), rfl⟩
theorem ip_La5_3 : ∀ j, j < 3 → ip_Lk RX5 TX5 j := fun j h => (Nat.lt_or_eq_of_le (Nat.le_of_lt_succ h)).elim (ip_La5_2 j) (fun e => e ▸ ip_Lx5_2)
set_option maxRecDepth 100000 in
theorem ip_Lx5_3 : ip_Lk RX5 TX5 3 := ⟨(ip_t1 (ip_v1_7 (List.mem_of_getElem? (l := ip_u1_7.1) (i := 11) rfl))), rfl⟩
theorem ip_La5_4 : ∀ j, j < 4 → ip_Lk RX5 TX5 j := fun j h => (Nat.lt_or_eq_of_le (Nat.le_of_lt_succ h)).elim (ip_La5_3 j) (fun e => e ▸ ip_Lx5_3)
set_option maxRecDepth 100000 in
theorem ip_Lx5_4 : ip_Lk RX5 TX5 4 := ⟨(ip_t1 (ip_v1_7 (List.mem_of_getElem? (l := ip_u1_7.1) (i := 13) rfl))), rfl⟩
theorem ip_La5_5 : ∀ j, j < 5 → ip_Lk RX5 TX5 j := fun j h => (Nat.lt_or_eq_of_le (Nat.le_of_lt_succ h)).elim (ip_La5_4 j) (fun e => e ▸ ip_Lx5_4)
set_option maxRecDepth 100000 in
theorem ip_Lx5_5 : ip_Lk RX5 TX5 5 := ⟨(ip_t1 (ip_v1_7 (List.mem_of_getElem? (l := ip_u1_7.1) (i := 15) rfl))), rfl⟩
theorem ip_La5_6 : ∀ j, j < 6 → ip_Lk RX5 TX5 j := fun j h => (Nat.lt_or_eq_of_le (Nat.le_of_lt_succ h)).elim (ip_La5_5 j) (fun e => e ▸ ip_Lx5_5)
set_option maxRecDepth 100000 in
theorem ip_Lx5_6 : ip_Lk RX5 TX5 6 := ⟨(ip_t2 (ip_v2_0 (List.mem_of_getElem? (l := ip_u2_0.1) (i := 1) rfl))), rfl⟩
theorem ip_La5_7 : ∀ j, j < 7 → ip_Lk RX5 TX5 j := fun j h => (Nat.lt_or_eq_of_le (Nat.le_of_lt_succ h)).elim (ip_La5_6 j) (fun e => e ▸ ip_Lx5_6)
set_option maxRecDepth 100000 in
theorem ip_Lx5_7 : ip_Lk RX5 TX5 7 := ⟨(ip_t2 (ip_v2_0 (List.mem_of_getElem? (l := ip_u2_0.1) (i := 3) rfl))), rfl⟩
theorem ip_La5_8 : ∀ j, j < 8 → ip_Lk RX5 TX5 j := fun j h => (Nat.lt_or_eq_of_le (Nat.le_of_lt_succ h)).elim (ip_La5_7 j) (fun e => e ▸ ip_Lx5_7)
theorem ip_La6_0 : ∀ j, j < 0 → ip_Lk RX6 TX6 j := fun j h => absurd h (Nat.not_lt_zero j)
set_option maxRecDepth 100000 in
theorem ip_Lx6_0 : ip_Lk RX6 TX6 0 := ⟨(ip_t1 (ip_v1_6 (List.mem_of_getElem? (l := ip_u1_6.1) (i := 3) rfl))), rfl⟩
theorem ip_La6_1 : ∀ j, j < 1 → ip_Lk RX6 TX6 j := fun j h => (Nat.lt_or_eq_of_le (Nat.le_of_lt_succ h)).elim (ip_La6_0 j) (fun e => e ▸ ip_Lx6_0)
set_option maxRecDepth 100000 in
theorem ip_Lx6_1 : ip_Lk RX6 TX6 1 := ⟨(ip_t1 (ip_v1_6 (List.mem_of_getElem? (l := ip_u1_6.1) (i := 5) rfl))), rfl⟩
theorem ip_La6_2 : ∀ j, j < 2 → ip_Lk RX6 TX6 j := fun j h => (Nat.lt_or_eq_of_le (Nat.le_of_lt_succ h)).elim (ip_La6_1 j) (fun e => e ▸ ip_Lx6_1)
set_option maxRecDepth 100000 in
theorem ip_Lx6_2 : ip_Lk RX6 TX6 2 := ⟨(ip_t1 (ip_v1_6 (List.mem_of_getElem? (l := ip_u1_6.1) (i := 7) rfl))), rfl⟩
theorem ip_La6_3 : ∀ j, j < 3 → ip_Lk RX6 TX6 j := fun j h => (Nat.lt_or_eq_of_le (Nat.le_of_lt_succ h)).elim (ip_La6_2 j) (fun e => e ▸ ip_Lx6_2)
set_option maxRecDepth 100000 in
theorem ip_Lx6_3 : ip_Lk RX6 TX6 3 := ⟨(ip_t1 (ip_v1_6 (List.mem_of_getElem? (l := ip_u1_6.1) (i := 9) rfl))), rfl⟩
theorem ip_La6_4 : ∀ j, j < 4 → ip_Lk RX6 TX6 j := fun j h => (Nat.lt_or_eq_of_le (Nat.le_of_lt_succ h)).elim (ip_La6_3 j) (fun e => e ▸ ip_Lx6_3)
set_option maxRecDepth 100000 in
theorem ip_Lx6_4 : ip_Lk RX6 TX6 4 := ⟨(ip_t1 (ip_v1_6 (List.mem_of_getElem? (l := ip_u1_6.1) (i := 11) rfl))), rfl⟩
theorem ip_La6_5 : ∀ j, j < 5 → ip_Lk RX6 TX6 j := fun j h => (Nat.lt_or_eq_of_le (Nat.le_of_lt_succ h)).elim (ip_La6_4 j) (fun e => e ▸ ip_Lx6_4)
theorem ip_La7_0 : ∀ j, j < 0 → ip_Lk RX7 TX7 j := fun j h => absurd h (Nat.not_lt_zero j)
set_option maxRecDepth 100000 in
theorem ip_Lx7_0 : ip_Lk RX7 TX7 0 := ⟨(ip_t2 (ip_v2_1 (List.mem_of_getElem? (l := ip_u2_1.1) (i := 6) rfl))), rfl⟩
theorem ip_La7_1 : ∀ j, j < 1 → ip_Lk RX7 TX7 j := fun j h => (Nat.lt_or_eq_of_le (Nat.le_of_lt_succ h)).elim (ip_La7_0 j) (fun e => e ▸ ip_Lx7_0)
set_option maxRecDepth 100000 in
theorem ip_Lx7_1 : ip_Lk RX7 TX7 1 := ⟨(ip_t2 (ip_v2_1 (List.mem_of_getElem? (l := ip_u2_1.1) (i := 8) rfl))), rfl⟩
theorem ip_La7_2 : ∀ j, j < 2 → ip_Lk RX7 TX7 j := fun j h => (Nat.lt_or_eq_of_le (Nat.le_of_lt_succ h)).elim (ip_La7_1 j) (fun e => e ▸ ip_Lx7_1)
theorem ip_La8_0 : ∀ j, j < 0 → ip_Lk RX8 TX8 j := fun j h => absurd h (Nat.not_lt_zero j)
set_option maxRecDepth 100000 in
theorem ip_Lx8_0 : ip_Lk RX8 TX8 0 := ⟨(ip_t1 (ip_v1_2 (List.mem_of_getElem? (l := ip_u1_2.1) (i := 1) rfl))), rfl⟩
theorem ip_La8_1 : ∀ j, j < 1 → ip_Lk RX8 TX8 j := fun j h => (Nat.lt_or_eq_of_le (Nat.le_of_lt_succ h)).elim (ip_La8_0 j) (fun e => e ▸ ip_Lx8_0)
set_option maxRecDepth 100000 in
theorem ip_Lx8_1 : ip_Lk RX8 TX8 1 := ⟨(ip_t1 (ip_v1_2 (List.mem_of_getElem? (l := ip_u1_2.1) (i := 3) rfl))), rfl⟩
theorem ip_La8_2 : ∀ j, j < 2 → ip_Lk RX8 TX8 j := fun j h => (Nat.lt_or_eq_of_le (Nat.le_of_lt_succ h)).elim (ip_La8_1 j) (fun e => e ▸ ip_Lx8_1)
set_option maxRecDepth 100000 in
theorem ip_Lx8_2 : ip_Lk RX8 TX8 2 := ⟨(ip_t1 (ip_v1_2 (List.mem_of_getElem? (l := ip_u1_2.1) (i := 5) rfl))), rfl⟩
theorem ip_La8_3 : ∀ j, j < 3 → ip_Lk RX8 TX8 j := fun j h => (Nat.lt_or_eq_of_le (Nat.le_of_lt_succ h)).elim (ip_La8_2 j) (fun e => e ▸ ip_Lx8_2)
set_option maxRecDepth 100000 in
theorem ip_Lx8_3 : ip_Lk RX8 TX8 3 := ⟨(ip_t1 (ip_v1_2 (List.mem_of_getElem? (l := ip_u1_2.1) (i := 7) rfl))), rfl⟩
theorem ip_La8_4 : ∀ j, j < 4 → ip_Lk RX8 TX8 j := fun j h => (Nat.lt_or_eq_of_le (Nat.le_of_lt_succ h)).elim (ip_La8_3 j) (fun e => e ▸ ip_Lx8_3)
theorem ip_La9_0 : ∀ j, j < 0 → ip_Lk RX9 TX9 j := fun j h => absurd h (Nat.not_lt_zero j)
set_option maxRecDepth 100000 in
theorem ip_Lx9_0 : ip_Lk RX9 TX9 0 := ⟨(ip_t1 (ip_v1_5 (List.mem_of_getElem? (l := ip_u1_5.1) (i := 14) rfl))), rfl⟩
theorem ip_La9_1 : ∀ j, j < 1 → ip_Lk RX9 TX9 j := fun j h => (Nat.lt_or_eq_of_le (Nat.le_of_lt_succ h)).elim (ip_La9_0 j) (fun e => e ▸ ip_Lx9_0)
set_option maxRecDepth 100000 in
theorem ip_Lx9_1 : ip_Lk RX9 TX9 1 := ⟨(ip_t1 (ip_v1_5 (List.mem_of_getElem? (l := ip_u1_5.1) (i := 16) rfl))), rfl⟩
theorem ip_La9_2 : ∀ j, j < 2 → ip_Lk RX9 TX9 j := fun j h => (Nat.lt_or_eq_of_le (Nat.le_of_lt_succ h)).elim (ip_La9_1 j) (fun e => e ▸ ip_Lx9_1)
theorem ip_La10_0 : ∀ j, j < 0 → ip_Lk RX10 TX10 j := fun j h => absurd h (Nat.not_lt_zero j)
set_option maxRecDepth 100000 in
theorem ip_Lx10_0 : ip_Lk RX10 TX10 0 := ⟨(ip_t2 (ip_v2_2 (List.mem_of_getElem? (l := ip_u2_2.1) (i := 9) rfl))), rfl⟩
theorem ip_La10_1 : ∀ j, j < 1 → ip_Lk RX10 TX10 j := fun j h => (Nat.lt_or_eq_of_le (Nat.le_of_lt_succ h)).elim (ip_La10_0 j) (fun e => e ▸ ip_Lx10_0)
set_option maxRecDepth 100000 in
theorem ip_Lx10_1 : ip_Lk RX10 TX10 1 := ⟨(ip_t2 (ip_v2_2 (List.mem_of_getElem? (l := ip_u2_2.1) (i := 11) rfl))), rfl⟩
theorem ip_La10_2 : ∀ j, j < 2 → ip_Lk RX10 TX10 j := fun j h => (Nat.lt_or_eq_of_le (Nat.le_of_lt_succ h)).elim (ip_La10_1 j) (fun e => e ▸ ip_Lx10_1)
set_option maxRecDepth 100000 in
theorem ip_Lx10_2 : ip_Lk RX10 TX10 2 := ⟨(ip_t2 (ip_v2_2 (List.mem_of_getElem? (l := ip_u2_2.1) (i := 13) rfl))), rfl⟩
theorem ip_La10_3 : ∀ j, j < 3 → ip_Lk RX10 TX10 j := fun j h => (Nat.lt_or_eq_of_le (Nat.le_of_lt_succ h)).elim (ip_La10_2 j) (fun e => e ▸ ip_Lx10_2)
set_option maxRecDepth 100000 in
theorem ip_Lx10_3 : ip_Lk RX10 TX10 3 := ⟨(ip_t2 (ip_v2_2 (List.mem_of_getElem? (l := ip_u2_2.1) (i := 15) rfl))), rfl⟩
theorem ip_La10_4 : ∀ j, j < 4 → ip_Lk RX10 TX10 j := fun j h => (Nat.lt_or_eq_of_le (Nat.le_of_lt_succ h)).elim (ip_La10_3 j) (fun e => e ▸ ip_Lx10_3)
set_option maxRecDepth 100000 in
theorem ip_Lx10_4 : ip_Lk RX10 TX10 4 := ⟨(ip_t2 (ip_v2_2 (List.mem_of_getElem? (l := ip_u2_2.1) (i := 17) rfl))), rfl⟩
theorem ip_La10_5 : ∀ j, j < 5 → ip_Lk RX10 TX10 j := fun j h => (Nat.lt_or_eq_of_le (Nat.le_of_lt_succ h)).elim (ip_La10_4 j) (fun e => e ▸ ip_Lx10_4)
set_option maxRecDepth 100000 in
theorem ip_Lx10_5 : ip_Lk RX10 TX10 5 := ⟨(ip_t2 (ip_v2_2 (List.mem_of_getElem? (l := ip_u2_2.1) (i := 19) rfl))), rfl⟩
theorem ip_La10_6 : ∀ j, j < 6 → ip_Lk RX10 TX10 j := fun j h => (Nat.lt_or_eq_of_le (Nat.le_of_lt_succ h)).elim (ip_La10_5 j) (fun e => e ▸ ip_Lx10_5)
set_option maxRecDepth 100000 in
theorem ip_Lx10_6 : ip_Lk RX10 TX10 6 := ⟨(ip_t2 (ip_v2_2 (List.mem_of_getElem? (l := ip_u2_2.1) (i := 21) rfl))), rfl⟩
theorem ip_La10_7 : ∀ j, j < 7 → ip_Lk RX10 TX10 j := fun j h => (Nat.lt_or_eq_of_le (Nat.le_of_lt_succ h)).elim (ip_La10_6 j) (fun e => e ▸ ip_Lx10_6)
set_option maxRecDepth 100000 in
theorem ip_Lx10_7 : ip_Lk RX10 TX10 7 := ⟨(ip_t2 (ip_v2_2 (List.mem_of_getElem? (l := ip_u2_2.1) (i := 23) rfl))), rfl⟩
theorem ip_La10_8 : ∀ j, j < 8 → ip_Lk RX10 TX10 j := fun j h => (Nat.lt_or_eq_of_le (Nat.le_of_lt_succ h)).elim (ip_La10_7 j) (fun e => e ▸ ip_Lx10_7)
set_option maxRecDepth 100000 in
theorem ip_Lx10_8 : ip_Lk RX10 TX10 8 := ⟨(ip_t2 (ip_v2_2 (List.mem_of_getElem? (l := ip_u2_2.1) (i := 25) rfl))), rfl⟩
theorem ip_La10_9 : ∀ j, j < 9 → ip_Lk RX10 TX10 j := fun j h => (Nat.lt_or_eq_of_le (Nat.le_of_lt_succ h)).elim (ip_La10_8 j) (fun e => e ▸ ip_Lx10_8)
set_option maxRecDepth 100000 in
theorem ip_Lx10_9 : ip_Lk RX10 TX10 9 := ⟨(ip_t2 (ip_v2_2 (List.mem_of_getElem? (l := ip_u2_2.1) (i := 27) rfl))), rfl⟩
theorem ip_La10_10 : ∀ j, j < 10 → ip_Lk RX10 TX10 j := fun j h => (Nat.lt_or_eq_of_le (Nat.le_of_lt_succ h)).elim (ip_La10_9 j) (fun e => e ▸ ip_Lx10_9)
set_option maxRecDepth 100000 in
theorem ip_Lx10_10 : ip_Lk RX10 TX10 10 := ⟨(ip_t2 (ip_v2_2 (List.mem_of_getElem? (l := ip_u2_2.1) (i := 29) rfl))), rfl⟩
theorem ip_La10_11 : ∀ j, j < 11 → ip_Lk RX10 TX10 j := fun j h => (Nat.lt_or_eq_of_le (Nat.le_of_lt_succ h)).elim (ip_La10_10 j) (fun e => e ▸ ip_Lx10_10)
set_option maxRecDepth 100000 in
theorem ip_Lx10_11 : ip_Lk RX10 TX10 11 := ⟨(ip_t2 (ip_v2_2 (List.mem_of_getElem? (l := ip_u2_2.1) (i := 31) rfl))), rfl⟩
theorem ip_La10_12 : ∀ j, j < 12 → ip_Lk RX10 TX10 j := fun j h => (Nat.lt_or_eq_of_le (Nat.le_of_lt_succ h)).elim (ip_La10_11 j) (fun e => e ▸ ip_Lx10_11)
set_option maxRecDepth 100000 in
theorem ip_Lx10_12 : ip_Lk RX10 TX10 12 := ⟨(ip_t2 (ip_v2_3 (List.mem_of_getElem? (l := ip_u2_3.1) (i := 1) rfl))), rfl⟩
theorem ip_La10_13 : ∀ j, j < 13 → ip_Lk RX10 TX10 j := fun j h => (Nat.lt_or_eq_of_le (Nat.le_of_lt_succ h)).elim (ip_La10_12 j) (fun e => e ▸ ip_Lx10_12)
set_option maxRecDepth 100000 in
theorem ip_Lx10_13 : ip_Lk RX10 TX10 13 := ⟨(ip_t2 (ip_v2_3 (List.mem_of_getElem? (l := ip_u2_3.1) (i := 3) rfl))), rfl⟩
theorem ip_La10_14 : ∀ j, j < 14 → ip_Lk RX10 TX10 j := fun j h => (Nat.lt_or_eq_of_le (Nat.le_of_lt_succ h)).elim (ip_La10_13 j) (fun e => e ▸ ip_Lx10_13)
theorem ip_La11_0 : ∀ j, j < 0 → ip_Lk RX11 TX11 j := fun j h => absurd h (Nat.not_lt_zero j)
set_option maxRecDepth 100000 in
theorem ip_Lx11_0 : ip_Lk RX11 TX11 0 := ⟨(ip_t5 (ip_v5_4 (List.mem_of_getElem? (l := ip_u5_4.1) (i := 6) rfl))), rfl⟩
theorem ip_La11_1 : ∀ j, j < 1 → ip_Lk RX11 TX11 j := fun j h => (Nat.lt_or_eq_of_le (Nat.le_of_lt_succ h)).elim (ip_La11_0 j) (fun e => e ▸ ip_Lx11_0)
set_option maxRecDepth 100000 in
theorem ip_Lx11_1 : ip_Lk RX11 TX11 1 := ⟨(ip_t5 (ip_v5_4 (List.mem_of_getElem? (l := ip_u5_4.1) (i := 8) rfl))), rfl⟩
theorem ip_La11_2 : ∀ j, j < 2 → ip_Lk RX11 TX11 j := fun j h => (Nat.lt_or_eq_of_le (Nat.le_of_lt_succ h)).elim (ip_La11_1 j) (fun e => e ▸ ip_Lx11_1)
set_option maxRecDepth 100000 in
theorem ip_Lx11_2 : ip_Lk RX11 TX11 2 := ⟨(ip_t5 (ip_v5_4 (List.mem_of_getElem? (l := ip_u5_4.1) (i := 10) rfl))), rfl⟩
theorem ip_La11_3 : ∀ j, j < 3 → ip_Lk RX11 TX11 j := fun j h => (Nat.lt_or_eq_of_le (Nat.le_of_lt_succ h)).elim (ip_La11_2 j) (fun e => e ▸ ip_Lx11_2)
set_option maxRecDepth 100000 in
theorem ip_Lx11_3 : ip_Lk RX11 TX11 3 := ⟨(ip_t5 (ip_v5_4 (List.mem_of_getElem? (l := ip_u5_4.1) (i := 12) rfl))), rfl⟩
theorem ip_La11_4 : ∀ j, j < 4 → ip_Lk RX11 TX11 j := fun j h => (Nat.lt_or_eq_of_le (Nat.le_of_lt_succ h)).elim (ip_La11_3 j) (fun e => e ▸ ip_Lx11_3)
set_option maxRecDepth 100000 in
theorem ip_Lx11_4 : ip_Lk RX11 TX11 4 := ⟨(ip_t5 (ip_v5_4 (List.mem_of_getElem? (l := ip_u5_4.1) (i := 14) rfl))), rfl⟩
theorem ip_La11_5 : ∀ j, j < 5 → ip_Lk RX11 TX11 j := fun j h => (Nat.lt_or_eq_of_le (Nat.le_of_lt_succ h)).elim (ip_La11_4 j) (fun e => e ▸ ip_Lx11_4)
set_option maxRecDepth 100000 in
theorem ip_Lx11_5 : ip_Lk RX11 TX11 5 := ⟨(ip_t5 (ip_v5_4 (List.mem_of_getElem? (l := ip_u5_4.1) (i := 16) rfl))), rfl⟩
theorem ip_La11_6 : ∀ j, j < 6 → ip_Lk RX11 TX11 j := fun j h => (Nat.lt_or_eq_of_le (Nat.le_of_lt_succ h)).elim (ip_La11_5 j) (fun e => e ▸ ip_Lx11_5)
set_option maxRecDepth 100000 in
theorem ip_Lx11_6 : ip_Lk RX11 TX11 6 := ⟨(ip_t5 (ip_v5_4 (List.mem_of_getElem? (l := ip_u5_4.1) (i := 18) rfl))), rfl⟩
theorem ip_La11_7 : ∀ j, j < 7 → ip_Lk RX11 TX11 j := fun j h => (Nat.lt_or_eq_of_le (Nat.le_of_lt_succ h)).elim (ip_La11_6 j) (fun e => e ▸ ip_Lx11_6)
set_option maxRecDepth 100000 in
theorem ip_Lx11_7 : ip_Lk RX11 TX11 7 := ⟨(ip_t5 (ip_v5_4 (List.mem_of_getElem? (l := ip_u5_4.1) (i := 20) rfl))), rfl⟩
theorem ip_La11_8 : ∀ j, j < 8 → ip_Lk RX11 TX11 j := fun j h => (Nat.lt_or_eq_of_le (Nat.le_of_lt_succ h)).elim (ip_La11_7 j) (fun e => e ▸ ip_Lx11_7)
set_option maxRecDepth 100000 in
theorem ip_Lx11_8 : ip_Lk RX11 TX11 8 := ⟨(ip_t5 (ip_v5_4 (List.mem_of_getElem? (l := ip_u5_4.1) (i := 22) rfl))), rfl⟩
theorem ip_La11_9 : ∀ j, j < 9 → ip_Lk RX11 TX11 j := fun j h => (Nat.lt_or_eq_of_le (Nat.le_of_lt_succ h)).elim (ip_La11_8 j) (fun e => e ▸ ip_Lx11_8)
set_option maxRecDepth 100000 in
theorem ip_Lx11_9 : ip_Lk RX11 TX11 9 := ⟨(ip_t5 (ip_v5_4 (List.mem_of_getElem? (l := ip_u5_4.1) (i := 24) rfl))), rfl⟩
theorem ip_La11_10 : ∀ j, j < 10 → ip_Lk RX11 TX11 j := fun j h => (Nat.lt_or_eq_of_le (Nat.le_of_lt_succ h)).elim (ip_La11_9 j) (fun e => e ▸ ip_Lx11_9)
set_option maxRecDepth 100000 in
theorem ip_Lx11_10 : ip_Lk RX11 TX11 10 := ⟨(ip_t5 (ip_v5_4 (List.mem_of_getElem? (l := ip_u5_4.1) (i := 26) rfl))), rfl⟩
theorem ip_La11_11 : ∀ j, j < 11 → ip_Lk RX11 TX11 j := fun j h => (Nat.lt_or_eq_of_le (Nat.le_of_lt_succ h)).elim (ip_La11_10 j) (fun e => e ▸ ip_Lx11_10)
set_option maxRecDepth 100000 in
theorem ip_Lx11_11 : ip_Lk RX11 TX11 11 := ⟨(ip_t5 (ip_v5_4 (List.mem_of_getElem? (l := ip_u5_4.1) (i := 28) rfl))), rfl⟩
theorem ip_La11_12 : ∀ j, j < 12 → ip_Lk RX11 TX11 j := fun j h => (Nat.lt_or_eq_of_le (Nat.le_of_lt_succ h)).elim (ip_La11_11 j) (fun e => e ▸ ip_Lx11_11)
set_option maxRecDepth 100000 in
theorem ip_Lx11_12 : ip_Lk RX11 TX11 12 := ⟨(ip_t5 (ip_v5_4 (List.mem_of_getElem? (l := ip_u5_4.1) (i := 30) rfl))), rfl⟩
theorem ip_La11_13 : ∀ j, j < 13 → ip_Lk RX11 TX11 j := fun j h => (Nat.lt_or_eq_of_le (Nat.le_of_lt_succ h)).elim (ip_La11_12 j) (fun e => e ▸ ip_Lx11_12)
set_option maxRecDepth 100000 in
theorem ip_Lx11_13 : ip_Lk RX11 TX11 13 := ⟨(ip_t5 (ip_v5_5 (List.mem_of_getElem? (l := ip_u5_5.1) (i := 0) rfl))), rfl⟩
theorem ip_La11_14 : ∀ j, j < 14 → ip_Lk RX11 TX11 j := fun j h => (Nat.lt_or_eq_of_le (Nat.le_of_lt_succ h)).elim (ip_La11_13 j) (fun e => e ▸ ip_Lx11_13)
set_option maxRecDepth 100000 in
theorem ip_Lx11_14 : ip_Lk RX11 TX11 14 := ⟨(ip_t5 (ip_v5_5 (List.mem_of_getElem? (l := ip_u5_5.1) (i := 2) rfl))), rfl⟩
theorem ip_La11_15 : ∀ j, j < 15 → ip_Lk RX11 TX11 j := fun j h => (Nat.lt_or_eq_of_le (Nat.le_of_lt_succ h)).elim (ip_La11_14 j) (fun e => e ▸ ip_Lx11_14)
set_option maxRecDepth 100000 in
theorem ip_Lx11_15 : ip_Lk RX11 TX11 15 := ⟨(ip_t5 (ip_v5_5 (List.mem_of_getElem? (l := ip_u5_5.1) (i := 4) rfl))), rfl⟩
theorem ip_La11_16 : ∀ j, j < 16 → ip_Lk RX11 TX11 j := fun j h => (Nat.lt_or_eq_of_le (Nat.le_of_lt_succ h)).elim (ip_La11_15 j) (fun e => e ▸ ip_Lx11_15)
set_option maxRecDepth 100000 in
theorem ip_Lx11_16 : ip_Lk RX11 TX11 16 := ⟨(ip_t5 (ip_v5_5 (List.mem_of_getElem? (l := ip_u5_5.1) (i := 6) rfl))), rfl⟩
theorem ip_La11_17 : ∀ j, j < 17 → ip_Lk RX11 TX11 j := fun j h => (Nat.lt_or_eq_of_le (Nat.le_of_lt_succ h)).elim (ip_La11_16 j) (fun e => e ▸ ip_Lx11_16)
set_option maxRecDepth 100000 in
theorem ip_Lx11_17 : ip_Lk RX11 TX11 17 := ⟨(ip_t5 (ip_v5_5 (List.mem_of_getElem? (l := ip_u5_5.1) (i := 8) rfl))), rfl⟩
theorem ip_La11_18 : ∀ j, j < 18 → ip_Lk RX11 TX11 j := fun j h => (Nat.lt_or_eq_of_le (Nat.le_of_lt_succ h)).elim (ip_La11_17 j) (fun e => e ▸ ip_Lx11_17)
set_option maxRecDepth 100000 in
theorem ip_Lx11_18 : ip_Lk RX11 TX11 18 := ⟨(ip_t5 (ip_v5_5 (List.mem_of_getElem? (l := ip_u5_5.1) (i := 10) rfl))), rfl⟩
theorem ip_La11_19 : ∀ j, j < 19 → ip_Lk RX11 TX11 j := fun j h => (Nat.lt_or_eq_of_le (Nat.le_of_lt_succ h)).elim (ip_La11_18 j) (fun e => e ▸ ip_Lx11_18)
set_option maxRecDepth 100000 in
theorem ip_Lx11_19 : ip_Lk RX11 TX11 19 := ⟨(ip_t5 (ip_v5_5 (List.mem_of_getElem? (l := ip_u5_5.1) (i := 12) rfl))), rfl⟩
theorem ip_La11_20 : ∀ j, j < 20 → ip_Lk RX11 TX11 j := fun j h => (Nat.lt_or_eq_of_le (Nat.le_of_lt_succ h)).elim (ip_La11_19 j) (fun e => e ▸ ip_Lx11_19)
set_option maxRecDepth 100000 in
theorem ip_Lx11_20 : ip_Lk RX11 TX11 20 := ⟨(ip_t5 (ip_v5_5 (List.mem_of_getElem? (l := ip_u5_5.1) (i := 14) rfl))), rfl⟩
theorem ip_La11_21 : ∀ j, j < 21 → ip_Lk RX11 TX11 j := fun j h => (Nat.lt_or_eq_of_le (Nat.le_of_lt_succ h)).elim (ip_La11_20 j) (fun e => e ▸ ip_Lx11_20)
set_option maxRecDepth 100000 in
theorem ip_Lx11_21 : ip_Lk RX11 TX11 21 := ⟨(ip_t5 (ip_v5_5 (List.mem_of_getElem? (l := ip_u5_5.1) (i := 16) rfl))), rfl⟩
theorem ip_La11_22 : ∀ j, j < 22 → ip_Lk RX11 TX11 j := fun j h => (Nat.lt_or_eq_of_le (Nat.le_of_lt_succ h)).elim (ip_La11_21 j) (fun e => e ▸ ip_Lx11_21)
set_option maxRecDepth 100000 in
theorem ip_Lx11_22 : ip_Lk RX11 TX11 22 := ⟨(ip_t5 (ip_v5_5 (List.mem_of_getElem? (l := ip_u5_5.1) (i := 18) rfl))), rfl⟩
theorem ip_La11_23 : ∀ j, j < 23 → ip_Lk RX11 TX11 j := fun j h => (Nat.lt_or_eq_of_le (Nat.le_of_lt_succ h)).elim (ip_La11_22 j) (fun e => e ▸ ip_Lx11_22)
set_option maxRecDepth 100000 in
theorem ip_Lx11_23 : ip_Lk RX11 TX11 23 := ⟨(ip_t5 (ip_v5_5 (List.mem_of_getElem? (l := ip_u5_5.1) (i := 20) rfl))), rfl⟩
theorem ip_La11_24 : ∀ j, j < 24 → ip_Lk RX11 TX11 j := fun j h => (Nat.lt_or_eq_of_le (Nat.le_of_lt_succ h)).elim (ip_La11_23 j) (fun e => e ▸ ip_Lx11_23)
set_option maxRecDepth 100000 in
theorem ip_Lx11_24 : ip_Lk RX11 TX11 24 := ⟨(ip_t5 (ip_v5_5 (List.mem_of_getElem? (l := ip_u5_5.1) (i := 22) rfl))), rfl⟩
theorem ip_La11_25 : ∀ j, j < 25 → ip_Lk RX11 TX11 j := fun j h => (Nat.lt_or_eq_of_le (Nat.le_of_lt_succ h)).elim (ip_La11_24 j) (fun e => e ▸ ip_Lx11_24)
set_option maxRecDepth 100000 in
theorem ip_Lx11_25 : ip_Lk RX11 TX11 25 := ⟨(ip_t5 (ip_v5_5 (List.mem_of_getElem? (l := ip_u5_5.1) (i := 24) rfl))), rfl⟩
theorem ip_La11_26 : ∀ j, j < 26 → ip_Lk RX11 TX11 j := fun j h => (Nat.lt_or_eq_of_le (Nat.le_of_lt_succ h)).elim (ip_La11_25 j) (fun e => e ▸ ip_Lx11_25)
set_option maxRecDepth 100000 in
theorem ip_Lx11_26 : ip_Lk RX11 TX11 26 := ⟨(ip_t5 (ip_v5_5 (List.mem_of_getElem? (l := ip_u5_5.1) (i := 26) rfl))), rfl⟩
theorem ip_La11_27 : ∀ j, j < 27 → ip_Lk RX11 TX11 j := fun j h => (Nat.lt_or_eq_of_le (Nat.le_of_lt_succ h)).elim (ip_La11_26 j) (fun e => e ▸ ip_Lx11_26)
set_option maxRecDepth 100000 in
theorem ip_Lx11_27 : ip_Lk RX11 TX11 27 := ⟨(ip_t5 (ip_v5_5 (List.mem_of_getElem? (l := ip_u5_5.1) (i := 28) rfl))), rfl⟩
theorem ip_La11_28 : ∀ j, j < 28 → ip_Lk RX11 TX11 j := fun j h => (Nat.lt_or_eq_of_le (Nat.le_of_lt_succ h)).elim (ip_La11_27 j) (fun e => e ▸ ip_Lx11_27)
set_option maxRecDepth 100000 in
theorem ip_Lx11_28 : ip_Lk RX11 TX11 28 := ⟨(ip_t5 (ip_v5_5 (List.mem_of_getElem? (l := ip_u5_5.1) (i := 30) rfl))), rfl⟩
theorem ip_La11_29 : ∀ j, j < 29 → ip_Lk RX11 TX11 j := fun j h => (Nat.lt_or_eq_of_le (Nat.le_of_lt_succ h)).elim (ip_La11_28 j) (fun e => e ▸ ip_Lx11_28)
set_option maxRecDepth 100000 in
theorem ip_Lx11_29 : ip_Lk RX11 TX11 29 := ⟨(ip_t5 (ip_v5_6 (List.mem_of_getElem? (l := ip_u5_6.1) (i := 0) rfl))), rfl⟩
theorem ip_La11_30 : ∀ j, j < 30 → ip_Lk RX11 TX11 j := fun j h => (Nat.lt_or_eq_of_le (Nat.le_of_lt_succ h)).elim (ip_La11_29 j) (fun e => e ▸ ip_Lx11_29)
set_option maxRecDepth 100000 in
theorem ip_Lx11_30 : ip_Lk RX11 TX11 30 := ⟨(ip_t5 (ip_v5_6 (List.mem_of_getElem? (l := ip_u5_6.1) (i := 2) rfl))), rfl⟩
theorem ip_La11_31 : ∀ j, j < 31 → ip_Lk RX11 TX11 j := fun j h => (Nat.lt_or_eq_of_le (Nat.le_of_lt_succ h)).elim (ip_La11_30 j) (fun e => e ▸ ip_Lx11_30)
set_option maxRecDepth 100000 in
theorem ip_Lx11_31 : ip_Lk RX11 TX11 31 := ⟨(ip_t5 (ip_v5_6 (List.mem_of_getElem? (l := ip_u5_6.1) (i := 4) rfl))), rfl⟩
theorem ip_La11_32 : ∀ j, j < 32 → ip_Lk RX11 TX11 j := fun j h => (Nat.lt_or_eq_of_le (Nat.le_of_lt_succ h)).elim (ip_La11_31 j) (fun e => e ▸ ip_Lx11_31)
set_option maxRecDepth 100000 in
theorem ip_Lx11_32 : ip_Lk RX11 TX11 32 := ⟨(ip_t5 (ip_v5_6 (List.mem_of_getElem? (l := ip_u5_6.1) (i := 6) rfl))), rfl⟩
theorem ip_La11_33 : ∀ j, j < 33 → ip_Lk RX11 TX11 j := fun j h => (Nat.lt_or_eq_of_le (Nat.le_of_lt_succ h)).elim (ip_La11_32 j) (fun e => e ▸ ip_Lx11_32)
set_option maxRecDepth 100000 in
theorem ip_Lx11_33 : ip_Lk RX11 TX11 33 := ⟨(ip_t5 (ip_v5_6 (List.mem_of_getElem? (l := ip_u5_6.1) (i := 8) rfl))), rfl⟩
theorem ip_La11_34 : ∀ j, j < 34 → ip_Lk RX11 TX11 j := fun j h => (Nat.lt_or_eq_of_le (Nat.le_of_lt_succ h)).elim (ip_La11_33 j) (fun e => e ▸ ip_Lx11_33)
set_option maxRecDepth 100000 in
theorem ip_Lx11_34 : ip_Lk RX11 TX11 34 := ⟨(ip_t5 (ip_v5_6 (List.mem_of_getElem? (l := ip_u5_6.1) (i := 10) rfl))), rfl⟩
theorem ip_La11_35 : ∀ j, j < 35 → ip_Lk RX11 TX11 j := fun j h => (Nat.lt_or_eq_of_le (Nat.le_of_lt_succ h)).elim (ip_La11_34 j) (fun e => e ▸ ip_Lx11_34)
set_option maxRecDepth 100000 in
theorem ip_Lx11_35 : ip_Lk RX11 TX11 35 := ⟨(ip_t5 (ip_v5_6 (List.mem_of_getElem? (l := ip_u5_6.1) (i := 12) rfl))), rfl⟩
theorem ip_La11_36 : ∀ j, j < 36 → ip_Lk RX11 TX11 j := fun j h => (Nat.lt_or_eq_of_le (Nat.le_of_lt_succ h)).elim (ip_La11_35 j) (fun e => e ▸ ip_Lx11_35)
set_option maxRecDepth 100000 in
theorem ip_Lx11_36 : ip_Lk RX11 TX11 36 := ⟨(ip_t5 (ip_v5_6 (List.mem_of_getElem? (l := ip_u5_6.1) (i := 14) rfl))), rfl⟩
theorem ip_La11_37 : ∀ j, j < 37 → ip_Lk RX11 TX11 j := fun j h => (Nat.lt_or_eq_of_le (Nat.le_of_lt_succ h)).elim (ip_La11_36 j) (fun e => e ▸ ip_Lx11_36)
set_option maxRecDepth 100000 in
theorem ip_Lx11_37 : ip_Lk RX11 TX11 37 := ⟨(ip_t5 (ip_v5_6 (List.mem_of_getElem? (l := ip_u5_6.1) (i := 16) rfl))), rfl⟩
theorem ip_La11_38 : ∀ j, j < 38 → ip_Lk RX11 TX11 j := fun j h => (Nat.lt_or_eq_of_le (Nat.le_of_lt_succ h)).elim (ip_La11_37 j) (fun e => e ▸ ip_Lx11_37)
set_option maxRecDepth 100000 in
theorem ip_Lx11_38 : ip_Lk RX11 TX11 38 := ⟨(ip_t5 (ip_v5_6 (List.mem_of_getElem? (l := ip_u5_6.1) (i := 18) rfl))), rfl⟩
theorem ip_La11_39 : ∀ j, j < 39 → ip_Lk RX11 TX11 j := fun j h => (Nat.lt_or_eq_of_le (Nat.le_of_lt_succ h)).elim (ip_La11_38 j) (fun e => e ▸ ip_Lx11_38)
set_option maxRecDepth 100000 in
theorem ip_Lx11_39 : ip_Lk RX11 TX11 39 := ⟨(ip_t5 (ip_v5_6 (List.mem_of_getElem? (l := ip_u5_6.1) (i := 20) rfl))), rfl⟩
theorem ip_La11_40 : ∀ j, j < 40 → ip_Lk RX11 TX11 j := fun j h => (Nat.lt_or_eq_of_le (Nat.le_of_lt_succ h)).elim (ip_La11_39 j) (fun e => e ▸ ip_Lx11_39)
set_option maxRecDepth 100000 in
theorem ip_Lx11_40 : ip_Lk RX11 TX11 40 := ⟨(ip_t5 (ip_v5_6 (List.mem_of_getElem? (l := ip_u5_6.1) (i := 22) rfl))), rfl⟩
theorem ip_La11_41 : ∀ j, j < 41 → ip_Lk RX11 TX11 j := fun j h => (Nat.lt_or_eq_of_le (Nat.le_of_lt_succ h)).elim (ip_La11_40 j) (fun e => e ▸ ip_Lx11_40)
set_option maxRecDepth 100000 in
theorem ip_Lx11_41 : ip_Lk RX11 TX11 41 := ⟨(ip_t5 (ip_v5_6 (List.mem_of_getElem? (l := ip_u5_6.1) (i := 24) rfl))), rfl⟩
theorem ip_La11_42 : ∀ j, j < 42 → ip_Lk RX11 TX11 j := fun j h => (Nat.lt_or_eq_of_le (Nat.le_of_lt_succ h)).elim (ip_La11_41 j) (fun e => e ▸ ip_Lx11_41)
set_option maxRecDepth 100000 in
theorem ip_Lx11_42 : ip_Lk RX11 TX11 42 := ⟨(ip_t5 (ip_v5_6 (List.mem_of_getElem? (l := ip_u5_6.1) (i := 26) rfl))), rfl⟩
theorem ip_La11_43 : ∀ j, j < 43 → ip_Lk RX11 TX11 j := fun j h => (Nat.lt_or_eq_of_le (Nat.le_of_lt_succ h)).elim (ip_La11_42 j) (fun e => e ▸ ip_Lx11_42)
set_option maxRecDepth 100000 in
theorem ip_Lx11_43 : ip_Lk RX11 TX11 43 := ⟨(ip_t5 (ip_v5_6 (List.mem_of_getElem? (l := ip_u5_6.1) (i := 28) rfl))), rfl⟩
theorem ip_La11_44 : ∀ j, j < 44 → ip_Lk RX11 TX11 j := fun j h => (Nat.lt_or_eq_of_le (Nat.le_of_lt_succ h)).elim (ip_La11_43 j) (fun e => e ▸ ip_Lx11_43)
set_option maxRecDepth 100000 in
theorem ip_Lx11_44 : ip_Lk RX11 TX11 44 := ⟨(ip_t5 (ip_v5_6 (List.mem_of_getElem? (l := ip_u5_6.1) (i := 30) rfl))), rfl⟩
theorem ip_La11_45 : ∀ j, j < 45 → ip_Lk RX11 TX11 j := fun j h => (Nat.lt_or_eq_of_le (Nat.le_of_lt_succ h)).elim (ip_La11_44 j) (fun e => e ▸ ip_Lx11_44)
set_option maxRecDepth 100000 in
theorem ip_Lx11_45 : ip_Lk RX11 TX11 45 := ⟨(ip_t5 (ip_v5_7 (List.mem_of_getElem? (l := ip_u5_7.1) (i := 0) rfl))), rfl⟩
theorem ip_La11_46 : ∀ j, j < 46 → ip_Lk RX11 TX11 j := fun j h => (Nat.lt_or_eq_of_le (Nat.le_of_lt_succ h)).elim (ip_La11_45 j) (fun e => e ▸ ip_Lx11_45)
set_option maxRecDepth 100000 in
theorem ip_Lx11_46 : ip_Lk RX11 TX11 46 := ⟨(ip_t5 (ip_v5_7 (List.mem_of_getElem? (l := ip_u5_7.1) (i := 2) rfl))), rfl⟩
theorem ip_La11_47 : ∀ j, j < 47 → ip_Lk RX11 TX11 j := fun j h => (Nat.lt_or_eq_of_le (Nat.le_of_lt_succ h)).elim (ip_La11_46 j) (fun e => e ▸ ip_Lx11_46)
set_option maxRecDepth 100000 in
theorem ip_Lx11_47 : ip_Lk RX11 TX11 47 := ⟨(ip_t5 (ip_v5_7 (List.mem_of_getElem? (l := ip_u5_7.1) (i := 4) rfl))), rfl⟩
theorem ip_La11_48 : ∀ j, j < 48 → ip_Lk RX11 TX11 j := fun j h => (Nat.lt_or_eq_of_le (Nat.le_of_lt_succ h)).elim (ip_La11_47 j) (fun e => e ▸ ip_Lx11_47)
theorem ip_Lb {C : String} {T : u_T} {N : Nat} (h : ∀ j, j < N → ip_Lk C T j) : ((u_ws C T N).all fun w => decide (w ∈ lw_tbl) && ip_gw w) = true := by
  rw [List.all_eq_true]
  intro w hw
  obtain ⟨k, hk, e⟩ := List.mem_map.mp hw
  rw [Bool.and_eq_true, decide_eq_true_eq, ← e]
  exact h k (List.mem_range.mp hk)
theorem ip_Lw : (ip_cl.all fun q => (u_ws q.1 q.2.1 q.2.2).all fun w => decide (w ∈ lw_tbl) && ip_gw w) = true := List.all_eq_true.mpr (List.forall_mem_cons.mpr ⟨ip_Lb ip_La0_2, List.forall_mem_cons.mpr ⟨ip_Lb ip_La1_15, List.forall_mem_cons.mpr ⟨ip_Lb ip_La2_5, List.forall_mem_cons.mpr ⟨ip_Lb ip_La3_6, List.forall_mem_cons.mpr ⟨ip_Lb ip_La4_1, List.forall_mem_cons.mpr ⟨ip_Lb ip_La5_8, List.forall_mem_cons.mpr ⟨ip_Lb ip_La6_5, List.forall_mem_cons.mpr ⟨ip_Lb ip_La7_2, List.forall_mem_cons.mpr ⟨ip_Lb ip_La8_4, List.forall_mem_cons.mpr ⟨ip_Lb ip_La9_2, List.forall_mem_cons.mpr ⟨ip_Lb ip_La10_14, List.forall_mem_cons.mpr ⟨ip_Lb ip_La11_48, List.forall_mem_nil _⟩⟩⟩⟩⟩⟩⟩⟩⟩⟩⟩⟩)
set_option maxRecDepth 100000 in
theorem ip_Tn : (ip_cl.all fun q => (List.range q.2.2).all fun a => (List.range q.2.2).all fun b => decide (a = b) || decide ((q.2.1 a).2.1 ≠ (q.2.1 b).2.1)) = true := by decide +kernel
set_option maxRecDepth 100000 in
theorem ip_Ty : ((List.range 12).all fun ci => (List.range (ip_cl.getD ci (RX0, TX0, 0)).2.2).all fun a => decide (parseFieldDescriptor ((ip_cl.getD ci (RX0, TX0, 0)).2.1 a).2.2.1 = some (ip_fty ci a)) && decide (((ip_cl.getD ci (RX0, TX0, 0)).2.1 a).1 = (ip_cl.getD ci (RX0, TX0, 0)).1)) = true := by decide +kernel
end
