noncomputable section
-- PART 00.pieces
-- THE TABLES IN PIECES
theorem ip_xt1 {w : Cond} (h : w ∈ tables_1_1) : w ∈ tables_1 := (List.mem_append_left _ h)
theorem ip_xt2 {w : Cond} (h : w ∈ tables_1_2) : w ∈ tables_1 := (List.mem_append_right _ (List.mem_append_left _ h))
theorem ip_xt3 {w : Cond} (h : w ∈ tables_1_3) : w ∈ tables_1 := (List.mem_append_right _ (List.mem_append_right _ (List.mem_append_left _ h)))
theorem ip_xt4 {w : Cond} (h : w ∈ tables_1_4) : w ∈ tables_1 := (List.mem_append_right _ (List.mem_append_right _ (List.mem_append_right _ (List.mem_append_left _ h))))
theorem ip_xt5 {w : Cond} (h : w ∈ tables_1_5) : w ∈ tables_1 := (List.mem_append_right _ (List.mem_append_right _ (List.mem_append_right _ (List.mem_append_right _ (List.mem_append_left _ h)))))
theorem ip_xt6 {w : Cond} (h : w ∈ tables_1_6) : w ∈ tables_1 := (List.mem_append_right _ (List.mem_append_right _ (List.mem_append_right _ (List.mem_append_right _ (List.mem_append_right _ (List.mem_append_left _ h))))))
theorem ip_xt7 {w : Cond} (h : w ∈ tables_1_7) : w ∈ tables_1 := (List.mem_append_right _ (List.mem_append_right _ (List.mem_append_right _ (List.mem_append_right _ (List.mem_append_right _ (List.mem_append_right _ (List.mem_append_left _ h)))))))
theorem ip_xt8 {w : Cond} (h : w ∈ tables_1_8) : w ∈ tables_1 := (List.mem_append_right _ (List.mem_append_right _ (List.mem_append_right _ (List.mem_append_right _ (List.mem_append_right _ (List.mem_append_right _ (List.mem_append_right _ h)))))))
set_option maxRecDepth 100000 in
noncomputable def ip_u1_0 : { l : List Cond // l = (tables_1_1.drop 0).take 32 } := by
  refine ⟨?l, ?h⟩
  case h =>
    unfold tables_1_1
    simp only [List.drop_succ_cons, List.drop_zero, List.take_succ_cons, List.take_zero, List.take_nil]
    exact rfl
theorem ip_v1_0 {w : Cond} (h : w ∈ ip_u1_0.1) : w ∈ tables_1_1 := List.mem_of_mem_drop (List.mem_of_mem_take (ip_u1_0.2 ▸ h))
set_option maxRecDepth 100000 in
noncomputable def ip_u1_1 : { l : List Cond // l = (tables_1_1.drop 32).take 32 } := by
  refine ⟨?l, ?h⟩
  case h =>
    unfold tables_1_1
    simp only [List.drop_succ_cons, List.drop_zero, List.take_succ_cons, List.take_zero, List.take_nil]
    exact rfl
theorem ip_v1_1 {w : Cond} (h : w ∈ ip_u1_1.1) : w ∈ tables_1_1 := List.mem_of_mem_drop (List.mem_of_mem_take (ip_u1_1.2 ▸ h))
set_option maxRecDepth 100000 in
noncomputable def ip_u1_2 : { l : List Cond // l = (tables_1_1.drop 64).take 32 } := by
  refine ⟨?l, ?h⟩
  case h =>
    unfold tables_1_1
    simp only [List.drop_succ_cons, List.drop_zero, List.take_succ_cons, List.take_zero, List.take_nil]
    exact rfl
theorem ip_v1_2 {w : Cond} (h : w ∈ ip_u1_2.1) : w ∈ tables_1_1 := List.mem_of_mem_drop (List.mem_of_mem_take (ip_u1_2.2 ▸ h))
set_option maxRecDepth 100000 in
noncomputable def ip_u1_3 : { l : List Cond // l = (tables_1_1.drop 96).take 32 } := by
  refine ⟨?l, ?h⟩
  case h =>
    unfold tables_1_1
    simp only [List.drop_succ_cons, List.drop_zero, List.take_succ_cons, List.take_zero, List.take_nil]
    exact rfl
theorem ip_v1_3 {w : Cond} (h : w ∈ ip_u1_3.1) : w ∈ tables_1_1 := List.mem_of_mem_drop (List.mem_of_mem_take (ip_u1_3.2 ▸ h))
set_option maxRecDepth 100000 in
noncomputable def ip_u1_4 : { l : List Cond // l = (tables_1_1.drop 128).take 32 } := by
  refine ⟨?l, ?h⟩
  case h =>
    unfold tables_1_1
    simp only [List.drop_succ_cons, List.drop_zero, List.take_succ_cons, List.take_zero, List.take_nil]
    exact rfl
theorem ip_v1_4 {w : Cond} (h : w ∈ ip_u1_4.1) : w ∈ tables_1_1 := List.mem_of_mem_drop (List.mem_of_mem_take (ip_u1_4.2 ▸ h))
set_option maxRecDepth 100000 in
noncomputable def ip_u1_5 : { l : List Cond // l = (tables_1_1.drop 160).take 32 } := by
  refine ⟨?l, ?h⟩
  case h =>
    unfold tables_1_1
    simp only [List.drop_succ_cons, List.drop_zero, List.take_succ_cons, List.take_zero, List.take_nil]
    exact rfl
theorem ip_v1_5 {w : Cond} (h : w ∈ ip_u1_5.1) : w ∈ tables_1_1 := List.mem_of_mem_drop (List.mem_of_mem_take (ip_u1_5.2 ▸ h))
set_option maxRecDepth 100000 in
noncomputable def ip_u1_6 : { l : List Cond // l = (tables_1_1.drop 192).take 32 } := by
  refine ⟨?l, ?h⟩
  case h =>
    unfold tables_1_1
    simp only [List.drop_succ_cons, List.drop_zero, List.take_succ_cons, List.take_zero, List.take_nil]
    exact rfl
theorem ip_v1_6 {w : Cond} (h : w ∈ ip_u1_6.1) : w ∈ tables_1_1 := List.mem_of_mem_drop (List.mem_of_mem_take (ip_u1_6.2 ▸ h))
set_option maxRecDepth 100000 in
noncomputable def ip_u1_7 : { l : List Cond // l = (tables_1_1.drop 224).take 32 } := by
  refine ⟨?l, ?h⟩
  case h =>
    unfold tables_1_1
    simp only [List.drop_succ_cons, List.drop_zero, List.take_succ_cons, List.take_zero, List.take_nil]
    exact rfl
theorem ip_v1_7 {w : Cond} (h : w ∈ ip_u1_7.1) : w ∈ tables_1_1 := List.mem_of_mem_drop (List.mem_of_mem_take (ip_u1_7.2 ▸ h))
set_option maxRecDepth 100000 in
noncomputable def ip_u2_0 : { l : List Cond // l = (tables_1_2.drop 0).take 32 } := by
  refine ⟨?l, ?h⟩
  case h =>
    unfold tables_1_2
    simp only [List.drop_succ_cons, List.drop_zero, List.take_succ_cons, List.take_zero, List.take_nil]
    exact rfl
theorem ip_v2_0 {w : Cond} (h : w ∈ ip_u2_0.1) : w ∈ tables_1_2 := List.mem_of_mem_drop (List.mem_of_mem_take (ip_u2_0.2 ▸ h))
set_option maxRecDepth 100000 in
noncomputable def ip_u2_1 : { l : List Cond // l = (tables_1_2.drop 32).take 32 } := by
  refine ⟨?l, ?h⟩
  case h =>
    unfold tables_1_2
    simp only [List.drop_succ_cons, List.drop_zero, List.take_succ_cons, List.take_zero, List.take_nil]
    exact rfl
theorem ip_v2_1 {w : Cond} (h : w ∈ ip_u2_1.1) : w ∈ tables_1_2 := List.mem_of_mem_drop (List.mem_of_mem_take (ip_u2_1.2 ▸ h))
set_option maxRecDepth 100000 in
noncomputable def ip_u2_2 : { l : List Cond // l = (tables_1_2.drop 64).take 32 } := by
  refine ⟨?l, ?h⟩
  case h =>
    unfold tables_1_2
    simp only [List.drop_succ_cons, List.drop_zero, List.take_succ_cons, List.take_zero, List.take_nil]
    exact rfl
theorem ip_v2_2 {w : Cond} (h : w ∈ ip_u2_2.1) : w ∈ tables_1_2 := List.mem_of_mem_drop (List.mem_of_mem_take (ip_u2_2.2 ▸ h))
set_option maxRecDepth 100000 in
noncomputable def ip_u2_3 : { l : List Cond // l = (tables_1_2.drop 96).take 32 } := by
  refine ⟨?l, ?h⟩
  case h =>
    unfold tables_1_2
    simp only [List.drop_succ_cons, List.drop_zero, List.take_succ_cons, List.take_zero, List.take_nil]
    exact rfl
theorem ip_v2_3 {w : Cond} (h : w ∈ ip_u2_3.1) : w ∈ tables_1_2 := List.mem_of_mem_drop (List.mem_of_mem_take (ip_u2_3.2 ▸ h))
set_option maxRecDepth 100000 in
noncomputable def ip_u2_4 : { l : List Cond // l = (tables_1_2.drop 128).take 32 } := by
  refine ⟨?l, ?h⟩
  case h =>
    unfold tables_1_2
    simp only [List.drop_succ_cons, List.drop_zero, List.take_succ_cons, List.take_zero, List.take_nil]
    exact rfl
theorem ip_v2_4 {w : Cond} (h : w ∈ ip_u2_4.1) : w ∈ tables_1_2 := List.mem_of_mem_drop (List.mem_of_mem_take (ip_u2_4.2 ▸ h))
set_option maxRecDepth 100000 in
noncomputable def ip_u2_5 : { l : List Cond // l = (tables_1_2.drop 160).take 32 } := by
  refine ⟨?l, ?h⟩
  case h =>
    unfold tables_1_2
    simp only [List.drop_succ_cons, List.drop_zero, List.take_succ_cons, List.take_zero, List.take_nil]
    exact rfl
theorem ip_v2_5 {w : Cond} (h : w ∈ ip_u2_5.1) : w ∈ tables_1_2 := List.mem_of_mem_drop (List.mem_of_mem_take (ip_u2_5.2 ▸ h))
set_option maxRecDepth 100000 in
noncomputable def ip_u2_6 : { l : List Cond // l = (tables_1_2.drop 192).take 32 } := by
  refine ⟨?l, ?h⟩
  case h =>
    unfold tables_1_2
    simp only [List.drop_succ_cons, List.drop_zero, List.take_succ_cons, List.take_zero, List.take_nil]
    exact rfl
theorem ip_v2_6 {w : Cond} (h : w ∈ ip_u2_6.1) : w ∈ tables_1_2 := List.mem_of_mem_drop (List.mem_of_mem_take (ip_u2_6.2 ▸ h))
set_option maxRecDepth 100000 in
noncomputable def ip_u2_7 : { l : List Cond // l = (tables_1_2.drop 224).take 32 } := by
  refine ⟨?l, ?h⟩
  case h =>
    unfold tables_1_2
    simp only [List.drop_succ_cons, List.drop_zero, List.take_succ_cons, List.take_zero, List.take_nil]
    exact rfl
theorem ip_v2_7 {w : Cond} (h : w ∈ ip_u2_7.1) : w ∈ tables_1_2 := List.mem_of_mem_drop (List.mem_of_mem_take (ip_u2_7.2 ▸ h))
set_option maxRecDepth 100000 in
noncomputable def ip_u3_0 : { l : List Cond // l = (tables_1_3.drop 0).take 32 } := by
  refine ⟨?l, ?h⟩
  case h =>
    unfold tables_1_3
    simp only [List.drop_succ_cons, List.drop_zero, List.take_succ_cons, List.take_zero, List.take_nil]
    exact rfl
theorem ip_v3_0 {w : Cond} (h : w ∈ ip_u3_0.1) : w ∈ tables_1_3 := List.mem_of_mem_drop (List.mem_of_mem_take (ip_u3_0.2 ▸ h))
set_option maxRecDepth 100000 in
noncomputable def ip_u3_1 : { l : List Cond // l = (tables_1_3.drop 32).take 32 } := by
  refine ⟨?l, ?h⟩
  case h =>
    unfold tables_1_3
    simp only [List.drop_succ_cons, List.drop_zero, List.take_succ_cons, List.take_zero, List.take_nil]
    exact rfl
theorem ip_v3_1 {w : Cond} (h : w ∈ ip_u3_1.1) : w ∈ tables_1_3 := List.mem_of_mem_drop (List.mem_of_mem_take (ip_u3_1.2 ▸ h))
set_option maxRecDepth 100000 in
noncomputable def ip_u3_2 : { l : List Cond // l = (tables_1_3.drop 64).take 32 } := by
  refine ⟨?l, ?h⟩
  case h =>
    unfold tables_1_3
    simp only [List.drop_succ_cons, List.drop_zero, List.take_succ_cons, List.take_zero, List.take_nil]
    exact rfl
theorem ip_v3_2 {w : Cond} (h : w ∈ ip_u3_2.1) : w ∈ tables_1_3 := List.mem_of_mem_drop (List.mem_of_mem_take (ip_u3_2.2 ▸ h))
set_option maxRecDepth 100000 in
noncomputable def ip_u3_3 : { l : List Cond // l = (tables_1_3.drop 96).take 32 } := by
  refine ⟨?l, ?h⟩
  case h =>
    unfold tables_1_3
    simp only [List.drop_succ_cons, List.drop_zero, List.take_succ_cons, List.take_zero, List.take_nil]
    exact rfl
theorem ip_v3_3 {w : Cond} (h : w ∈ ip_u3_3.1) : w ∈ tables_1_3 := List.mem_of_mem_drop (List.mem_of_mem_take (ip_u3_3.2 ▸ h))
set_option maxRecDepth 100000 in
noncomputable def ip_u3_4 : { l : List Cond // l = (tables_1_3.drop 128).take 32 } := by
  refine ⟨?l, ?h⟩
  case h =>
    unfold tables_1_3
    simp only [List.drop_succ_cons, List.drop_zero, List.take_succ_cons, List.take_zero, List.take_nil]
    exact rfl
theorem ip_v3_4 {w : Cond} (h : w ∈ ip_u3_4.1) : w ∈ tables_1_3 := List.mem_of_mem_drop (List.mem_of_mem_take (ip_u3_4.2 ▸ h))
set_option maxRecDepth 100000 in
noncomputable def ip_u3_5 : { l : List Cond // l = (tables_1_3.drop 160).take 32 } := by
  refine ⟨?l, ?h⟩
  case h =>
    unfold tables_1_3
    simp only [List.drop_succ_cons, List.drop_zero, List.take_succ_cons, List.take_zero, List.take_nil]
    exact rfl
theorem ip_v3_5 {w : Cond} (h : w ∈ ip_u3_5.1) : w ∈ tables_1_3 := List.mem_of_mem_drop (List.mem_of_mem_take (ip_u3_5.2 ▸ h))
set_option maxRecDepth 100000 in
noncomputable def ip_u3_6 : { l : List Cond // l = (tables_1_3.drop 192).take 32 } := by
  refine ⟨?l, ?h⟩
  case h =>
    unfold tables_1_3
    simp only [List.drop_succ_cons, List.drop_zero, List.take_succ_cons, List.take_zero, List.take_nil]
    exact rfl
theorem ip_v3_6 {w : Cond} (h : w ∈ ip_u3_6.1) : w ∈ tables_1_3 := List.mem_of_mem_drop (List.mem_of_mem_take (ip_u3_6.2 ▸ h))
set_option maxRecDepth 100000 in
noncomputable def ip_u3_7 : { l : List Cond // l = (tables_1_3.drop 224).take 32 } := by
  refine ⟨?l, ?h⟩
  case h =>
    unfold tables_1_3
    simp only [List.drop_succ_cons, List.drop_zero, List.take_succ_cons, List.take_zero, List.take_nil]
    exact rfl
theorem ip_v3_7 {w : Cond} (h : w ∈ ip_u3_7.1) : w ∈ tables_1_3 := List.mem_of_mem_drop (List.mem_of_mem_take (ip_u3_7.2 ▸ h))
set_option maxRecDepth 100000 in
noncomputable def ip_u4_0 : { l : List Cond // l = (tables_1_4.drop 0).take 32 } := by
  refine ⟨?l, ?h⟩
  case h =>
    unfold tables_1_4
    simp only [List.drop_succ_cons, List.drop_zero, List.take_succ_cons, List.take_zero, List.take_nil]
    exact rfl
theorem ip_v4_0 {w : Cond} (h : w ∈ ip_u4_0.1) : w ∈ tables_1_4 := List.mem_of_mem_drop (List.mem_of_mem_take (ip_u4_0.2 ▸ h))
set_option maxRecDepth 100000 in
noncomputable def ip_u4_1 : { l : List Cond // l = (tables_1_4.drop 32).take 32 } := by
  refine ⟨?l, ?h⟩
  case h =>
    unfold tables_1_4
    simp only [List.drop_succ_cons, List.drop_zero, List.take_succ_cons, List.take_zero, List.take_nil]
    exact rfl
theorem ip_v4_1 {w : Cond} (h : w ∈ ip_u4_1.1) : w ∈ tables_1_4 := List.mem_of_mem_drop (List.mem_of_mem_take (ip_u4_1.2 ▸ h))
set_option maxRecDepth 100000 in
noncomputable def ip_u4_2 : { l : List Cond // l = (tables_1_4.drop 64).take 32 } := by
  refine ⟨?l, ?h⟩
  case h =>
    unfold tables_1_4
    simp only [List.drop_succ_cons, List.drop_zero, List.take_succ_cons, List.take_zero, List.take_nil]
    exact rfl
theorem ip_v4_2 {w : Cond} (h : w ∈ ip_u4_2.1) : w ∈ tables_1_4 := List.mem_of_mem_drop (List.mem_of_mem_take (ip_u4_2.2 ▸ h))
set_option maxRecDepth 100000 in
noncomputable def ip_u4_3 : { l : List Cond // l = (tables_1_4.drop 96).take 32 } := by
  refine ⟨?l, ?h⟩
  case h =>
    unfold tables_1_4
    simp only [List.drop_succ_cons, List.drop_zero, List.take_succ_cons, List.take_zero, List.take_nil]
    exact rfl
theorem ip_v4_3 {w : Cond} (h : w ∈ ip_u4_3.1) : w ∈ tables_1_4 := List.mem_of_mem_drop (List.mem_of_mem_take (ip_u4_3.2 ▸ h))
set_option maxRecDepth 100000 in
noncomputable def ip_u4_4 : { l : List Cond // l = (tables_1_4.drop 128).take 32 } := by
  refine ⟨?l, ?h⟩
  case h =>
    unfold tables_1_4
    simp only [List.drop_succ_cons, List.drop_zero, List.take_succ_cons, List.take_zero, List.take_nil]
    exact rfl
theorem ip_v4_4 {w : Cond} (h : w ∈ ip_u4_4.1) : w ∈ tables_1_4 := List.mem_of_mem_drop (List.mem_of_mem_take (ip_u4_4.2 ▸ h))
set_option maxRecDepth 100000 in
noncomputable def ip_u4_5 : { l : List Cond // l = (tables_1_4.drop 160).take 32 } := by
  refine ⟨?l, ?h⟩
  case h =>
    unfold tables_1_4
    simp only [List.drop_succ_cons, List.drop_zero, List.take_succ_cons, List.take_zero, List.take_nil]
    exact rfl
theorem ip_v4_5 {w : Cond} (h : w ∈ ip_u4_5.1) : w ∈ tables_1_4 := List.mem_of_mem_drop (List.mem_of_mem_take (ip_u4_5.2 ▸ h))
set_option maxRecDepth 100000 in
noncomputable def ip_u4_6 : { l : List Cond // l = (tables_1_4.drop 192).take 32 } := by
  refine ⟨?l, ?h⟩
  case h =>
    unfold tables_1_4
    simp only [List.drop_succ_cons, List.drop_zero, List.take_succ_cons, List.take_zero, List.take_nil]
    exact rfl
theorem ip_v4_6 {w : Cond} (h : w ∈ ip_u4_6.1) : w ∈ tables_1_4 := List.mem_of_mem_drop (List.mem_of_mem_take (ip_u4_6.2 ▸ h))
set_option maxRecDepth 100000 in
noncomputable def ip_u4_7 : { l : List Cond // l = (tables_1_4.drop 224).take 32 } := by
  refine ⟨?l, ?h⟩
  case h =>
    unfold tables_1_4
    simp only [List.drop_succ_cons, List.drop_zero, List.take_succ_cons, List.take_zero, List.take_nil]
    exact rfl
theorem ip_v4_7 {w : Cond} (h : w ∈ ip_u4_7.1) : w ∈ tables_1_4 := List.mem_of_mem_drop (List.mem_of_mem_take (ip_u4_7.2 ▸ h))
set_option maxRecDepth 100000 in
noncomputable def ip_u5_0 : { l : List Cond // l = (tables_1_5.drop 0).take 32 } := by
  refine ⟨?l, ?h⟩
  case h =>
    unfold tables_1_5
    simp only [List.drop_succ_cons, List.drop_zero, List.take_succ_cons, List.take_zero, List.take_nil]
    exact rfl
theorem ip_v5_0 {w : Cond} (h : w ∈ ip_u5_0.1) : w ∈ tables_1_5 := List.mem_of_mem_drop (List.mem_of_mem_take (ip_u5_0.2 ▸ h))
set_option maxRecDepth 100000 in
noncomputable def ip_u5_1 : { l : List Cond // l = (tables_1_5.drop 32).take 32 } := by
  refine ⟨?l, ?h⟩
  case h =>
    unfold tables_1_5
    simp only [List.drop_succ_cons, List.drop_zero, List.take_succ_cons, List.take_zero, List.take_nil]
    exact rfl
theorem ip_v5_1 {w : Cond} (h : w ∈ ip_u5_1.1) : w ∈ tables_1_5 := List.mem_of_mem_drop (List.mem_of_mem_take (ip_u5_1.2 ▸ h))
set_option maxRecDepth 100000 in
noncomputable def ip_u5_2 : { l : List Cond // l = (tables_1_5.drop 64).take 32 } := by
  refine ⟨?l, ?h⟩
  case h =>
    unfold tables_1_5
    simp only [List.drop_succ_cons, List.drop_zero, List.take_succ_cons, List.take_zero, List.take_nil]
    exact rfl
theorem ip_v5_2 {w : Cond} (h : w ∈ ip_u5_2.1) : w ∈ tables_1_5 := List.mem_of_mem_drop (List.mem_of_mem_take (ip_u5_2.2 ▸ h))
set_option maxRecDepth 100000 in
noncomputable def ip_u5_3 : { l : List Cond // l = (tables_1_5.drop 96).take 32 } := by
  refine ⟨?l, ?h⟩
  case h =>
    unfold tables_1_5
    simp only [List.drop_succ_cons, List.drop_zero, List.take_succ_cons, List.take_zero, List.take_nil]
    exact rfl
theorem ip_v5_3 {w : Cond} (h : w ∈ ip_u5_3.1) : w ∈ tables_1_5 := List.mem_of_mem_drop (List.mem_of_mem_take (ip_u5_3.2 ▸ h))
set_option maxRecDepth 100000 in
noncomputable def ip_u5_4 : { l : List Cond // l = (tables_1_5.drop 128).take 32 } := by
  refine ⟨?l, ?h⟩
  case h =>
    unfold tables_1_5
    simp only [List.drop_succ_cons, List.drop_zero, List.take_succ_cons, List.take_zero, List.take_nil]
    exact rfl
theorem ip_v5_4 {w : Cond} (h : w ∈ ip_u5_4.1) : w ∈ tables_1_5 := List.mem_of_mem_drop (List.mem_of_mem_take (ip_u5_4.2 ▸ h))
set_option maxRecDepth 100000 in
noncomputable def ip_u5_5 : { l : List Cond // l = (tables_1_5.drop 160).take 32 } := by
  refine ⟨?l, ?h⟩
  case h =>
    unfold tables_1_5
    simp only [List.drop_succ_cons, List.drop_zero, List.take_succ_cons, List.take_zero, List.take_nil]
    exact rfl
theorem ip_v5_5 {w : Cond} (h : w ∈ ip_u5_5.1) : w ∈ tables_1_5 := List.mem_of_mem_drop (List.mem_of_mem_take (ip_u5_5.2 ▸ h))
set_option maxRecDepth 100000 in
noncomputable def ip_u5_6 : { l : List Cond // l = (tables_1_5.drop 192).take 32 } := by
  refine ⟨?l, ?h⟩
  case h =>
    unfold tables_1_5
    simp only [List.drop_succ_cons, List.drop_zero, List.take_succ_cons, List.take_zero, List.take_nil]
    exact rfl
theorem ip_v5_6 {w : Cond} (h : w ∈ ip_u5_6.1) : w ∈ tables_1_5 := List.mem_of_mem_drop (List.mem_of_mem_take (ip_u5_6.2 ▸ h))
set_option maxRecDepth 100000 in
noncomputable def ip_u5_7 : { l : List Cond // l = (tables_1_5.drop 224).take 32 } := by
  refine ⟨?l, ?h⟩
  case h =>
    unfold tables_1_5
    simp only [List.drop_succ_cons, List.drop_zero, List.take_succ_cons, List.take_zero, List.take_nil]
    exact rfl
theorem ip_v5_7 {w : Cond} (h : w ∈ ip_u5_7.1) : w ∈ tables_1_5 := List.mem_of_mem_drop (List.mem_of_mem_take (ip_u5_7.2 ▸ h))
set_option maxRecDepth 100000 in
noncomputable def ip_u6_0 : { l : List Cond // l = (tables_1_6.drop 0).take 32 } := by
  refine ⟨?l, ?h⟩
  case h =>
    unfold tables_1_6
    simp only [List.drop_succ_cons, List.drop_zero, List.take_succ_cons, List.take_zero, List.take_nil]
    exact rfl
theorem ip_v6_0 {w : Cond} (h : w ∈ ip_u6_0.1) : w ∈ tables_1_6 := List.mem_of_mem_drop (List.mem_of_mem_take (ip_u6_0.2 ▸ h))
set_option maxRecDepth 100000 in
noncomputable def ip_u6_1 : { l : List Cond // l = (tables_1_6.drop 32).take 32 } := by
  refine ⟨?l, ?h⟩
  case h =>
    unfold tables_1_6
    simp only [List.drop_succ_cons, List.drop_zero, List.take_succ_cons, List.take_zero, List.take_nil]
    exact rfl
theorem ip_v6_1 {w : Cond} (h : w ∈ ip_u6_1.1) : w ∈ tables_1_6 := List.mem_of_mem_drop (List.mem_of_mem_take (ip_u6_1.2 ▸ h))
set_option maxRecDepth 100000 in
noncomputable def ip_u6_2 : { l : List Cond // l = (tables_1_6.drop 64).take 32 } := by
  refine ⟨?l, ?h⟩
  case h =>
    unfold tables_1_6
    simp only [List.drop_succ_cons, List.drop_zero, List.take_succ_cons, List.take_zero, List.take_nil]
    exact rfl
theorem ip_v6_2 {w : Cond} (h : w ∈ ip_u6_2.1) : w ∈ tables_1_6 := List.mem_of_mem_drop (List.mem_of_mem_take (ip_u6_2.2 ▸ h))
set_option maxRecDepth 100000 in
noncomputable def ip_u6_3 : { l : List Cond // l = (tables_1_6.drop 96).take 32 } := by
  refine ⟨?l, ?h⟩
  case h =>
    unfold tables_1_6
    simp only [List.drop_succ_cons, List.drop_zero, List.take_succ_cons, List.take_zero, List.take_nil]
    exact rfl
theorem ip_v6_3 {w : Cond} (h : w ∈ ip_u6_3.1) : w ∈ tables_1_6 := List.mem_of_mem_drop (List.mem_of_mem_take (ip_u6_3.2 ▸ h))
set_option maxRecDepth 100000 in
noncomputable def ip_u6_4 : { l : List Cond // l = (tables_1_6.drop 128).take 32 } := by
  refine ⟨?l, ?h⟩
  case h =>
    unfold tables_1_6
    simp only [List.drop_succ_cons, List.drop_zero, List.take_succ_cons, List.take_zero, List.take_nil]
    exact rfl
theorem ip_v6_4 {w : Cond} (h : w ∈ ip_u6_4.1) : w ∈ tables_1_6 := List.mem_of_mem_drop (List.mem_of_mem_take (ip_u6_4.2 ▸ h))
set_option maxRecDepth 100000 in
noncomputable def ip_u6_5 : { l : List Cond // l = (tables_1_6.drop 160).take 32 } := by
  refine ⟨?l, ?h⟩
  case h =>
    unfold tables_1_6
    simp only [List.drop_succ_cons, List.drop_zero, List.take_succ_cons, List.take_zero, List.take_nil]
    exact rfl
theorem ip_v6_5 {w : Cond} (h : w ∈ ip_u6_5.1) : w ∈ tables_1_6 := List.mem_of_mem_drop (List.mem_of_mem_take (ip_u6_5.2 ▸ h))
set_option maxRecDepth 100000 in
noncomputable def ip_u6_6 : { l : List Cond // l = (tables_1_6.drop 192).take 32 } := by
  refine ⟨?l, ?h⟩
  case h =>
    unfold tables_1_6
    simp only [List.drop_succ_cons, List.drop_zero, List.take_succ_cons, List.take_zero, List.take_nil]
    exact rfl
theorem ip_v6_6 {w : Cond} (h : w ∈ ip_u6_6.1) : w ∈ tables_1_6 := List.mem_of_mem_drop (List.mem_of_mem_take (ip_u6_6.2 ▸ h))
set_option maxRecDepth 100000 in
noncomputable def ip_u6_7 : { l : List Cond // l = (tables_1_6.drop 224).take 32 } := by
  refine ⟨?l, ?h⟩
  case h =>
    unfold tables_1_6
    simp only [List.drop_succ_cons, List.drop_zero, List.take_succ_cons, List.take_zero, List.take_nil]
    exact rfl
theorem ip_v6_7 {w : Cond} (h : w ∈ ip_u6_7.1) : w ∈ tables_1_6 := List.mem_of_mem_drop (List.mem_of_mem_take (ip_u6_7.2 ▸ h))
set_option maxRecDepth 100000 in
noncomputable def ip_u7_0 : { l : List Cond // l = (tables_1_7.drop 0).take 32 } := by
  refine ⟨?l, ?h⟩
  case h =>
    unfold tables_1_7
    simp only [List.drop_succ_cons, List.drop_zero, List.take_succ_cons, List.take_zero, List.take_nil]
    exact rfl
theorem ip_v7_0 {w : Cond} (h : w ∈ ip_u7_0.1) : w ∈ tables_1_7 := List.mem_of_mem_drop (List.mem_of_mem_take (ip_u7_0.2 ▸ h))
set_option maxRecDepth 100000 in
noncomputable def ip_u7_1 : { l : List Cond // l = (tables_1_7.drop 32).take 32 } := by
  refine ⟨?l, ?h⟩
  case h =>
    unfold tables_1_7
    simp only [List.drop_succ_cons, List.drop_zero, List.take_succ_cons, List.take_zero, List.take_nil]
    exact rfl
theorem ip_v7_1 {w : Cond} (h : w ∈ ip_u7_1.1) : w ∈ tables_1_7 := List.mem_of_mem_drop (List.mem_of_mem_take (ip_u7_1.2 ▸ h))
set_option maxRecDepth 100000 in
noncomputable def ip_u7_2 : { l : List Cond // l = (tables_1_7.drop 64).take 32 } := by
  refine ⟨?l, ?h⟩
  case h =>
    unfold tables_1_7
    simp only [List.drop_succ_cons, List.drop_zero, List.take_succ_cons, List.take_zero, List.take_nil]
    exact rfl
theorem ip_v7_2 {w : Cond} (h : w ∈ ip_u7_2.1) : w ∈ tables_1_7 := List.mem_of_mem_drop (List.mem_of_mem_take (ip_u7_2.2 ▸ h))
set_option maxRecDepth 100000 in
noncomputable def ip_u7_3 : { l : List Cond // l = (tables_1_7.drop 96).take 32 } := by
  refine ⟨?l, ?h⟩
  case h =>
    unfold tables_1_7
    simp only [List.drop_succ_cons, List.drop_zero, List.take_succ_cons, List.take_zero, List.take_nil]
    exact rfl
theorem ip_v7_3 {w : Cond} (h : w ∈ ip_u7_3.1) : w ∈ tables_1_7 := List.mem_of_mem_drop (List.mem_of_mem_take (ip_u7_3.2 ▸ h))
set_option maxRecDepth 100000 in
noncomputable def ip_u7_4 : { l : List Cond // l = (tables_1_7.drop 128).take 32 } := by
  refine ⟨?l, ?h⟩
  case h =>
    unfold tables_1_7
    simp only [List.drop_succ_cons, List.drop_zero, List.take_succ_cons, List.take_zero, List.take_nil]
    exact rfl
theorem ip_v7_4 {w : Cond} (h : w ∈ ip_u7_4.1) : w ∈ tables_1_7 := List.mem_of_mem_drop (List.mem_of_mem_take (ip_u7_4.2 ▸ h))
set_option maxRecDepth 100000 in
noncomputable def ip_u7_5 : { l : List Cond // l = (tables_1_7.drop 160).take 32 } := by
  refine ⟨?l, ?h⟩
  case h =>
    unfold tables_1_7
    simp only [List.drop_succ_cons, List.drop_zero, List.take_succ_cons, List.take_zero, List.take_nil]
    exact rfl
theorem ip_v7_5 {w : Cond} (h : w ∈ ip_u7_5.1) : w ∈ tables_1_7 := List.mem_of_mem_drop (List.mem_of_mem_take (ip_u7_5.2 ▸ h))
set_option maxRecDepth 100000 in
noncomputable def ip_u7_6 : { l : List Cond // l = (tables_1_7.drop 192).take 32 } := by
  refine ⟨?l, ?h⟩
  case h =>
    unfold tables_1_7
    simp only [List.drop_succ_cons, List.drop_zero, List.take_succ_cons, List.take_zero, List.take_nil]
    exact rfl
theorem ip_v7_6 {w : Cond} (h : w ∈ ip_u7_6.1) : w ∈ tables_1_7 := List.mem_of_mem_drop (List.mem_of_mem_take (ip_u7_6.2 ▸ h))
set_option maxRecDepth 100000 in
noncomputable def ip_u7_7 : { l : List Cond // l = (tables_1_7.drop 224).take 32 } := by
  refine ⟨?l, ?h⟩
  case h =>
    unfold tables_1_7
    simp only [List.drop_succ_cons, List.drop_zero, List.take_succ_cons, List.take_zero, List.take_nil]
    exact rfl
theorem ip_v7_7 {w : Cond} (h : w ∈ ip_u7_7.1) : w ∈ tables_1_7 := List.mem_of_mem_drop (List.mem_of_mem_take (ip_u7_7.2 ▸ h))
set_option maxRecDepth 100000 in
noncomputable def ip_u8_0 : { l : List Cond // l = (tables_1_8.drop 0).take 32 } := by
  refine ⟨?l, ?h⟩
  case h =>
    unfold tables_1_8
    simp only [List.drop_succ_cons, List.drop_zero, List.take_succ_cons, List.take_zero, List.take_nil]
    exact rfl
theorem ip_v8_0 {w : Cond} (h : w ∈ ip_u8_0.1) : w ∈ tables_1_8 := List.mem_of_mem_drop (List.mem_of_mem_take (ip_u8_0.2 ▸ h))
end
noncomputable section
-- PART 01.tbl
-- ===== PART A: goes FIRST, ahead of the names: the tables' words, and 'selects' of the private methods out of them =====
/-- a private method of a class that the tables say can be made, by its rows of tables_1 -/
def lw_okq (q : MethodName × Nat) : Prop := (q.1.cls ≠ "java/lang/invoke/MethodHandle" ∧ q.1.cls ≠ "java/lang/invoke/VarHandle") ∧ Cond.instantiable q.1.cls q.2 ∈ tables_1 ∧ Cond.privateMethod q.1 ∈ tables_1 ∧ Cond.instanceMethod q.1 ∈ tables_1
theorem lw_p0 : lw_okq (⟨"CommonDenominato\x72", "note", "(I)V"⟩, 14) := ⟨⟨by decide +kernel, by decide +kernel⟩, ip_xt1 (ip_v1_0 (List.mem_of_getElem? (l := ip_u1_0.1) (i := 16) rfl)), ip_xt2 (ip_v2_3 (List.mem_of_getElem? (l := ip_u2_3.1) (i := 29) rfl)), ip_xt2 (ip_v2_3 (List.mem_of_getElem? (l := ip_u2_3.1) (i := 30) rfl))⟩
theorem lw_p1 : lw_okq (⟨"CommonDenominator$Past", "place", "()I"⟩, 6) := ⟨⟨by decide +kernel, by decide +kernel⟩, ip_xt1 (ip_v1_6 (List.mem_of_getElem? (l := ip_u1_6.1) (i := 15) rfl)), ip_xt2 (ip_v2_4 (List.mem_of_getElem? (l := ip_u2_4.1) (i := 5) rfl)), ip_xt2 (ip_v2_4 (List.mem_of_getElem? (l := ip_u2_4.1) (i := 6) rfl))⟩
theorem lw_p2 : lw_okq (⟨"CommonDenominato\x72", "renew", "(III)V"⟩, 14) := ⟨⟨by decide +kernel, by decide +kernel⟩, ip_xt1 (ip_v1_0 (List.mem_of_getElem? (l := ip_u1_0.1) (i := 16) rfl)), ip_xt2 (ip_v2_4 (List.mem_of_getElem? (l := ip_u2_4.1) (i := 28) rfl)), ip_xt2 (ip_v2_4 (List.mem_of_getElem? (l := ip_u2_4.1) (i := 29) rfl))⟩
theorem lw_p3 : lw_okq (⟨"CommonDenominator$Field", "signOf", "(JJJ)I"⟩, 5) := ⟨⟨by decide +kernel, by decide +kernel⟩, ip_xt1 (ip_v1_0 (List.mem_of_getElem? (l := ip_u1_0.1) (i := 24) rfl)), ip_xt2 (ip_v2_6 (List.mem_of_getElem? (l := ip_u2_6.1) (i := 13) rfl)), ip_xt2 (ip_v2_6 (List.mem_of_getElem? (l := ip_u2_6.1) (i := 14) rfl))⟩
theorem lw_p4 : lw_okq (⟨"CommonDenominato\x72", "join", "(ILCommonDenominator$Value;LCommonDenominator$Value;)V"⟩, 14) := ⟨⟨by decide +kernel, by decide +kernel⟩, ip_xt1 (ip_v1_0 (List.mem_of_getElem? (l := ip_u1_0.1) (i := 16) rfl)), ip_xt3 (ip_v3_0 (List.mem_of_getElem? (l := ip_u3_0.1) (i := 2) rfl)), ip_xt3 (ip_v3_0 (List.mem_of_getElem? (l := ip_u3_0.1) (i := 3) rfl))⟩
theorem lw_p5 : lw_okq (⟨"CommonDenominator$Course", "saveState", "()V"⟩, 15) := ⟨⟨by decide +kernel, by decide +kernel⟩, ip_xt1 (ip_v1_3 (List.mem_of_getElem? (l := ip_u1_3.1) (i := 4) rfl)), ip_xt3 (ip_v3_2 (List.mem_of_getElem? (l := ip_u3_2.1) (i := 5) rfl)), ip_xt3 (ip_v3_2 (List.mem_of_getElem? (l := ip_u3_2.1) (i := 6) rfl))⟩
theorem lw_p6 : lw_okq (⟨"CommonDenominator$Course", "isWhole", "(I)Z"⟩, 15) := ⟨⟨by decide +kernel, by decide +kernel⟩, ip_xt1 (ip_v1_3 (List.mem_of_getElem? (l := ip_u1_3.1) (i := 4) rfl)), ip_xt3 (ip_v3_3 (List.mem_of_getElem? (l := ip_u3_3.1) (i := 8) rfl)), ip_xt3 (ip_v3_3 (List.mem_of_getElem? (l := ip_u3_3.1) (i := 9) rfl))⟩
theorem lw_p7 : lw_okq (⟨"CommonDenominator$Course", "layRests", "(LCommonDenominator$Field;)V"⟩, 15) := ⟨⟨by decide +kernel, by decide +kernel⟩, ip_xt1 (ip_v1_3 (List.mem_of_getElem? (l := ip_u1_3.1) (i := 4) rfl)), ip_xt3 (ip_v3_3 (List.mem_of_getElem? (l := ip_u3_3.1) (i := 12) rfl)), ip_xt3 (ip_v3_3 (List.mem_of_getElem? (l := ip_u3_3.1) (i := 13) rfl))⟩
theorem lw_p8 : lw_okq (⟨"CommonDenominator$Course", "findPeriod", "()V"⟩, 15) := ⟨⟨by decide +kernel, by decide +kernel⟩, ip_xt1 (ip_v1_3 (List.mem_of_getElem? (l := ip_u1_3.1) (i := 4) rfl)), ip_xt3 (ip_v3_4 (List.mem_of_getElem? (l := ip_u3_4.1) (i := 30) rfl)), ip_xt3 (ip_v3_4 (List.mem_of_getElem? (l := ip_u3_4.1) (i := 31) rfl))⟩
theorem lw_p9 : lw_okq (⟨"CommonDenominator$Course", "isLikeLast", "(I)Z"⟩, 15) := ⟨⟨by decide +kernel, by decide +kernel⟩, ip_xt1 (ip_v1_3 (List.mem_of_getElem? (l := ip_u1_3.1) (i := 4) rfl)), ip_xt3 (ip_v3_5 (List.mem_of_getElem? (l := ip_u3_5.1) (i := 2) rfl)), ip_xt3 (ip_v3_5 (List.mem_of_getElem? (l := ip_u3_5.1) (i := 3) rfl))⟩
theorem lw_p10 : lw_okq (⟨"CommonDenominator$Tape", "hasText", "()Z"⟩, 5) := ⟨⟨by decide +kernel, by decide +kernel⟩, ip_xt1 (ip_v1_5 (List.mem_of_getElem? (l := ip_u1_5.1) (i := 20) rfl)), ip_xt3 (ip_v3_6 (List.mem_of_getElem? (l := ip_u3_6.1) (i := 17) rfl)), ip_xt3 (ip_v3_6 (List.mem_of_getElem? (l := ip_u3_6.1) (i := 18) rfl))⟩
theorem lw_p11 : lw_okq (⟨"CommonDenominator$Tape", "wholeNumbe\x72", "()I"⟩, 5) := ⟨⟨by decide +kernel, by decide +kernel⟩, ip_xt1 (ip_v1_5 (List.mem_of_getElem? (l := ip_u1_5.1) (i := 20) rfl)), ip_xt3 (ip_v3_6 (List.mem_of_getElem? (l := ip_u3_6.1) (i := 21) rfl)), ip_xt3 (ip_v3_6 (List.mem_of_getElem? (l := ip_u3_6.1) (i := 22) rfl))⟩
theorem lw_p12 : lw_okq (⟨"CommonDenominator$Tape", "skipBlanks", "()V"⟩, 5) := ⟨⟨by decide +kernel, by decide +kernel⟩, ip_xt1 (ip_v1_5 (List.mem_of_getElem? (l := ip_u1_5.1) (i := 20) rfl)), ip_xt3 (ip_v3_6 (List.mem_of_getElem? (l := ip_u3_6.1) (i := 25) rfl)), ip_xt3 (ip_v3_6 (List.mem_of_getElem? (l := ip_u3_6.1) (i := 26) rfl))⟩
theorem lw_p13 : lw_okq (⟨"CommonDenominator$Tape", "byteAt", "()I"⟩, 5) := ⟨⟨by decide +kernel, by decide +kernel⟩, ip_xt1 (ip_v1_5 (List.mem_of_getElem? (l := ip_u1_5.1) (i := 20) rfl)), ip_xt3 (ip_v3_6 (List.mem_of_getElem? (l := ip_u3_6.1) (i := 29) rfl)), ip_xt3 (ip_v3_6 (List.mem_of_getElem? (l := ip_u3_6.1) (i := 30) rfl))⟩
theorem lw_p14 : lw_okq (⟨"CommonDenominator$Tape", "nextIsDigit", "()Z"⟩, 5) := ⟨⟨by decide +kernel, by decide +kernel⟩, ip_xt1 (ip_v1_5 (List.mem_of_getElem? (l := ip_u1_5.1) (i := 20) rfl)), ip_xt3 (ip_v3_7 (List.mem_of_getElem? (l := ip_u3_7.1) (i := 1) rfl)), ip_xt3 (ip_v3_7 (List.mem_of_getElem? (l := ip_u3_7.1) (i := 2) rfl))⟩
theorem lw_p15 : lw_okq (⟨"CommonDenominator$Tape", "takes", "(C)Z"⟩, 5) := ⟨⟨by decide +kernel, by decide +kernel⟩, ip_xt1 (ip_v1_5 (List.mem_of_getElem? (l := ip_u1_5.1) (i := 20) rfl)), ip_xt3 (ip_v3_7 (List.mem_of_getElem? (l := ip_u3_7.1) (i := 8) rfl)), ip_xt3 (ip_v3_7 (List.mem_of_getElem? (l := ip_u3_7.1) (i := 9) rfl))⟩
def lw_privs_1 : List (MethodName × Nat) := [(⟨"CommonDenominato\x72", "note", "(I)V"⟩, 14), (⟨"CommonDenominator$Past", "place", "()I"⟩, 6), (⟨"CommonDenominato\x72", "renew", "(III)V"⟩, 14), (⟨"CommonDenominator$Field", "signOf", "(JJJ)I"⟩, 5), (⟨"CommonDenominato\x72", "join", "(ILCommonDenominator$Value;LCommonDenominator$Value;)V"⟩, 14), (⟨"CommonDenominator$Course", "saveState", "()V"⟩, 15), (⟨"CommonDenominator$Course", "isWhole", "(I)Z"⟩, 15), (⟨"CommonDenominator$Course", "layRests", "(LCommonDenominator$Field;)V"⟩, 15), (⟨"CommonDenominator$Course", "findPeriod", "()V"⟩, 15), (⟨"CommonDenominator$Course", "isLikeLast", "(I)Z"⟩, 15), (⟨"CommonDenominator$Tape", "hasText", "()Z"⟩, 5), (⟨"CommonDenominator$Tape", "wholeNumbe\x72", "()I"⟩, 5), (⟨"CommonDenominator$Tape", "skipBlanks", "()V"⟩, 5), (⟨"CommonDenominator$Tape", "byteAt", "()I"⟩, 5), (⟨"CommonDenominator$Tape", "nextIsDigit", "()Z"⟩, 5), (⟨"CommonDenominator$Tape", "takes", "(C)Z"⟩, 5)]
theorem lw_r1 : ∀ q ∈ lw_privs_1, lw_okq q := List.forall_mem_cons.mpr ⟨lw_p0, List.forall_mem_cons.mpr ⟨lw_p1, List.forall_mem_cons.mpr ⟨lw_p2, List.forall_mem_cons.mpr ⟨lw_p3, List.forall_mem_cons.mpr ⟨lw_p4, List.forall_mem_cons.mpr ⟨lw_p5, List.forall_mem_cons.mpr ⟨lw_p6, List.forall_mem_cons.mpr ⟨lw_p7, List.forall_mem_cons.mpr ⟨lw_p8, List.forall_mem_cons.mpr ⟨lw_p9, List.forall_mem_cons.mpr ⟨lw_p10, List.forall_mem_cons.mpr ⟨lw_p11, List.forall_mem_cons.mpr ⟨lw_p12, List.forall_mem_cons.mpr ⟨lw_p13, List.forall_mem_cons.mpr ⟨lw_p14, List.forall_mem_cons.mpr ⟨lw_p15, fun _ h => absurd h List.not_mem_nil⟩⟩⟩⟩⟩⟩⟩⟩⟩⟩⟩⟩⟩⟩⟩⟩
theorem lw_p16 : lw_okq (⟨"CommonDenominato\x72", "solved", "()Z"⟩, 14) := ⟨⟨by decide +kernel, by decide +kernel⟩, ip_xt1 (ip_v1_0 (List.mem_of_getElem? (l := ip_u1_0.1) (i := 16) rfl)), ip_xt4 (ip_v4_0 (List.mem_of_getElem? (l := ip_u4_0.1) (i := 15) rfl)), ip_xt4 (ip_v4_0 (List.mem_of_getElem? (l := ip_u4_0.1) (i := 16) rfl))⟩
theorem lw_p17 : lw_okq (⟨"CommonDenominato\x72", "stepsOrNone", "()I"⟩, 14) := ⟨⟨by decide +kernel, by decide +kernel⟩, ip_xt1 (ip_v1_0 (List.mem_of_getElem? (l := ip_u1_0.1) (i := 16) rfl)), ip_xt4 (ip_v4_2 (List.mem_of_getElem? (l := ip_u4_2.1) (i := 3) rfl)), ip_xt4 (ip_v4_2 (List.mem_of_getElem? (l := ip_u4_2.1) (i := 4) rfl))⟩
theorem lw_p18 : lw_okq (⟨"CommonDenominato\x72", "hasBounds", "()Z"⟩, 14) := ⟨⟨by decide +kernel, by decide +kernel⟩, ip_xt1 (ip_v1_0 (List.mem_of_getElem? (l := ip_u1_0.1) (i := 16) rfl)), ip_xt4 (ip_v4_4 (List.mem_of_getElem? (l := ip_u4_4.1) (i := 12) rfl)), ip_xt4 (ip_v4_4 (List.mem_of_getElem? (l := ip_u4_4.1) (i := 13) rfl))⟩
theorem lw_p19 : lw_okq (⟨"CommonDenominator$Bounds", "layPart", "(LCommonDenominator$Square;I)V"⟩, 2) := ⟨⟨by decide +kernel, by decide +kernel⟩, ip_xt2 (ip_v2_1 (List.mem_of_getElem? (l := ip_u2_1.1) (i := 14) rfl)), ip_xt4 (ip_v4_4 (List.mem_of_getElem? (l := ip_u4_4.1) (i := 21) rfl)), ip_xt4 (ip_v4_4 (List.mem_of_getElem? (l := ip_u4_4.1) (i := 22) rfl))⟩
theorem lw_p20 : lw_okq (⟨"CommonDenominator$Bounds", "leastWhole", "(II)J"⟩, 2) := ⟨⟨by decide +kernel, by decide +kernel⟩, ip_xt2 (ip_v2_1 (List.mem_of_getElem? (l := ip_u2_1.1) (i := 14) rfl)), ip_xt4 (ip_v4_6 (List.mem_of_getElem? (l := ip_u4_6.1) (i := 10) rfl)), ip_xt4 (ip_v4_6 (List.mem_of_getElem? (l := ip_u4_6.1) (i := 11) rfl))⟩
theorem lw_p21 : lw_okq (⟨"CommonDenominato\x72", "leastRelation", "(II)I"⟩, 14) := ⟨⟨by decide +kernel, by decide +kernel⟩, ip_xt1 (ip_v1_0 (List.mem_of_getElem? (l := ip_u1_0.1) (i := 16) rfl)), ip_xt5 (ip_v5_0 (List.mem_of_getElem? (l := ip_u5_0.1) (i := 17) rfl)), ip_xt5 (ip_v5_0 (List.mem_of_getElem? (l := ip_u5_0.1) (i := 18) rfl))⟩
theorem lw_p22 : lw_okq (⟨"CommonDenominato\x72", "likeDigits", "()I"⟩, 14) := ⟨⟨by decide +kernel, by decide +kernel⟩, ip_xt1 (ip_v1_0 (List.mem_of_getElem? (l := ip_u1_0.1) (i := 16) rfl)), ip_xt5 (ip_v5_1 (List.mem_of_getElem? (l := ip_u5_1.1) (i := 14) rfl)), ip_xt5 (ip_v5_1 (List.mem_of_getElem? (l := ip_u5_1.1) (i := 15) rfl))⟩
theorem lw_p23 : lw_okq (⟨"CommonDenominatorModel", "clears", "(III)V"⟩, 48) := ⟨⟨by decide +kernel, by decide +kernel⟩, ip_xt5 (ip_v5_2 (List.mem_of_getElem? (l := ip_u5_2.1) (i := 13) rfl)), ip_xt5 (ip_v5_2 (List.mem_of_getElem? (l := ip_u5_2.1) (i := 19) rfl)), ip_xt5 (ip_v5_2 (List.mem_of_getElem? (l := ip_u5_2.1) (i := 20) rfl))⟩
theorem lw_p24 : lw_okq (⟨"CommonDenominatorModel", "no", "(I)I"⟩, 48) := ⟨⟨by decide +kernel, by decide +kernel⟩, ip_xt5 (ip_v5_2 (List.mem_of_getElem? (l := ip_u5_2.1) (i := 13) rfl)), ip_xt5 (ip_v5_7 (List.mem_of_getElem? (l := ip_u5_7.1) (i := 12) rfl)), ip_xt5 (ip_v5_7 (List.mem_of_getElem? (l := ip_u5_7.1) (i := 13) rfl))⟩
theorem lw_p25 : lw_okq (⟨"CommonDenominatorModel", "comesBack", "()V"⟩, 48) := ⟨⟨by decide +kernel, by decide +kernel⟩, ip_xt5 (ip_v5_2 (List.mem_of_getElem? (l := ip_u5_2.1) (i := 13) rfl)), ip_xt6 (ip_v6_0 (List.mem_of_getElem? (l := ip_u6_0.1) (i := 0) rfl)), ip_xt6 (ip_v6_0 (List.mem_of_getElem? (l := ip_u6_0.1) (i := 1) rfl))⟩
theorem lw_p26 : lw_okq (⟨"CommonDenominatorModel", "yes", "(I)I"⟩, 48) := ⟨⟨by decide +kernel, by decide +kernel⟩, ip_xt5 (ip_v5_2 (List.mem_of_getElem? (l := ip_u5_2.1) (i := 13) rfl)), ip_xt6 (ip_v6_0 (List.mem_of_getElem? (l := ip_u6_0.1) (i := 4) rfl)), ip_xt6 (ip_v6_0 (List.mem_of_getElem? (l := ip_u6_0.1) (i := 5) rfl))⟩
theorem lw_p27 : lw_okq (⟨"CommonDenominatorModel", "stepsOrNone", "()I"⟩, 48) := ⟨⟨by decide +kernel, by decide +kernel⟩, ip_xt5 (ip_v5_2 (List.mem_of_getElem? (l := ip_u5_2.1) (i := 13) rfl)), ip_xt6 (ip_v6_0 (List.mem_of_getElem? (l := ip_u6_0.1) (i := 15) rfl)), ip_xt6 (ip_v6_0 (List.mem_of_getElem? (l := ip_u6_0.1) (i := 16) rfl))⟩
theorem lw_p28 : lw_okq (⟨"CommonDenominatorModel", "keeps", "(I)V"⟩, 48) := ⟨⟨by decide +kernel, by decide +kernel⟩, ip_xt5 (ip_v5_2 (List.mem_of_getElem? (l := ip_u5_2.1) (i := 13) rfl)), ip_xt6 (ip_v6_1 (List.mem_of_getElem? (l := ip_u6_1.1) (i := 1) rfl)), ip_xt6 (ip_v6_1 (List.mem_of_getElem? (l := ip_u6_1.1) (i := 2) rfl))⟩
theorem lw_p29 : lw_okq (⟨"CommonDenominatorModel", "is", "(JJJJ)V"⟩, 48) := ⟨⟨by decide +kernel, by decide +kernel⟩, ip_xt5 (ip_v5_2 (List.mem_of_getElem? (l := ip_u5_2.1) (i := 13) rfl)), ip_xt6 (ip_v6_1 (List.mem_of_getElem? (l := ip_u6_1.1) (i := 21) rfl)), ip_xt6 (ip_v6_1 (List.mem_of_getElem? (l := ip_u6_1.1) (i := 22) rfl))⟩
theorem lw_p30 : lw_okq (⟨"CommonDenominatorModel", "lays", "(I)I"⟩, 48) := ⟨⟨by decide +kernel, by decide +kernel⟩, ip_xt5 (ip_v5_2 (List.mem_of_getElem? (l := ip_u5_2.1) (i := 13) rfl)), ip_xt6 (ip_v6_1 (List.mem_of_getElem? (l := ip_u6_1.1) (i := 28) rfl)), ip_xt6 (ip_v6_1 (List.mem_of_getElem? (l := ip_u6_1.1) (i := 29) rfl))⟩
theorem lw_p31 : lw_okq (⟨"CommonDenominatorModel", "floorOf", "(JJJJ)I"⟩, 48) := ⟨⟨by decide +kernel, by decide +kernel⟩, ip_xt5 (ip_v5_2 (List.mem_of_getElem? (l := ip_u5_2.1) (i := 13) rfl)), ip_xt6 (ip_v6_2 (List.mem_of_getElem? (l := ip_u6_2.1) (i := 0) rfl)), ip_xt6 (ip_v6_2 (List.mem_of_getElem? (l := ip_u6_2.1) (i := 1) rfl))⟩
def lw_privs_2 : List (MethodName × Nat) := [(⟨"CommonDenominato\x72", "solved", "()Z"⟩, 14), (⟨"CommonDenominato\x72", "stepsOrNone", "()I"⟩, 14), (⟨"CommonDenominato\x72", "hasBounds", "()Z"⟩, 14), (⟨"CommonDenominator$Bounds", "layPart", "(LCommonDenominator$Square;I)V"⟩, 2), (⟨"CommonDenominator$Bounds", "leastWhole", "(II)J"⟩, 2), (⟨"CommonDenominato\x72", "leastRelation", "(II)I"⟩, 14), (⟨"CommonDenominato\x72", "likeDigits", "()I"⟩, 14), (⟨"CommonDenominatorModel", "clears", "(III)V"⟩, 48), (⟨"CommonDenominatorModel", "no", "(I)I"⟩, 48), (⟨"CommonDenominatorModel", "comesBack", "()V"⟩, 48), (⟨"CommonDenominatorModel", "yes", "(I)I"⟩, 48), (⟨"CommonDenominatorModel", "stepsOrNone", "()I"⟩, 48), (⟨"CommonDenominatorModel", "keeps", "(I)V"⟩, 48), (⟨"CommonDenominatorModel", "is", "(JJJJ)V"⟩, 48), (⟨"CommonDenominatorModel", "lays", "(I)I"⟩, 48), (⟨"CommonDenominatorModel", "floorOf", "(JJJJ)I"⟩, 48)]
theorem lw_r2 : ∀ q ∈ lw_privs_2, lw_okq q := List.forall_mem_cons.mpr ⟨lw_p16, List.forall_mem_cons.mpr ⟨lw_p17, List.forall_mem_cons.mpr ⟨lw_p18, List.forall_mem_cons.mpr ⟨lw_p19, List.forall_mem_cons.mpr ⟨lw_p20, List.forall_mem_cons.mpr ⟨lw_p21, List.forall_mem_cons.mpr ⟨lw_p22, List.forall_mem_cons.mpr ⟨lw_p23, List.forall_mem_cons.mpr ⟨lw_p24, List.forall_mem_cons.mpr ⟨lw_p25, List.forall_mem_cons.mpr ⟨lw_p26, List.forall_mem_cons.mpr ⟨lw_p27, List.forall_mem_cons.mpr ⟨lw_p28, List.forall_mem_cons.mpr ⟨lw_p29, List.forall_mem_cons.mpr ⟨lw_p30, List.forall_mem_cons.mpr ⟨lw_p31, fun _ h => absurd h List.not_mem_nil⟩⟩⟩⟩⟩⟩⟩⟩⟩⟩⟩⟩⟩⟩⟩⟩
theorem lw_p32 : lw_okq (⟨"CommonDenominatorModel", "signOf", "(JJJ)I"⟩, 48) := ⟨⟨by decide +kernel, by decide +kernel⟩, ip_xt5 (ip_v5_2 (List.mem_of_getElem? (l := ip_u5_2.1) (i := 13) rfl)), ip_xt6 (ip_v6_2 (List.mem_of_getElem? (l := ip_u6_2.1) (i := 4) rfl)), ip_xt6 (ip_v6_2 (List.mem_of_getElem? (l := ip_u6_2.1) (i := 5) rfl))⟩
theorem lw_p33 : lw_okq (⟨"CommonDenominatorModel", "normOf", "(JJJ)J"⟩, 48) := ⟨⟨by decide +kernel, by decide +kernel⟩, ip_xt5 (ip_v5_2 (List.mem_of_getElem? (l := ip_u5_2.1) (i := 13) rfl)), ip_xt6 (ip_v6_2 (List.mem_of_getElem? (l := ip_u6_2.1) (i := 8) rfl)), ip_xt6 (ip_v6_2 (List.mem_of_getElem? (l := ip_u6_2.1) (i := 9) rfl))⟩
theorem lw_p34 : lw_okq (⟨"CommonDenominatorModel", "e1", "()J"⟩, 48) := ⟨⟨by decide +kernel, by decide +kernel⟩, ip_xt5 (ip_v5_2 (List.mem_of_getElem? (l := ip_u5_2.1) (i := 13) rfl)), ip_xt6 (ip_v6_2 (List.mem_of_getElem? (l := ip_u6_2.1) (i := 12) rfl)), ip_xt6 (ip_v6_2 (List.mem_of_getElem? (l := ip_u6_2.1) (i := 13) rfl))⟩
theorem lw_p35 : lw_okq (⟨"CommonDenominatorModel", "squares", "()J"⟩, 48) := ⟨⟨by decide +kernel, by decide +kernel⟩, ip_xt5 (ip_v5_2 (List.mem_of_getElem? (l := ip_u5_2.1) (i := 13) rfl)), ip_xt6 (ip_v6_2 (List.mem_of_getElem? (l := ip_u6_2.1) (i := 16) rfl)), ip_xt6 (ip_v6_2 (List.mem_of_getElem? (l := ip_u6_2.1) (i := 17) rfl))⟩
theorem lw_p36 : lw_okq (⟨"CommonDenominatorModel", "e2", "()J"⟩, 48) := ⟨⟨by decide +kernel, by decide +kernel⟩, ip_xt5 (ip_v5_2 (List.mem_of_getElem? (l := ip_u5_2.1) (i := 13) rfl)), ip_xt6 (ip_v6_2 (List.mem_of_getElem? (l := ip_u6_2.1) (i := 21) rfl)), ip_xt6 (ip_v6_2 (List.mem_of_getElem? (l := ip_u6_2.1) (i := 22) rfl))⟩
theorem lw_p37 : lw_okq (⟨"CommonDenominatorModel", "mixed", "()J"⟩, 48) := ⟨⟨by decide +kernel, by decide +kernel⟩, ip_xt5 (ip_v5_2 (List.mem_of_getElem? (l := ip_u5_2.1) (i := 13) rfl)), ip_xt6 (ip_v6_2 (List.mem_of_getElem? (l := ip_u6_2.1) (i := 25) rfl)), ip_xt6 (ip_v6_2 (List.mem_of_getElem? (l := ip_u6_2.1) (i := 26) rfl))⟩
theorem lw_p38 : lw_okq (⟨"CommonDenominatorModel", "e3", "()J"⟩, 48) := ⟨⟨by decide +kernel, by decide +kernel⟩, ip_xt5 (ip_v5_2 (List.mem_of_getElem? (l := ip_u5_2.1) (i := 13) rfl)), ip_xt6 (ip_v6_2 (List.mem_of_getElem? (l := ip_u6_2.1) (i := 30) rfl)), ip_xt6 (ip_v6_2 (List.mem_of_getElem? (l := ip_u6_2.1) (i := 31) rfl))⟩
theorem lw_p39 : lw_okq (⟨"CommonDenominatorModel", "pairs", "()J"⟩, 48) := ⟨⟨by decide +kernel, by decide +kernel⟩, ip_xt5 (ip_v5_2 (List.mem_of_getElem? (l := ip_u5_2.1) (i := 13) rfl)), ip_xt6 (ip_v6_3 (List.mem_of_getElem? (l := ip_u6_3.1) (i := 2) rfl)), ip_xt6 (ip_v6_3 (List.mem_of_getElem? (l := ip_u6_3.1) (i := 3) rfl))⟩
theorem lw_p40 : lw_okq (⟨"CommonDenominatorModel", "isNought", "(I)Z"⟩, 48) := ⟨⟨by decide +kernel, by decide +kernel⟩, ip_xt5 (ip_v5_2 (List.mem_of_getElem? (l := ip_u5_2.1) (i := 13) rfl)), ip_xt6 (ip_v6_3 (List.mem_of_getElem? (l := ip_u6_3.1) (i := 17) rfl)), ip_xt6 (ip_v6_3 (List.mem_of_getElem? (l := ip_u6_3.1) (i := 18) rfl))⟩
theorem lw_p41 : lw_okq (⟨"CommonDenominatorModel", "at", "(II)I"⟩, 48) := ⟨⟨by decide +kernel, by decide +kernel⟩, ip_xt5 (ip_v5_2 (List.mem_of_getElem? (l := ip_u5_2.1) (i := 13) rfl)), ip_xt6 (ip_v6_3 (List.mem_of_getElem? (l := ip_u6_3.1) (i := 21) rfl)), ip_xt6 (ip_v6_3 (List.mem_of_getElem? (l := ip_u6_3.1) (i := 22) rfl))⟩
theorem lw_p42 : lw_okq (⟨"CommonDenominatorModel", "combines", "(III)V"⟩, 48) := ⟨⟨by decide +kernel, by decide +kernel⟩, ip_xt5 (ip_v5_2 (List.mem_of_getElem? (l := ip_u5_2.1) (i := 13) rfl)), ip_xt6 (ip_v6_3 (List.mem_of_getElem? (l := ip_u6_3.1) (i := 25) rfl)), ip_xt6 (ip_v6_3 (List.mem_of_getElem? (l := ip_u6_3.1) (i := 26) rfl))⟩
theorem lw_p43 : lw_okq (⟨"CommonDenominatorModel", "multiplies", "(JJJJJJJ)V"⟩, 48) := ⟨⟨by decide +kernel, by decide +kernel⟩, ip_xt5 (ip_v5_2 (List.mem_of_getElem? (l := ip_u5_2.1) (i := 13) rfl)), ip_xt6 (ip_v6_3 (List.mem_of_getElem? (l := ip_u6_3.1) (i := 29) rfl)), ip_xt6 (ip_v6_3 (List.mem_of_getElem? (l := ip_u6_3.1) (i := 30) rfl))⟩
theorem lw_p44 : lw_okq (⟨"CommonDenominatorModel", "divides", "(JJJJJJJJ)V"⟩, 48) := ⟨⟨by decide +kernel, by decide +kernel⟩, ip_xt5 (ip_v5_2 (List.mem_of_getElem? (l := ip_u5_2.1) (i := 13) rfl)), ip_xt6 (ip_v6_4 (List.mem_of_getElem? (l := ip_u6_4.1) (i := 1) rfl)), ip_xt6 (ip_v6_4 (List.mem_of_getElem? (l := ip_u6_4.1) (i := 2) rfl))⟩
theorem lw_p45 : lw_okq (⟨"CommonDenominatorModel", "traceOf", "(JJJ)J"⟩, 48) := ⟨⟨by decide +kernel, by decide +kernel⟩, ip_xt5 (ip_v5_2 (List.mem_of_getElem? (l := ip_u5_2.1) (i := 13) rfl)), ip_xt6 (ip_v6_4 (List.mem_of_getElem? (l := ip_u6_4.1) (i := 5) rfl)), ip_xt6 (ip_v6_4 (List.mem_of_getElem? (l := ip_u6_4.1) (i := 6) rfl))⟩
theorem lw_p46 : lw_okq (⟨"CommonDenominatorModel", "secondOf", "(JJJ)J"⟩, 48) := ⟨⟨by decide +kernel, by decide +kernel⟩, ip_xt5 (ip_v5_2 (List.mem_of_getElem? (l := ip_u5_2.1) (i := 13) rfl)), ip_xt6 (ip_v6_4 (List.mem_of_getElem? (l := ip_u6_4.1) (i := 9) rfl)), ip_xt6 (ip_v6_4 (List.mem_of_getElem? (l := ip_u6_4.1) (i := 10) rfl))⟩
theorem lw_p47 : lw_okq (⟨"CommonDenominatorModel", "xaAll", "(J)J"⟩, 48) := ⟨⟨by decide +kernel, by decide +kernel⟩, ip_xt5 (ip_v5_2 (List.mem_of_getElem? (l := ip_u5_2.1) (i := 13) rfl)), ip_xt6 (ip_v6_4 (List.mem_of_getElem? (l := ip_u6_4.1) (i := 13) rfl)), ip_xt6 (ip_v6_4 (List.mem_of_getElem? (l := ip_u6_4.1) (i := 14) rfl))⟩
def lw_privs_3 : List (MethodName × Nat) := [(⟨"CommonDenominatorModel", "signOf", "(JJJ)I"⟩, 48), (⟨"CommonDenominatorModel", "normOf", "(JJJ)J"⟩, 48), (⟨"CommonDenominatorModel", "e1", "()J"⟩, 48), (⟨"CommonDenominatorModel", "squares", "()J"⟩, 48), (⟨"CommonDenominatorModel", "e2", "()J"⟩, 48), (⟨"CommonDenominatorModel", "mixed", "()J"⟩, 48), (⟨"CommonDenominatorModel", "e3", "()J"⟩, 48), (⟨"CommonDenominatorModel", "pairs", "()J"⟩, 48), (⟨"CommonDenominatorModel", "isNought", "(I)Z"⟩, 48), (⟨"CommonDenominatorModel", "at", "(II)I"⟩, 48), (⟨"CommonDenominatorModel", "combines", "(III)V"⟩, 48), (⟨"CommonDenominatorModel", "multiplies", "(JJJJJJJ)V"⟩, 48), (⟨"CommonDenominatorModel", "divides", "(JJJJJJJJ)V"⟩, 48), (⟨"CommonDenominatorModel", "traceOf", "(JJJ)J"⟩, 48), (⟨"CommonDenominatorModel", "secondOf", "(JJJ)J"⟩, 48), (⟨"CommonDenominatorModel", "xaAll", "(J)J"⟩, 48)]
theorem lw_r3 : ∀ q ∈ lw_privs_3, lw_okq q := List.forall_mem_cons.mpr ⟨lw_p32, List.forall_mem_cons.mpr ⟨lw_p33, List.forall_mem_cons.mpr ⟨lw_p34, List.forall_mem_cons.mpr ⟨lw_p35, List.forall_mem_cons.mpr ⟨lw_p36, List.forall_mem_cons.mpr ⟨lw_p37, List.forall_mem_cons.mpr ⟨lw_p38, List.forall_mem_cons.mpr ⟨lw_p39, List.forall_mem_cons.mpr ⟨lw_p40, List.forall_mem_cons.mpr ⟨lw_p41, List.forall_mem_cons.mpr ⟨lw_p42, List.forall_mem_cons.mpr ⟨lw_p43, List.forall_mem_cons.mpr ⟨lw_p44, List.forall_mem_cons.mpr ⟨lw_p45, List.forall_mem_cons.mpr ⟨lw_p46, List.forall_mem_cons.mpr ⟨lw_p47, fun _ h => absurd h List.not_mem_nil⟩⟩⟩⟩⟩⟩⟩⟩⟩⟩⟩⟩⟩⟩⟩⟩
theorem lw_p48 : lw_okq (⟨"CommonDenominatorModel", "xbAll", "(J)J"⟩, 48) := ⟨⟨by decide +kernel, by decide +kernel⟩, ip_xt5 (ip_v5_2 (List.mem_of_getElem? (l := ip_u5_2.1) (i := 13) rfl)), ip_xt6 (ip_v6_4 (List.mem_of_getElem? (l := ip_u6_4.1) (i := 17) rfl)), ip_xt6 (ip_v6_4 (List.mem_of_getElem? (l := ip_u6_4.1) (i := 18) rfl))⟩
theorem lw_p49 : lw_okq (⟨"CommonDenominatorModel", "xcAll", "(J)J"⟩, 48) := ⟨⟨by decide +kernel, by decide +kernel⟩, ip_xt5 (ip_v5_2 (List.mem_of_getElem? (l := ip_u5_2.1) (i := 13) rfl)), ip_xt6 (ip_v6_4 (List.mem_of_getElem? (l := ip_u6_4.1) (i := 21) rfl)), ip_xt6 (ip_v6_4 (List.mem_of_getElem? (l := ip_u6_4.1) (i := 22) rfl))⟩
theorem lw_p50 : lw_okq (⟨"CommonDenominatorModel", "canBe", "()Z"⟩, 48) := ⟨⟨by decide +kernel, by decide +kernel⟩, ip_xt5 (ip_v5_2 (List.mem_of_getElem? (l := ip_u5_2.1) (i := 13) rfl)), ip_xt6 (ip_v6_4 (List.mem_of_getElem? (l := ip_u6_4.1) (i := 25) rfl)), ip_xt6 (ip_v6_4 (List.mem_of_getElem? (l := ip_u6_4.1) (i := 26) rfl))⟩
theorem lw_p51 : lw_okq (⟨"CommonDenominatorModel", "canBegin", "(II)Z"⟩, 48) := ⟨⟨by decide +kernel, by decide +kernel⟩, ip_xt5 (ip_v5_2 (List.mem_of_getElem? (l := ip_u5_2.1) (i := 13) rfl)), ip_xt6 (ip_v6_5 (List.mem_of_getElem? (l := ip_u6_5.1) (i := 1) rfl)), ip_xt6 (ip_v6_5 (List.mem_of_getElem? (l := ip_u6_5.1) (i := 2) rfl))⟩
theorem lw_p52 : lw_okq (⟨"CommonDenominatorModel", "begins", "(III)V"⟩, 48) := ⟨⟨by decide +kernel, by decide +kernel⟩, ip_xt5 (ip_v5_2 (List.mem_of_getElem? (l := ip_u5_2.1) (i := 13) rfl)), ip_xt6 (ip_v6_5 (List.mem_of_getElem? (l := ip_u6_5.1) (i := 5) rfl)), ip_xt6 (ip_v6_5 (List.mem_of_getElem? (l := ip_u6_5.1) (i := 6) rfl))⟩
theorem lw_p53 : lw_okq (⟨"CommonDenominatorModel", "floorAt", "(II)I"⟩, 48) := ⟨⟨by decide +kernel, by decide +kernel⟩, ip_xt5 (ip_v5_2 (List.mem_of_getElem? (l := ip_u5_2.1) (i := 13) rfl)), ip_xt6 (ip_v6_5 (List.mem_of_getElem? (l := ip_u6_5.1) (i := 9) rfl)), ip_xt6 (ip_v6_5 (List.mem_of_getElem? (l := ip_u6_5.1) (i := 10) rfl))⟩
theorem lw_p54 : lw_okq (⟨"CommonDenominatorModel", "ends", "()Z"⟩, 48) := ⟨⟨by decide +kernel, by decide +kernel⟩, ip_xt5 (ip_v5_2 (List.mem_of_getElem? (l := ip_u5_2.1) (i := 13) rfl)), ip_xt6 (ip_v6_5 (List.mem_of_getElem? (l := ip_u6_5.1) (i := 17) rfl)), ip_xt6 (ip_v6_5 (List.mem_of_getElem? (l := ip_u6_5.1) (i := 18) rfl))⟩
theorem lw_p55 : lw_okq (⟨"CommonDenominatorModel", "parts", "()V"⟩, 48) := ⟨⟨by decide +kernel, by decide +kernel⟩, ip_xt5 (ip_v5_2 (List.mem_of_getElem? (l := ip_u5_2.1) (i := 13) rfl)), ip_xt6 (ip_v6_5 (List.mem_of_getElem? (l := ip_u6_5.1) (i := 21) rfl)), ip_xt6 (ip_v6_5 (List.mem_of_getElem? (l := ip_u6_5.1) (i := 22) rfl))⟩
theorem lw_p56 : lw_okq (⟨"CommonDenominatorModel", "stateAt", "(II)I"⟩, 48) := ⟨⟨by decide +kernel, by decide +kernel⟩, ip_xt5 (ip_v5_2 (List.mem_of_getElem? (l := ip_u5_2.1) (i := 13) rfl)), ip_xt6 (ip_v6_5 (List.mem_of_getElem? (l := ip_u6_5.1) (i := 25) rfl)), ip_xt6 (ip_v6_5 (List.mem_of_getElem? (l := ip_u6_5.1) (i := 26) rfl))⟩
theorem lw_p57 : lw_okq (⟨"CommonDenominatorModel", "tries", "()Z"⟩, 48) := ⟨⟨by decide +kernel, by decide +kernel⟩, ip_xt5 (ip_v5_2 (List.mem_of_getElem? (l := ip_u5_2.1) (i := 13) rfl)), ip_xt6 (ip_v6_5 (List.mem_of_getElem? (l := ip_u6_5.1) (i := 29) rfl)), ip_xt6 (ip_v6_5 (List.mem_of_getElem? (l := ip_u6_5.1) (i := 30) rfl))⟩
theorem lw_p58 : lw_okq (⟨"CommonDenominatorModel", "squared", "([JIII)V"⟩, 48) := ⟨⟨by decide +kernel, by decide +kernel⟩, ip_xt5 (ip_v5_2 (List.mem_of_getElem? (l := ip_u5_2.1) (i := 13) rfl)), ip_xt6 (ip_v6_6 (List.mem_of_getElem? (l := ip_u6_6.1) (i := 1) rfl)), ip_xt6 (ip_v6_6 (List.mem_of_getElem? (l := ip_u6_6.1) (i := 2) rfl))⟩
theorem lw_p59 : lw_okq (⟨"CommonDenominatorModel", "times", "(JJ)J"⟩, 48) := ⟨⟨by decide +kernel, by decide +kernel⟩, ip_xt5 (ip_v5_2 (List.mem_of_getElem? (l := ip_u5_2.1) (i := 13) rfl)), ip_xt6 (ip_v6_6 (List.mem_of_getElem? (l := ip_u6_6.1) (i := 5) rfl)), ip_xt6 (ip_v6_6 (List.mem_of_getElem? (l := ip_u6_6.1) (i := 6) rfl))⟩
theorem lw_p60 : lw_okq (⟨"CommonDenominatorModel", "plus", "(JJ)J"⟩, 48) := ⟨⟨by decide +kernel, by decide +kernel⟩, ip_xt5 (ip_v5_2 (List.mem_of_getElem? (l := ip_u5_2.1) (i := 13) rfl)), ip_xt6 (ip_v6_6 (List.mem_of_getElem? (l := ip_u6_6.1) (i := 10) rfl)), ip_xt6 (ip_v6_6 (List.mem_of_getElem? (l := ip_u6_6.1) (i := 11) rfl))⟩
theorem lw_p61 : lw_okq (⟨"CommonDenominatorModel", "isNext", "(I)Z"⟩, 48) := ⟨⟨by decide +kernel, by decide +kernel⟩, ip_xt5 (ip_v5_2 (List.mem_of_getElem? (l := ip_u5_2.1) (i := 13) rfl)), ip_xt6 (ip_v6_6 (List.mem_of_getElem? (l := ip_u6_6.1) (i := 14) rfl)), ip_xt6 (ip_v6_6 (List.mem_of_getElem? (l := ip_u6_6.1) (i := 15) rfl))⟩
theorem lw_p62 : lw_okq (⟨"CommonDenominatorModel", "does", "()V"⟩, 48) := ⟨⟨by decide +kernel, by decide +kernel⟩, ip_xt5 (ip_v5_2 (List.mem_of_getElem? (l := ip_u5_2.1) (i := 13) rfl)), ip_xt6 (ip_v6_6 (List.mem_of_getElem? (l := ip_u6_6.1) (i := 18) rfl)), ip_xt6 (ip_v6_6 (List.mem_of_getElem? (l := ip_u6_6.1) (i := 19) rfl))⟩
theorem lw_p63 : lw_okq (⟨"CommonDenominatorModel", "looksBack", "()V"⟩, 48) := ⟨⟨by decide +kernel, by decide +kernel⟩, ip_xt5 (ip_v5_2 (List.mem_of_getElem? (l := ip_u5_2.1) (i := 13) rfl)), ip_xt6 (ip_v6_6 (List.mem_of_getElem? (l := ip_u6_6.1) (i := 22) rfl)), ip_xt6 (ip_v6_6 (List.mem_of_getElem? (l := ip_u6_6.1) (i := 23) rfl))⟩
def lw_privs_4 : List (MethodName × Nat) := [(⟨"CommonDenominatorModel", "xbAll", "(J)J"⟩, 48), (⟨"CommonDenominatorModel", "xcAll", "(J)J"⟩, 48), (⟨"CommonDenominatorModel", "canBe", "()Z"⟩, 48), (⟨"CommonDenominatorModel", "canBegin", "(II)Z"⟩, 48), (⟨"CommonDenominatorModel", "begins", "(III)V"⟩, 48), (⟨"CommonDenominatorModel", "floorAt", "(II)I"⟩, 48), (⟨"CommonDenominatorModel", "ends", "()Z"⟩, 48), (⟨"CommonDenominatorModel", "parts", "()V"⟩, 48), (⟨"CommonDenominatorModel", "stateAt", "(II)I"⟩, 48), (⟨"CommonDenominatorModel", "tries", "()Z"⟩, 48), (⟨"CommonDenominatorModel", "squared", "([JIII)V"⟩, 48), (⟨"CommonDenominatorModel", "times", "(JJ)J"⟩, 48), (⟨"CommonDenominatorModel", "plus", "(JJ)J"⟩, 48), (⟨"CommonDenominatorModel", "isNext", "(I)Z"⟩, 48), (⟨"CommonDenominatorModel", "does", "()V"⟩, 48), (⟨"CommonDenominatorModel", "looksBack", "()V"⟩, 48)]
theorem lw_r4 : ∀ q ∈ lw_privs_4, lw_okq q := List.forall_mem_cons.mpr ⟨lw_p48, List.forall_mem_cons.mpr ⟨lw_p49, List.forall_mem_cons.mpr ⟨lw_p50, List.forall_mem_cons.mpr ⟨lw_p51, List.forall_mem_cons.mpr ⟨lw_p52, List.forall_mem_cons.mpr ⟨lw_p53, List.forall_mem_cons.mpr ⟨lw_p54, List.forall_mem_cons.mpr ⟨lw_p55, List.forall_mem_cons.mpr ⟨lw_p56, List.forall_mem_cons.mpr ⟨lw_p57, List.forall_mem_cons.mpr ⟨lw_p58, List.forall_mem_cons.mpr ⟨lw_p59, List.forall_mem_cons.mpr ⟨lw_p60, List.forall_mem_cons.mpr ⟨lw_p61, List.forall_mem_cons.mpr ⟨lw_p62, List.forall_mem_cons.mpr ⟨lw_p63, fun _ h => absurd h List.not_mem_nil⟩⟩⟩⟩⟩⟩⟩⟩⟩⟩⟩⟩⟩⟩⟩⟩
theorem lw_p64 : lw_okq (⟨"CommonDenominatorModel", "areAlike", "(II)Z"⟩, 48) := ⟨⟨by decide +kernel, by decide +kernel⟩, ip_xt5 (ip_v5_2 (List.mem_of_getElem? (l := ip_u5_2.1) (i := 13) rfl)), ip_xt6 (ip_v6_6 (List.mem_of_getElem? (l := ip_u6_6.1) (i := 26) rfl)), ip_xt6 (ip_v6_6 (List.mem_of_getElem? (l := ip_u6_6.1) (i := 27) rfl))⟩
theorem lw_p65 : lw_okq (⟨"CommonDenominatorModel", "lays4", "(I)V"⟩, 48) := ⟨⟨by decide +kernel, by decide +kernel⟩, ip_xt5 (ip_v5_2 (List.mem_of_getElem? (l := ip_u5_2.1) (i := 13) rfl)), ip_xt6 (ip_v6_7 (List.mem_of_getElem? (l := ip_u6_7.1) (i := 10) rfl)), ip_xt6 (ip_v6_7 (List.mem_of_getElem? (l := ip_u6_7.1) (i := 11) rfl))⟩
theorem lw_p66 : lw_okq (⟨"CommonDenominatorModel", "readsAll", "()I"⟩, 48) := ⟨⟨by decide +kernel, by decide +kernel⟩, ip_xt5 (ip_v5_2 (List.mem_of_getElem? (l := ip_u5_2.1) (i := 13) rfl)), ip_xt7 (ip_v7_0 (List.mem_of_getElem? (l := ip_u7_0.1) (i := 6) rfl)), ip_xt7 (ip_v7_0 (List.mem_of_getElem? (l := ip_u7_0.1) (i := 7) rfl))⟩
theorem lw_p67 : lw_okq (⟨"CommonDenominatorModel", "reads", "()V"⟩, 48) := ⟨⟨by decide +kernel, by decide +kernel⟩, ip_xt5 (ip_v5_2 (List.mem_of_getElem? (l := ip_u5_2.1) (i := 13) rfl)), ip_xt7 (ip_v7_0 (List.mem_of_getElem? (l := ip_u7_0.1) (i := 10) rfl)), ip_xt7 (ip_v7_0 (List.mem_of_getElem? (l := ip_u7_0.1) (i := 11) rfl))⟩
theorem lw_p68 : lw_okq (⟨"CommonDenominatorModel", "isFigure", "()Z"⟩, 48) := ⟨⟨by decide +kernel, by decide +kernel⟩, ip_xt5 (ip_v5_2 (List.mem_of_getElem? (l := ip_u5_2.1) (i := 13) rfl)), ip_xt7 (ip_v7_0 (List.mem_of_getElem? (l := ip_u7_0.1) (i := 14) rfl)), ip_xt7 (ip_v7_0 (List.mem_of_getElem? (l := ip_u7_0.1) (i := 15) rfl))⟩
theorem lw_p69 : lw_okq (⟨"CommonDenominatorModel", "readsOne", "(I)Z"⟩, 48) := ⟨⟨by decide +kernel, by decide +kernel⟩, ip_xt5 (ip_v5_2 (List.mem_of_getElem? (l := ip_u5_2.1) (i := 13) rfl)), ip_xt7 (ip_v7_0 (List.mem_of_getElem? (l := ip_u7_0.1) (i := 18) rfl)), ip_xt7 (ip_v7_0 (List.mem_of_getElem? (l := ip_u7_0.1) (i := 19) rfl))⟩
theorem lw_p70 : lw_okq (⟨"CommonDenominatorModel", "isWhole", "()Z"⟩, 48) := ⟨⟨by decide +kernel, by decide +kernel⟩, ip_xt5 (ip_v5_2 (List.mem_of_getElem? (l := ip_u5_2.1) (i := 13) rfl)), ip_xt7 (ip_v7_0 (List.mem_of_getElem? (l := ip_u7_0.1) (i := 22) rfl)), ip_xt7 (ip_v7_0 (List.mem_of_getElem? (l := ip_u7_0.1) (i := 23) rfl))⟩
theorem lw_p71 : lw_okq (⟨"CommonDenominatorModel", "turnedIn", "(II)I"⟩, 48) := ⟨⟨by decide +kernel, by decide +kernel⟩, ip_xt5 (ip_v5_2 (List.mem_of_getElem? (l := ip_u5_2.1) (i := 13) rfl)), ip_xt7 (ip_v7_2 (List.mem_of_getElem? (l := ip_u7_2.1) (i := 0) rfl)), ip_xt7 (ip_v7_2 (List.mem_of_getElem? (l := ip_u7_2.1) (i := 1) rfl))⟩
theorem lw_p72 : lw_okq (⟨"CommonDenominatorModel", "areBounds", "()Z"⟩, 48) := ⟨⟨by decide +kernel, by decide +kernel⟩, ip_xt5 (ip_v5_2 (List.mem_of_getElem? (l := ip_u5_2.1) (i := 13) rfl)), ip_xt7 (ip_v7_2 (List.mem_of_getElem? (l := ip_u7_2.1) (i := 11) rfl)), ip_xt7 (ip_v7_2 (List.mem_of_getElem? (l := ip_u7_2.1) (i := 12) rfl))⟩
theorem lw_p73 : lw_okq (⟨"CommonDenominatorModel", "outerOf", "(II)I"⟩, 48) := ⟨⟨by decide +kernel, by decide +kernel⟩, ip_xt5 (ip_v5_2 (List.mem_of_getElem? (l := ip_u5_2.1) (i := 13) rfl)), ip_xt7 (ip_v7_2 (List.mem_of_getElem? (l := ip_u7_2.1) (i := 15) rfl)), ip_xt7 (ip_v7_2 (List.mem_of_getElem? (l := ip_u7_2.1) (i := 16) rfl))⟩
theorem lw_p74 : lw_okq (⟨"CommonDenominatorModel", "isWithinBillion", "()Z"⟩, 48) := ⟨⟨by decide +kernel, by decide +kernel⟩, ip_xt5 (ip_v5_2 (List.mem_of_getElem? (l := ip_u5_2.1) (i := 13) rfl)), ip_xt7 (ip_v7_2 (List.mem_of_getElem? (l := ip_u7_2.1) (i := 30) rfl)), ip_xt7 (ip_v7_2 (List.mem_of_getElem? (l := ip_u7_2.1) (i := 31) rfl))⟩
theorem lw_p75 : lw_okq (⟨"CommonDenominatorModel", "othe\x72", "(II)J"⟩, 48) := ⟨⟨by decide +kernel, by decide +kernel⟩, ip_xt5 (ip_v5_2 (List.mem_of_getElem? (l := ip_u5_2.1) (i := 13) rfl)), ip_xt7 (ip_v7_3 (List.mem_of_getElem? (l := ip_u7_3.1) (i := 3) rfl)), ip_xt7 (ip_v7_3 (List.mem_of_getElem? (l := ip_u7_3.1) (i := 4) rfl))⟩
theorem lw_p76 : lw_okq (⟨"CommonDenominatorModel", "laysSimplest", "(I)V"⟩, 48) := ⟨⟨by decide +kernel, by decide +kernel⟩, ip_xt5 (ip_v5_2 (List.mem_of_getElem? (l := ip_u5_2.1) (i := 13) rfl)), ip_xt7 (ip_v7_3 (List.mem_of_getElem? (l := ip_u7_3.1) (i := 15) rfl)), ip_xt7 (ip_v7_3 (List.mem_of_getElem? (l := ip_u7_3.1) (i := 16) rfl))⟩
theorem lw_p77 : lw_okq (⟨"CommonDenominatorModel", "areSmall", "(I)Z"⟩, 48) := ⟨⟨by decide +kernel, by decide +kernel⟩, ip_xt5 (ip_v5_2 (List.mem_of_getElem? (l := ip_u5_2.1) (i := 13) rfl)), ip_xt7 (ip_v7_3 (List.mem_of_getElem? (l := ip_u7_3.1) (i := 23) rfl)), ip_xt7 (ip_v7_3 (List.mem_of_getElem? (l := ip_u7_3.1) (i := 24) rfl))⟩
theorem lw_p78 : lw_okq (⟨"CommonDenominatorModel", "wholeBy", "(IJ)J"⟩, 48) := ⟨⟨by decide +kernel, by decide +kernel⟩, ip_xt5 (ip_v5_2 (List.mem_of_getElem? (l := ip_u5_2.1) (i := 13) rfl)), ip_xt7 (ip_v7_3 (List.mem_of_getElem? (l := ip_u7_3.1) (i := 28) rfl)), ip_xt7 (ip_v7_3 (List.mem_of_getElem? (l := ip_u7_3.1) (i := 29) rfl))⟩
theorem lw_p79 : lw_okq (⟨"CommonDenominatorModel", "isPeriod", "()Z"⟩, 48) := ⟨⟨by decide +kernel, by decide +kernel⟩, ip_xt5 (ip_v5_2 (List.mem_of_getElem? (l := ip_u5_2.1) (i := 13) rfl)), ip_xt7 (ip_v7_4 (List.mem_of_getElem? (l := ip_u7_4.1) (i := 4) rfl)), ip_xt7 (ip_v7_4 (List.mem_of_getElem? (l := ip_u7_4.1) (i := 5) rfl))⟩
def lw_privs_5 : List (MethodName × Nat) := [(⟨"CommonDenominatorModel", "areAlike", "(II)Z"⟩, 48), (⟨"CommonDenominatorModel", "lays4", "(I)V"⟩, 48), (⟨"CommonDenominatorModel", "readsAll", "()I"⟩, 48), (⟨"CommonDenominatorModel", "reads", "()V"⟩, 48), (⟨"CommonDenominatorModel", "isFigure", "()Z"⟩, 48), (⟨"CommonDenominatorModel", "readsOne", "(I)Z"⟩, 48), (⟨"CommonDenominatorModel", "isWhole", "()Z"⟩, 48), (⟨"CommonDenominatorModel", "turnedIn", "(II)I"⟩, 48), (⟨"CommonDenominatorModel", "areBounds", "()Z"⟩, 48), (⟨"CommonDenominatorModel", "outerOf", "(II)I"⟩, 48), (⟨"CommonDenominatorModel", "isWithinBillion", "()Z"⟩, 48), (⟨"CommonDenominatorModel", "othe\x72", "(II)J"⟩, 48), (⟨"CommonDenominatorModel", "laysSimplest", "(I)V"⟩, 48), (⟨"CommonDenominatorModel", "areSmall", "(I)Z"⟩, 48), (⟨"CommonDenominatorModel", "wholeBy", "(IJ)J"⟩, 48), (⟨"CommonDenominatorModel", "isPeriod", "()Z"⟩, 48)]
theorem lw_r5 : ∀ q ∈ lw_privs_5, lw_okq q := List.forall_mem_cons.mpr ⟨lw_p64, List.forall_mem_cons.mpr ⟨lw_p65, List.forall_mem_cons.mpr ⟨lw_p66, List.forall_mem_cons.mpr ⟨lw_p67, List.forall_mem_cons.mpr ⟨lw_p68, List.forall_mem_cons.mpr ⟨lw_p69, List.forall_mem_cons.mpr ⟨lw_p70, List.forall_mem_cons.mpr ⟨lw_p71, List.forall_mem_cons.mpr ⟨lw_p72, List.forall_mem_cons.mpr ⟨lw_p73, List.forall_mem_cons.mpr ⟨lw_p74, List.forall_mem_cons.mpr ⟨lw_p75, List.forall_mem_cons.mpr ⟨lw_p76, List.forall_mem_cons.mpr ⟨lw_p77, List.forall_mem_cons.mpr ⟨lw_p78, List.forall_mem_cons.mpr ⟨lw_p79, fun _ h => absurd h List.not_mem_nil⟩⟩⟩⟩⟩⟩⟩⟩⟩⟩⟩⟩⟩⟩⟩⟩
theorem lw_p80 : lw_okq (⟨"CommonDenominatorModel", "laysRound", "()Z"⟩, 48) := ⟨⟨by decide +kernel, by decide +kernel⟩, ip_xt5 (ip_v5_2 (List.mem_of_getElem? (l := ip_u5_2.1) (i := 13) rfl)), ip_xt7 (ip_v7_4 (List.mem_of_getElem? (l := ip_u7_4.1) (i := 12) rfl)), ip_xt7 (ip_v7_4 (List.mem_of_getElem? (l := ip_u7_4.1) (i := 13) rfl))⟩
theorem lw_p81 : lw_okq (⟨"CommonDenominatorModel", "begins1", "()V"⟩, 48) := ⟨⟨by decide +kernel, by decide +kernel⟩, ip_xt5 (ip_v5_2 (List.mem_of_getElem? (l := ip_u5_2.1) (i := 13) rfl)), ip_xt7 (ip_v7_4 (List.mem_of_getElem? (l := ip_u7_4.1) (i := 16) rfl)), ip_xt7 (ip_v7_4 (List.mem_of_getElem? (l := ip_u7_4.1) (i := 17) rfl))⟩
theorem lw_p82 : lw_okq (⟨"CommonDenominatorModel", "rounds", "(I)V"⟩, 48) := ⟨⟨by decide +kernel, by decide +kernel⟩, ip_xt5 (ip_v5_2 (List.mem_of_getElem? (l := ip_u5_2.1) (i := 13) rfl)), ip_xt7 (ip_v7_4 (List.mem_of_getElem? (l := ip_u7_4.1) (i := 20) rfl)), ip_xt7 (ip_v7_4 (List.mem_of_getElem? (l := ip_u7_4.1) (i := 21) rfl))⟩
theorem lw_p83 : lw_okq (⟨"CommonDenominatorModel", "isUnit", "()Z"⟩, 48) := ⟨⟨by decide +kernel, by decide +kernel⟩, ip_xt5 (ip_v5_2 (List.mem_of_getElem? (l := ip_u5_2.1) (i := 13) rfl)), ip_xt7 (ip_v7_4 (List.mem_of_getElem? (l := ip_u7_4.1) (i := 28) rfl)), ip_xt7 (ip_v7_4 (List.mem_of_getElem? (l := ip_u7_4.1) (i := 29) rfl))⟩
theorem lw_p84 : lw_okq (⟨"CommonDenominatorModel", "isGreat", "(II)Z"⟩, 48) := ⟨⟨by decide +kernel, by decide +kernel⟩, ip_xt5 (ip_v5_2 (List.mem_of_getElem? (l := ip_u5_2.1) (i := 13) rfl)), ip_xt7 (ip_v7_5 (List.mem_of_getElem? (l := ip_u7_5.1) (i := 1) rfl)), ip_xt7 (ip_v7_5 (List.mem_of_getElem? (l := ip_u7_5.1) (i := 2) rfl))⟩
theorem lw_p85 : lw_okq (⟨"CommonDenominatorModel", "mino\x72", "(II)J"⟩, 48) := ⟨⟨by decide +kernel, by decide +kernel⟩, ip_xt5 (ip_v5_2 (List.mem_of_getElem? (l := ip_u5_2.1) (i := 13) rfl)), ip_xt7 (ip_v7_5 (List.mem_of_getElem? (l := ip_u7_5.1) (i := 9) rfl)), ip_xt7 (ip_v7_5 (List.mem_of_getElem? (l := ip_u7_5.1) (i := 10) rfl))⟩
theorem lw_p86 : lw_okq (⟨"CommonDenominatorModel", "isNone", "(III)Z"⟩, 48) := ⟨⟨by decide +kernel, by decide +kernel⟩, ip_xt5 (ip_v5_2 (List.mem_of_getElem? (l := ip_u5_2.1) (i := 13) rfl)), ip_xt7 (ip_v7_5 (List.mem_of_getElem? (l := ip_u7_5.1) (i := 17) rfl)), ip_xt7 (ip_v7_5 (List.mem_of_getElem? (l := ip_u7_5.1) (i := 18) rfl))⟩
theorem lw_p87 : lw_okq (⟨"CommonDenominatorModel", "isPrope\x72", "()Z"⟩, 48) := ⟨⟨by decide +kernel, by decide +kernel⟩, ip_xt5 (ip_v5_2 (List.mem_of_getElem? (l := ip_u5_2.1) (i := 13) rfl)), ip_xt7 (ip_v7_6 (List.mem_of_getElem? (l := ip_u7_6.1) (i := 8) rfl)), ip_xt7 (ip_v7_6 (List.mem_of_getElem? (l := ip_u7_6.1) (i := 9) rfl))⟩
theorem lw_p88 : lw_okq (⟨"CommonDenominatorModel", "isAsStep", "(I)Z"⟩, 48) := ⟨⟨by decide +kernel, by decide +kernel⟩, ip_xt5 (ip_v5_2 (List.mem_of_getElem? (l := ip_u5_2.1) (i := 13) rfl)), ip_xt7 (ip_v7_6 (List.mem_of_getElem? (l := ip_u7_6.1) (i := 12) rfl)), ip_xt7 (ip_v7_6 (List.mem_of_getElem? (l := ip_u7_6.1) (i := 13) rfl))⟩
theorem lw_p89 : lw_okq (⟨"CommonDenominatorModel", "laysSquares", "()Z"⟩, 48) := ⟨⟨by decide +kernel, by decide +kernel⟩, ip_xt5 (ip_v5_2 (List.mem_of_getElem? (l := ip_u5_2.1) (i := 13) rfl)), ip_xt7 (ip_v7_6 (List.mem_of_getElem? (l := ip_u7_6.1) (i := 20) rfl)), ip_xt7 (ip_v7_6 (List.mem_of_getElem? (l := ip_u7_6.1) (i := 21) rfl))⟩
theorem lw_p90 : lw_okq (⟨"CommonDenominatorModel", "turnedInWord", "()I"⟩, 48) := ⟨⟨by decide +kernel, by decide +kernel⟩, ip_xt5 (ip_v5_2 (List.mem_of_getElem? (l := ip_u5_2.1) (i := 13) rfl)), ip_xt7 (ip_v7_6 (List.mem_of_getElem? (l := ip_u7_6.1) (i := 25) rfl)), ip_xt7 (ip_v7_6 (List.mem_of_getElem? (l := ip_u7_6.1) (i := 26) rfl))⟩
theorem lw_p91 : lw_okq (⟨"CommonDenominatorModel", "isSolved", "()Z"⟩, 48) := ⟨⟨by decide +kernel, by decide +kernel⟩, ip_xt5 (ip_v5_2 (List.mem_of_getElem? (l := ip_u5_2.1) (i := 13) rfl)), ip_xt7 (ip_v7_6 (List.mem_of_getElem? (l := ip_u7_6.1) (i := 29) rfl)), ip_xt7 (ip_v7_6 (List.mem_of_getElem? (l := ip_u7_6.1) (i := 30) rfl))⟩
theorem lw_p92 : lw_okq (⟨"CommonDenominatorModel", "refusesField", "(III)I"⟩, 48) := ⟨⟨by decide +kernel, by decide +kernel⟩, ip_xt5 (ip_v5_2 (List.mem_of_getElem? (l := ip_u5_2.1) (i := 13) rfl)), ip_xt7 (ip_v7_7 (List.mem_of_getElem? (l := ip_u7_7.1) (i := 1) rfl)), ip_xt7 (ip_v7_7 (List.mem_of_getElem? (l := ip_u7_7.1) (i := 2) rfl))⟩
theorem lw_p93 : lw_okq (⟨"CommonDenominatorModel", "second", "(IIII)V"⟩, 48) := ⟨⟨by decide +kernel, by decide +kernel⟩, ip_xt5 (ip_v5_2 (List.mem_of_getElem? (l := ip_u5_2.1) (i := 13) rfl)), ip_xt7 (ip_v7_7 (List.mem_of_getElem? (l := ip_u7_7.1) (i := 5) rfl)), ip_xt7 (ip_v7_7 (List.mem_of_getElem? (l := ip_u7_7.1) (i := 6) rfl))⟩
theorem lw_p94 : lw_okq (⟨"CommonDenominatorModel", "goesOn", "()I"⟩, 48) := ⟨⟨by decide +kernel, by decide +kernel⟩, ip_xt5 (ip_v5_2 (List.mem_of_getElem? (l := ip_u5_2.1) (i := 13) rfl)), ip_xt7 (ip_v7_7 (List.mem_of_getElem? (l := ip_u7_7.1) (i := 13) rfl)), ip_xt7 (ip_v7_7 (List.mem_of_getElem? (l := ip_u7_7.1) (i := 14) rfl))⟩
def lw_privs_6 : List (MethodName × Nat) := [(⟨"CommonDenominatorModel", "laysRound", "()Z"⟩, 48), (⟨"CommonDenominatorModel", "begins1", "()V"⟩, 48), (⟨"CommonDenominatorModel", "rounds", "(I)V"⟩, 48), (⟨"CommonDenominatorModel", "isUnit", "()Z"⟩, 48), (⟨"CommonDenominatorModel", "isGreat", "(II)Z"⟩, 48), (⟨"CommonDenominatorModel", "mino\x72", "(II)J"⟩, 48), (⟨"CommonDenominatorModel", "isNone", "(III)Z"⟩, 48), (⟨"CommonDenominatorModel", "isPrope\x72", "()Z"⟩, 48), (⟨"CommonDenominatorModel", "isAsStep", "(I)Z"⟩, 48), (⟨"CommonDenominatorModel", "laysSquares", "()Z"⟩, 48), (⟨"CommonDenominatorModel", "turnedInWord", "()I"⟩, 48), (⟨"CommonDenominatorModel", "isSolved", "()Z"⟩, 48), (⟨"CommonDenominatorModel", "refusesField", "(III)I"⟩, 48), (⟨"CommonDenominatorModel", "second", "(IIII)V"⟩, 48), (⟨"CommonDenominatorModel", "goesOn", "()I"⟩, 48)]
theorem lw_r6 : ∀ q ∈ lw_privs_6, lw_okq q := List.forall_mem_cons.mpr ⟨lw_p80, List.forall_mem_cons.mpr ⟨lw_p81, List.forall_mem_cons.mpr ⟨lw_p82, List.forall_mem_cons.mpr ⟨lw_p83, List.forall_mem_cons.mpr ⟨lw_p84, List.forall_mem_cons.mpr ⟨lw_p85, List.forall_mem_cons.mpr ⟨lw_p86, List.forall_mem_cons.mpr ⟨lw_p87, List.forall_mem_cons.mpr ⟨lw_p88, List.forall_mem_cons.mpr ⟨lw_p89, List.forall_mem_cons.mpr ⟨lw_p90, List.forall_mem_cons.mpr ⟨lw_p91, List.forall_mem_cons.mpr ⟨lw_p92, List.forall_mem_cons.mpr ⟨lw_p93, List.forall_mem_cons.mpr ⟨lw_p94, fun _ h => absurd h List.not_mem_nil⟩⟩⟩⟩⟩⟩⟩⟩⟩⟩⟩⟩⟩⟩⟩
def lw_privs : List (MethodName × Nat) := lw_privs_1 ++ (lw_privs_2 ++ (lw_privs_3 ++ (lw_privs_4 ++ (lw_privs_5 ++ (lw_privs_6)))))
def lw_tbl : List Cond := k2_sels lw_privs ++ tables_1
theorem lw_privs_ok : ∀ q ∈ lw_privs, lw_okq q := by
  show ∀ q ∈ lw_privs_1 ++ (lw_privs_2 ++ (lw_privs_3 ++ (lw_privs_4 ++ (lw_privs_5 ++ (lw_privs_6))))), lw_okq q
  exact List.forall_mem_append.mpr ⟨lw_r1, List.forall_mem_append.mpr ⟨lw_r2, List.forall_mem_append.mpr ⟨lw_r3, List.forall_mem_append.mpr ⟨lw_r4, List.forall_mem_append.mpr ⟨lw_r5, lw_r6⟩⟩⟩⟩⟩
end
