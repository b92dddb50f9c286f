noncomputable section
-- PART 00.pieces
-- THE TABLES IN PIECES
theorem ip_xt1 {w : Cond} (h : w ∈ tables_1_1) : w ∈ tables_1 := (List.mem_append_left _ h)
theorem ip_xt2 {w : Cond} (h : w ∈ tables_1_2) : w ∈ tables_1 := (List.mem_append_right _ (List.mem_append_left _ h))
theorem ip_xt3 {w : Cond} (h : w ∈ tables_1_3) : w ∈ tables_1 := (List.mem_append_right _ (List.mem_append_right _ (List.mem_append_left _ h)))
theorem ip_xt4 {w : Cond} (h : w ∈ tables_1_4) : w ∈ tables_1 := (List.mem_append_right _ (List.mem_append_right _ (List.mem_append_right _ (List.mem_append_left _ h))))
theorem ip_xt5 {w : Cond} (h : w ∈ tables_1_5) : w ∈ tables_1 := (List.mem_append_right _ (List.mem_append_right _ (List.mem_append_right _ (List.mem_append_right _ (List.mem_append_left _ h)))))
theorem ip_xt6 {w : Cond} (h : w ∈ tables_1_6) : w ∈ tables_1 := (List.mem_append_right _ (List.mem_append_right _ (List.mem_append_right _ (List.mem_append_right _ (List.mem_append_right _ (List.mem_append_left _ h))))))
theorem ip_xt7 {w : Cond} (h : w ∈ tables_1_7) : w ∈ tables_1 := (List.mem_append_right _ (List.mem_append_right _ (List.mem_append_right _ (List.mem_append_right _ (List.mem_append_right _ (List.mem_append_right _ (List.mem_append_left _ h)))))))
theorem ip_xt8 {w : Cond} (h : w ∈ tables_1_8) : w ∈ tables_1 := (List.mem_append_right _ (List.mem_append_right _ (List.mem_append_right _ (List.mem_append_right _ (List.mem_append_right _ (List.mem_append_right _ (List.mem_append_right _ h)))))))
set_option maxRecDepth 100000 in
noncomputable def ip_u1_0 : { l : List Cond // l = (tables_1_1.drop 0).take 32 } := by
  refine ⟨?l, ?h⟩
  case h =>
    unfold tables_1_1
    simp only [List.drop_succ_cons, List.drop_zero, List.take_succ_cons, List.take_zero, List.take_nil]
    exact rfl
theorem ip_v1_0 {w : Cond} (h : w ∈ ip_u1_0.1) : w ∈ tables_1_1 := List.mem_of_mem_drop (List.mem_of_mem_take (ip_u1_0.2 ▸ h))
set_option maxRecDepth 100000 in
noncomputable def ip_u1_1 : { l : List Cond // l = (tables_1_1.drop 32).take 32 } := by
  refine ⟨?l, ?h⟩
  case h =>
    unfold tables_1_1
    simp only [List.drop_succ_cons, List.drop_zero, List.take_succ_cons, List.take_zero, List.take_nil]
    exact rfl
theorem ip_v1_1 {w : Cond} (h : w ∈ ip_u1_1.1) : w ∈ tables_1_1 := List.mem_of_mem_drop (List.mem_of_mem_take (ip_u1_1.2 ▸ h))
set_option maxRecDepth 100000 in
noncomputable def ip_u1_2 : { l : List Cond // l = (tables_1_1.drop 64).take 32 } := by
  refine ⟨?l, ?h⟩
  case h =>
    unfold tables_1_1
    simp only [List.drop_succ_cons, List.drop_zero, List.take_succ_cons, List.take_zero, List.take_nil]
    exact rfl
theorem ip_v1_2 {w : Cond} (h : w ∈ ip_u1_2.1) : w ∈ tables_1_1 := List.mem_of_mem_drop (List.mem_of_mem_take (ip_u1_2.2 ▸ h))
set_option maxRecDepth 100000 in
noncomputable def ip_u1_3 : { l : List Cond // l = (tables_1_1.drop 96).take 32 } := by
  refine ⟨?l, ?h⟩
  case h =>
    unfold tables_1_1
    simp only [List.drop_succ_cons, List.drop_zero, List.take_succ_cons, List.take_zero, List.take_nil]
    exact rfl
theorem ip_v1_3 {w : Cond} (h : w ∈ ip_u1_3.1) : w ∈ tables_1_1 := List.mem_of_mem_drop (List.mem_of_mem_take (ip_u1_3.2 ▸ h))
set_option maxRecDepth 100000 in
noncomputable def ip_u1_4 : { l : List Cond // l = (tables_1_1.drop 128).take 32 } := by
  refine ⟨?l, ?h⟩
  case h =>
    unfold tables_1_1
    simp only [List.drop_succ_cons, List.drop_zero, List.take_succ_cons, List.take_zero, List.take_nil]
    exact rfl
theorem ip_v1_4 {w : Cond} (h : w ∈ ip_u1_4.1) : w ∈ tables_1_1 := List.mem_of_mem_drop (List.mem_of_mem_take (ip_u1_4.2 ▸ h))
set_option maxRecDepth 100000 in
noncomputable def ip_u1_5 : { l : List Cond // l = (tables_1_1.drop 160).take 32 } := by
  refine ⟨?l, ?h⟩
  case h =>
    unfold tables_1_1
    simp only [List.drop_succ_cons, List.drop_zero, List.take_succ_cons, List.take_zero, List.take_nil]
    exact rfl
theorem ip_v1_5 {w : Cond} (h : w ∈ ip_u1_5.1) : w ∈ tables_1_1 := List.mem_of_mem_drop (List.mem_of_mem_take (ip_u1_5.2 ▸ h))
set_option maxRecDepth 100000 in
noncomputable def ip_u1_6 : { l : List Cond // l = (tables_1_1.drop 192).take 32 } := by
  refine ⟨?l, ?h⟩
  case h =>
    unfold tables_1_1
    simp only [List.drop_succ_cons, List.drop_zero, List.take_succ_cons, List.take_zero, List.take_nil]
    exact rfl
theorem ip_v1_6 {w : Cond} (h : w ∈ ip_u1_6.1) : w ∈ tables_1_1 := List.mem_of_mem_drop (List.mem_of_mem_take (ip_u1_6.2 ▸ h))
set_option maxRecDepth 100000 in
noncomputable def ip_u1_7 : { l : List Cond // l = (tables_1_1.drop 224).take 32 } := by
  refine ⟨?l, ?h⟩
  case h =>
    unfold tables_1_1
    simp only [List.drop_succ_cons, List.drop_zero, List.take_succ_cons, List.take_zero, List.take_nil]
    exact rfl
theorem ip_v1_7 {w : Cond} (h : w ∈ ip_u1_7.1) : w ∈ tables_1_1 := List.mem_of_mem_drop (List.mem_of_mem_take (ip_u1_7.2 ▸ h))
set_option maxRecDepth 100000 in
noncomputable def ip_u2_0 : { l : List Cond // l = (tables_1_2.drop 0).take 32 } := by
  refine ⟨?l, ?h⟩
  case h =>
    unfold tables_1_2
    simp only [List.drop_succ_cons, List.drop_zero, List.take_succ_cons, List.take_zero, List.take_nil]
    exact rfl
theorem ip_v2_0 {w : Cond} (h : w ∈ ip_u2_0.1) : w ∈ tables_1_2 := List.mem_of_mem_drop (List.mem_of_mem_take (ip_u2_0.2 ▸ h))
set_option maxRecDepth 100000 in
noncomputable def ip_u2_1 : { l : List Cond // l = (tables_1_2.drop 32).take 32 } := by
  refine ⟨?l, ?h⟩
  case h =>
    unfold tables_1_2
    simp only [List.drop_succ_cons, List.drop_zero, List.take_succ_cons, List.take_zero, List.take_nil]
    exact rfl
theorem ip_v2_1 {w : Cond} (h : w ∈ ip_u2_1.1) : w ∈ tables_1_2 := List.mem_of_mem_drop (List.mem_of_mem_take (ip_u2_1.2 ▸ h))
set_option maxRecDepth 100000 in
noncomputable def ip_u2_2 : { l : List Cond // l = (tables_1_2.drop 64).take 32 } := by
  refine ⟨?l, ?h⟩
  case h =>
    unfold tables_1_2
    simp only [List.drop_succ_cons, List.drop_zero, List.take_succ_cons, List.take_zero, List.take_nil]
    exact rfl
theorem ip_v2_2 {w : Cond} (h : w ∈ ip_u2_2.1) : w ∈ tables_1_2 := List.mem_of_mem_drop (List.mem_of_mem_take (ip_u2_2.2 ▸ h))
set_option maxRecDepth 100000 in
noncomputable def ip_u2_3 : { l : List Cond // l = (tables_1_2.drop 96).take 32 } := by
  refine ⟨?l, ?h⟩
  case h =>
    unfold tables_1_2
    simp only [List.drop_succ_cons, List.drop_zero, List.take_succ_cons, List.take_zero, List.take_nil]
    exact rfl
theorem ip_v2_3 {w : Cond} (h : w ∈ ip_u2_3.1) : w ∈ tables_1_2 := List.mem_of_mem_drop (List.mem_of_mem_take (ip_u2_3.2 ▸ h))
set_option maxRecDepth 100000 in
noncomputable def ip_u2_4 : { l : List Cond // l = (tables_1_2.drop 128).take 32 } := by
  refine ⟨?l, ?h⟩
  case h =>
    unfold tables_1_2
    simp only [List.drop_succ_cons, List.drop_zero, List.take_succ_cons, List.take_zero, List.take_nil]
    exact rfl
theorem ip_v2_4 {w : Cond} (h : w ∈ ip_u2_4.1) : w ∈ tables_1_2 := List.mem_of_mem_drop (List.mem_of_mem_take (ip_u2_4.2 ▸ h))
set_option maxRecDepth 100000 in
noncomputable def ip_u2_5 : { l : List Cond // l = (tables_1_2.drop 160).take 32 } := by
  refine ⟨?l, ?h⟩
  case h =>
    unfold tables_1_2
    simp only [List.drop_succ_cons, List.drop_zero, List.take_succ_cons, List.take_zero, List.take_nil]
    exact rfl
theorem ip_v2_5 {w : Cond} (h : w ∈ ip_u2_5.1) : w ∈ tables_1_2 := List.mem_of_mem_drop (List.mem_of_mem_take (ip_u2_5.2 ▸ h))
set_option maxRecDepth 100000 in
noncomputable def ip_u2_6 : { l : List Cond // l = (tables_1_2.drop 192).take 32 } := by
  refine ⟨?l, ?h⟩
  case h =>
    unfold tables_1_2
    simp only [List.drop_succ_cons, List.drop_zero, List.take_succ_cons, List.take_zero, List.take_nil]
    exact rfl
theorem ip_v2_6 {w : Cond} (h : w ∈ ip_u2_6.1) : w ∈ tables_1_2 := List.mem_of_mem_drop (List.mem_of_mem_take (ip_u2_6.2 ▸ h))
set_option maxRecDepth 100000 in
noncomputable def ip_u2_7 : { l : List Cond // l = (tables_1_2.drop 224).take 32 } := by
  refine ⟨?l, ?h⟩
  case h =>
    unfold tables_1_2
    simp only [List.drop_succ_cons, List.drop_zero, List.take_succ_cons, List.take_zero, List.take_nil]
    exact rfl
theorem ip_v2_7 {w : Cond} (h : w ∈ ip_u2_7.1) : w ∈ tables_1_2 := List.mem_of_mem_drop (List.mem_of_mem_take (ip_u2_7.2 ▸ h))
set_option maxRecDepth 100000 in
noncomputable def ip_u3_0 : { l : List Cond // l = (tables_1_3.drop 0).take 32 } := by
  refine ⟨?l, ?h⟩
  case h =>
    unfold tables_1_3
    simp only [List.drop_succ_cons, List.drop_zero, List.take_succ_cons, List.take_zero, List.take_nil]
    exact rfl
theorem ip_v3_0 {w : Cond} (h : w ∈ ip_u3_0.1) : w ∈ tables_1_3 := List.mem_of_mem_drop (List.mem_of_mem_take (ip_u3_0.2 ▸ h))
set_option maxRecDepth 100000 in
noncomputable def ip_u3_1 : { l : List Cond // l = (tables_1_3.drop 32).take 32 } := by
  refine ⟨?l, ?h⟩
  case h =>
    unfold tables_1_3
    simp only [List.drop_succ_cons, List.drop_zero, List.take_succ_cons, List.take_zero, List.take_nil]
    exact rfl
theorem ip_v3_1 {w : Cond} (h : w ∈ ip_u3_1.1) : w ∈ tables_1_3 := List.mem_of_mem_drop (List.mem_of_mem_take (ip_u3_1.2 ▸ h))
set_option maxRecDepth 100000 in
noncomputable def ip_u3_2 : { l : List Cond // l = (tables_1_3.drop 64).take 32 } := by
  refine ⟨?l, ?h⟩
  case h =>
    unfold tables_1_3
    simp only [List.drop_succ_cons, List.drop_zero, List.take_succ_cons, List.take_zero, List.take_nil]
    exact rfl
theorem ip_v3_2 {w : Cond} (h : w ∈ ip_u3_2.1) : w ∈ tables_1_3 := List.mem_of_mem_drop (List.mem_of_mem_take (ip_u3_2.2 ▸ h))
set_option maxRecDepth 100000 in
noncomputable def ip_u3_3 : { l : List Cond // l = (tables_1_3.drop 96).take 32 } := by
  refine ⟨?l, ?h⟩
  case h =>
    unfold tables_1_3
    simp only [List.drop_succ_cons, List.drop_zero, List.take_succ_cons, List.take_zero, List.take_nil]
    exact rfl
theorem ip_v3_3 {w : Cond} (h : w ∈ ip_u3_3.1) : w ∈ tables_1_3 := List.mem_of_mem_drop (List.mem_of_mem_take (ip_u3_3.2 ▸ h))
set_option maxRecDepth 100000 in
noncomputable def ip_u3_4 : { l : List Cond // l = (tables_1_3.drop 128).take 32 } := by
  refine ⟨?l, ?h⟩
  case h =>
    unfold tables_1_3
    simp only [List.drop_succ_cons, List.drop_zero, List.take_succ_cons, List.take_zero, List.take_nil]
    exact rfl
theorem ip_v3_4 {w : Cond} (h : w ∈ ip_u3_4.1) : w ∈ tables_1_3 := List.mem_of_mem_drop (List.mem_of_mem_take (ip_u3_4.2 ▸ h))
set_option maxRecDepth 100000 in
noncomputable def ip_u3_5 : { l : List Cond // l = (tables_1_3.drop 160).take 32 } := by
  refine ⟨?l, ?h⟩
  case h =>
    unfold tables_1_3
    simp only [List.drop_succ_cons, List.drop_zero, List.take_succ_cons, List.take_zero, List.take_nil]
    exact rfl
theorem ip_v3_5 {w : Cond} (h : w ∈ ip_u3_5.1) : w ∈ tables_1_3 := List.mem_of_mem_drop (List.mem_of_mem_take (ip_u3_5.2 ▸ h))
set_option maxRecDepth 100000 in
noncomputable def ip_u3_6 : { l : List Cond // l = (tables_1_3.drop 192).take 32 } := by
  refine ⟨?l, ?h⟩
  case h =>
    unfold tables_1_3
    simp only [List.drop_succ_cons, List.drop_zero, List.take_succ_cons, List.take_zero, List.take_nil]
    exact rfl
theorem ip_v3_6 {w : Cond} (h : w ∈ ip_u3_6.1) : w ∈ tables_1_3 := List.mem_of_mem_drop (List.mem_of_mem_take (ip_u3_6.2 ▸ h))
set_option maxRecDepth 100000 in
noncomputable def ip_u3_7 : { l : List Cond // l = (tables_1_3.drop 224).take 32 } := by
  refine ⟨?l, ?h⟩
  case h =>
    unfold tables_1_3
    simp only [List.drop_succ_cons, List.drop_zero, List.take_succ_cons, List.take_zero, List.take_nil]
    exact rfl
theorem ip_v3_7 {w : Cond} (h : w ∈ ip_u3_7.1) : w ∈ tables_1_3 := List.mem_of_mem_drop (List.mem_of_mem_take (ip_u3_7.2 ▸ h))
set_option maxRecDepth 100000 in
noncomputable def ip_u4_0 : { l : List Cond // l = (tables_1_4.drop 0).take 32 } := by
  refine ⟨?l, ?h⟩
  case h =>
    unfold tables_1_4
    simp only [List.drop_succ_cons, List.drop_zero, List.take_succ_cons, List.take_zero, List.take_nil]
    exact rfl
theorem ip_v4_0 {w : Cond} (h : w ∈ ip_u4_0.1) : w ∈ tables_1_4 := List.mem_of_mem_drop (List.mem_of_mem_take (ip_u4_0.2 ▸ h))
set_option maxRecDepth 100000 in
noncomputable def ip_u4_1 : { l : List Cond // l = (tables_1_4.drop 32).take 32 } := by
  refine ⟨?l, ?h⟩
  case h =>
    unfold tables_1_4
    simp only [List.drop_succ_cons, List.drop_zero, List.take_succ_cons, List.take_zero, List.take_nil]
    exact rfl
theorem ip_v4_1 {w : Cond} (h : w ∈ ip_u4_1.1) : w ∈ tables_1_4 := List.mem_of_mem_drop (List.mem_of_mem_take (ip_u4_1.2 ▸ h))
set_option maxRecDepth 100000 in
noncomputable def ip_u4_2 : { l : List Cond // l = (tables_1_4.drop 64).take 32 } := by
  refine ⟨?l, ?h⟩
  case h =>
    unfold tables_1_4
    simp only [List.drop_succ_cons, List.drop_zero, List.take_succ_cons, List.take_zero, List.take_nil]
    exact rfl
theorem ip_v4_2 {w : Cond} (h : w ∈ ip_u4_2.1) : w ∈ tables_1_4 := List.mem_of_mem_drop (List.mem_of_mem_take (ip_u4_2.2 ▸ h))
set_option maxRecDepth 100000 in
noncomputable def ip_u4_3 : { l : List Cond // l = (tables_1_4.drop 96).take 32 } := by
  refine ⟨?l, ?h⟩
  case h =>
    unfold tables_1_4
    simp only [List.drop_succ_cons, List.drop_zero, List.take_succ_cons, List.take_zero, List.take_nil]
    exact rfl
theorem ip_v4_3 {w : Cond} (h : w ∈ ip_u4_3.1) : w ∈ tables_1_4 := List.mem_of_mem_drop (List.mem_of_mem_take (ip_u4_3.2 ▸ h))
set_option maxRecDepth 100000 in
noncomputable def ip_u4_4 : { l : List Cond // l = (tables_1_4.drop 128).take 32 } := by
  refine ⟨?l, ?h⟩
  case h =>
    unfold tables_1_4
    simp only [List.drop_succ_cons, List.drop_zero, List.take_succ_cons, List.take_zero, List.take_nil]
    exact rfl
theorem ip_v4_4 {w : Cond} (h : w ∈ ip_u4_4.1) : w ∈ tables_1_4 := List.mem_of_mem_drop (List.mem_of_mem_take (ip_u4_4.2 ▸ h))
set_option maxRecDepth 100000 in
noncomputable def ip_u4_5 : { l : List Cond // l = (tables_1_4.drop 160).take 32 } := by
  refine ⟨?l, ?h⟩
  case h =>
    unfold tables_1_4
    simp only [List.drop_succ_cons, List.drop_zero, List.take_succ_cons, List.take_zero, List.take_nil]
    exact rfl
theorem ip_v4_5 {w : Cond} (h : w ∈ ip_u4_5.1) : w ∈ tables_1_4 := List.mem_of_mem_drop (List.mem_of_mem_take (ip_u4_5.2 ▸ h))
set_option maxRecDepth 100000 in
noncomputable def ip_u4_6 : { l : List Cond // l = (tables_1_4.drop 192).take 32 } := by
  refine ⟨?l, ?h⟩
  case h =>
    unfold tables_1_4
    simp only [List.drop_succ_cons, List.drop_zero, List.take_succ_cons, List.take_zero, List.take_nil]
    exact rfl
theorem ip_v4_6 {w : Cond} (h : w ∈ ip_u4_6.1) : w ∈ tables_1_4 := List.mem_of_mem_drop (List.mem_of_mem_take (ip_u4_6.2 ▸ h))
set_option maxRecDepth 100000 in
noncomputable def ip_u4_7 : { l : List Cond // l = (tables_1_4.drop 224).take 32 } := by
  refine ⟨?l, ?h⟩
  case h =>
    unfold tables_1_4
    simp only [List.drop_succ_cons, List.drop_zero, List.take_succ_cons, List.take_zero, List.take_nil]
    exact rfl
theorem ip_v4_7 {w : Cond} (h : w ∈ ip_u4_7.1) : w ∈ tables_1_4 := List.mem_of_mem_drop (List.mem_of_mem_take (ip_u4_7.2 ▸ h))
set_option maxRecDepth 100000 in
noncomputable def ip_u5_0 : { l : List Cond // l = (tables_1_5.drop 0).take 32 } := by
  refine ⟨?l, ?h⟩
  case h =>
    unfold tables_1_5
    simp only [List.drop_succ_cons, List.drop_zero, List.take_succ_cons, List.take_zero, List.take_nil]
    exact rfl
theorem ip_v5_0 {w : Cond} (h : w ∈ ip_u5_0.1) : w ∈ tables_1_5 := List.mem_of_mem_drop (List.mem_of_mem_take (ip_u5_0.2 ▸ h))
set_option maxRecDepth 100000 in
noncomputable def ip_u5_1 : { l : List Cond // l = (tables_1_5.drop 32).take 32 } := by
  refine ⟨?l, ?h⟩
  case h =>
    unfold tables_1_5
    simp only [List.drop_succ_cons, List.drop_zero, List.take_succ_cons, List.take_zero, List.take_nil]
    exact rfl
theorem ip_v5_1 {w : Cond} (h : w ∈ ip_u5_1.1) : w ∈ tables_1_5 := List.mem_of_mem_drop (List.mem_of_mem_take (ip_u5_1.2 ▸ h))
set_option maxRecDepth 100000 in
noncomputable def ip_u5_2 : { l : List Cond // l = (tables_1_5.drop 64).take 32 } := by
  refine ⟨?l, ?h⟩
  case h =>
    unfold tables_1_5
    simp only [List.drop_succ_cons, List.drop_zero, List.take_succ_cons, List.take_zero, List.take_nil]
    exact rfl
theorem ip_v5_2 {w : Cond} (h : w ∈ ip_u5_2.1) : w ∈ tables_1_5 := List.mem_of_mem_drop (List.mem_of_mem_take (ip_u5_2.2 ▸ h))
set_option maxRecDepth 100000 in
noncomputable def ip_u5_3 : { l : List Cond // l = (tables_1_5.drop 96).take 32 } := by
  refine ⟨?l, ?h⟩
  case h =>
    unfold tables_1_5
    simp only [List.drop_succ_cons, List.drop_zero, List.take_succ_cons, List.take_zero, List.take_nil]
    exact rfl
theorem ip_v5_3 {w : Cond} (h : w ∈ ip_u5_3.1) : w ∈ tables_1_5 := List.mem_of_mem_drop (List.mem_of_mem_take (ip_u5_3.2 ▸ h))
set_option maxRecDepth 100000 in
noncomputable def ip_u5_4 : { l : List Cond // l = (tables_1_5.drop 128).take 32 } := by
  refine ⟨?l, ?h⟩
  case h =>
    unfold tables_1_5
    simp only [List.drop_succ_cons, List.drop_zero, List.take_succ_cons, List.take_zero, List.take_nil]
    exact rfl
theorem ip_v5_4 {w : Cond} (h : w ∈ ip_u5_4.1) : w ∈ tables_1_5 := List.mem_of_mem_drop (List.mem_of_mem_take (ip_u5_4.2 ▸ h))
set_option maxRecDepth 100000 in
noncomputable def ip_u5_5 : { l : List Cond // l = (tables_1_5.drop 160).take 32 } := by
  refine ⟨?l, ?h⟩
  case h =>
    unfold tables_1_5
    simp only [List.drop_succ_cons, List.drop_zero, List.take_succ_cons, List.take_zero, List.take_nil]
    exact rfl
theorem ip_v5_5 {w : Cond} (h : w ∈ ip_u5_5.1) : w ∈ tables_1_5 := List.mem_of_mem_drop (List.mem_of_mem_take (ip_u5_5.2 ▸ h))
set_option maxRecDepth 100000 in
noncomputable def ip_u5_6 : { l : List Cond // l = (tables_1_5.drop 192).take 32 } := by
  refine ⟨?l, ?h⟩
  case h =>
    unfold tables_1_5
    simp only [List.drop_succ_cons, List.drop_zero, List.take_succ_cons, List.take_zero, List.take_nil]
    exact rfl
theorem ip_v5_6 {w : Cond} (h : w ∈ ip_u5_6.1) : w ∈ tables_1_5 := List.mem_of_mem_drop (List.mem_of_mem_take (ip_u5_6.2 ▸ h))
set_option maxRecDepth 100000 in
noncomputable def ip_u5_7 : { l : List Cond // l = (tables_1_5.drop 224).take 32 } := by
  refine ⟨?l, ?h⟩
  case h =>
    unfold tables_1_5
    simp only [List.drop_succ_cons, List.drop_zero, List.take_succ_cons, List.take_zero, List.take_nil]
    exact rfl
theorem ip_v5_7 {w : Cond} (h : w ∈ ip_u5_7.1) : w ∈ tables_1_5 := List.mem_of_mem_drop (List.mem_of_mem_take (ip_u5_7.2 ▸ h))
set_option maxRecDepth 100000 in
noncomputable def ip_u6_0 : { l : List Cond // l = (tables_1_6.drop 0).take 32 } := by
  refine ⟨?l, ?h⟩
  case h =>
    unfold tables_1_6
    simp only [List.drop_succ_cons, List.drop_zero, List.take_succ_cons, List.take_zero, List.take_nil]
    exact rfl
theorem ip_v6_0 {w : Cond} (h : w ∈ ip_u6_0.1) : w ∈ tables_1_6 := List.mem_of_mem_drop (List.mem_of_mem_take (ip_u6_0.2 ▸ h))
set_option maxRecDepth 100000 in
noncomputable def ip_u6_1 : { l : List Cond // l = (tables_1_6.drop 32).take 32 } := by
  refine ⟨?l, ?h⟩
  case h =>
    unfold tables_1_6
    simp only [List.drop_succ_cons, List.drop_zero, List.take_succ_cons, List.take_zero, List.take_nil]
    exact rfl
theorem ip_v6_1 {w : Cond} (h : w ∈ ip_u6_1.1) : w ∈ tables_1_6 := List.mem_of_mem_drop (List.mem_of_mem_take (ip_u6_1.2 ▸ h))
set_option maxRecDepth 100000 in
noncomputable def ip_u6_2 : { l : List Cond // l = (tables_1_6.drop 64).take 32 } := by
  refine ⟨?l, ?h⟩
  case h =>
    unfold tables_1_6
    simp only [List.drop_succ_cons, List.drop_zero, List.take_succ_cons, List.take_zero, List.take_nil]
    exact rfl
theorem ip_v6_2 {w : Cond} (h : w ∈ ip_u6_2.1) : w ∈ tables_1_6 := List.mem_of_mem_drop (List.mem_of_mem_take (ip_u6_2.2 ▸ h))
set_option maxRecDepth 100000 in
noncomputable def ip_u6_3 : { l : List Cond // l = (tables_1_6.drop 96).take 32 } := by
  refine ⟨?l, ?h⟩
  case h =>
    unfold tables_1_6
    simp only [List.drop_succ_cons, List.drop_zero, List.take_succ_cons, List.take_zero, List.take_nil]
    exact rfl
theorem ip_v6_3 {w : Cond} (h : w ∈ ip_u6_3.1) : w ∈ tables_1_6 := List.mem_of_mem_drop (List.mem_of_mem_take (ip_u6_3.2 ▸ h))
set_option maxRecDepth 100000 in
noncomputable def ip_u6_4 : { l : List Cond // l = (tables_1_6.drop 128).take 32 } := by
  refine ⟨?l, ?h⟩
  case h =>
    unfold tables_1_6
    simp only [List.drop_succ_cons, List.drop_zero, List.take_succ_cons, List.take_zero, List.take_nil]
    exact rfl
theorem ip_v6_4 {w : Cond} (h : w ∈ ip_u6_4.1) : w ∈ tables_1_6 := List.mem_of_mem_drop (List.mem_of_mem_take (ip_u6_4.2 ▸ h))
set_option maxRecDepth 100000 in
noncomputable def ip_u6_5 : { l : List Cond // l = (tables_1_6.drop 160).take 32 } := by
  refine ⟨?l, ?h⟩
  case h =>
    unfold tables_1_6
    simp only [List.drop_succ_cons, List.drop_zero, List.take_succ_cons, List.take_zero, List.take_nil]
    exact rfl
theorem ip_v6_5 {w : Cond} (h : w ∈ ip_u6_5.1) : w ∈ tables_1_6 := List.mem_of_mem_drop (List.mem_of_mem_take (ip_u6_5.2 ▸ h))
set_option maxRecDepth 100000 in
noncomputable def ip_u6_6 : { l : List Cond // l = (tables_1_6.drop 192).take 32 } := by
  refine ⟨?l, ?h⟩
  case h =>
    unfold tables_1_6
    simp only [List.drop_succ_cons, List.drop_zero, List.take_succ_cons, List.take_zero, List.take_nil]
    exact rfl
theorem ip_v6_6 {w : Cond} (h : w ∈ ip_u6_6.1) : w ∈ tables_1_6 := List.mem_of_mem_drop (List.mem_of_mem_take (ip_u6_6.2 ▸ h))
set_option maxRecDepth 100000 in
noncomputable def ip_u6_7 : { l : List Cond // l = (tables_1_6.drop 224).take 32 } := by
  refine ⟨?l, ?h⟩
  case h =>
    unfold tables_1_6
    simp only [List.drop_succ_cons, List.drop_zero, List.take_succ_cons, List.take_zero, List.take_nil]
    exact rfl
theorem ip_v6_7 {w : Cond} (h : w ∈ ip_u6_7.1) : w ∈ tables_1_6 := List.mem_of_mem_drop (List.mem_of_mem_take (ip_u6_7.2 ▸ h))
set_option maxRecDepth 100000 in
noncomputable def ip_u7_0 : { l : List Cond // l = (tables_1_7.drop 0).take 32 } := by
  refine ⟨?l, ?h⟩
  case h =>
    unfold tables_1_7
    simp only [List.drop_succ_cons, List.drop_zero, List.take_succ_cons, List.take_zero, List.take_nil]
    exact rfl
theorem ip_v7_0 {w : Cond} (h : w ∈ ip_u7_0.1) : w ∈ tables_1_7 := List.mem_of_mem_drop (List.mem_of_mem_take (ip_u7_0.2 ▸ h))
set_option maxRecDepth 100000 in
noncomputable def ip_u7_1 : { l : List Cond // l = (tables_1_7.drop 32).take 32 } := by
  refine ⟨?l, ?h⟩
  case h =>
    unfold tables_1_7
    simp only [List.drop_succ_cons, List.drop_zero, List.take_succ_cons, List.take_zero, List.take_nil]
    exact rfl
theorem ip_v7_1 {w : Cond} (h : w ∈ ip_u7_1.1) : w ∈ tables_1_7 := List.mem_of_mem_drop (List.mem_of_mem_take (ip_u7_1.2 ▸ h))
set_option maxRecDepth 100000 in
noncomputable def ip_u7_2 : { l : List Cond // l = (tables_1_7.drop 64).take 32 } := by
  refine ⟨?l, ?h⟩
  case h =>
    unfold tables_1_7
    simp only [List.drop_succ_cons, List.drop_zero, List.take_succ_cons, List.take_zero, List.take_nil]
    exact rfl
theorem ip_v7_2 {w : Cond} (h : w ∈ ip_u7_2.1) : w ∈ tables_1_7 := List.mem_of_mem_drop (List.mem_of_mem_take (ip_u7_2.2 ▸ h))
set_option maxRecDepth 100000 in
noncomputable def ip_u7_3 : { l : List Cond // l = (tables_1_7.drop 96).take 32 } := by
  refine ⟨?l, ?h⟩
  case h =>
    unfold tables_1_7
    simp only [List.drop_succ_cons, List.drop_zero, List.take_succ_cons, List.take_zero, List.take_nil]
    exact rfl
theorem ip_v7_3 {w : Cond} (h : w ∈ ip_u7_3.1) : w ∈ tables_1_7 := List.mem_of_mem_drop (List.mem_of_mem_take (ip_u7_3.2 ▸ h))
set_option maxRecDepth 100000 in
noncomputable def ip_u7_4 : { l : List Cond // l = (tables_1_7.drop 128).take 32 } := by
  refine ⟨?l, ?h⟩
  case h =>
    unfold tables_1_7
    simp only [List.drop_succ_cons, List.drop_zero, List.take_succ_cons, List.take_zero, List.take_nil]
    exact rfl
theorem ip_v7_4 {w : Cond} (h : w ∈ ip_u7_4.1) : w ∈ tables_1_7 := List.mem_of_mem_drop (List.mem_of_mem_take (ip_u7_4.2 ▸ h))
set_option maxRecDepth 100000 in
noncomputable def ip_u7_5 : { l : List Cond // l = (tables_1_7.drop 160).take 32 } := by
  refine ⟨?l, ?h⟩
  case h =>
    unfold tables_1_7
    simp only [List.drop_succ_cons, List.drop_zero, List.take_succ_cons, List.take_zero, List.take_nil]
    exact rfl
theorem ip_v7_5 {w : Cond} (h : w ∈ ip_u7_5.1) : w ∈ tables_1_7 := List.mem_of_mem_drop (List.mem_of_mem_take (ip_u7_5.2 ▸ h))
set_option maxRecDepth 100000 in
noncomputable def ip_u7_6 : { l : List Cond // l = (tables_1_7.drop 192).take 32 } := by
  refine ⟨?l, ?h⟩
  case h =>
    unfold tables_1_7
    simp only [List.drop_succ_cons, List.drop_zero, List.take_succ_cons, List.take_zero, List.take_nil]
    exact rfl
theorem ip_v7_6 {w : Cond} (h : w ∈ ip_u7_6.1) : w ∈ tables_1_7 := List.mem_of_mem_drop (List.mem_of_mem_take (ip_u7_6.2 ▸ h))
set_option maxRecDepth 100000 in
noncomputable def ip_u7_7 : { l : List Cond // l = (tables_1_7.drop 224).take 32 } := by
  refine ⟨?l, ?h⟩
  case h =>
    unfold tables_1_7
    simp only [List.drop_succ_cons, List.drop_zero, List.take_succ_cons, List.take_zero, List.take_nil]
    exact rfl
theorem ip_v7_7 {w : Cond} (h : w ∈ ip_u7_7.1) : w ∈ tables_1_7 := List.mem_of_mem_drop (List.mem_of_mem_take (ip_u7_7.2 ▸ h))
set_option maxRecDepth 100000 in
noncomputable def ip_u8_0 : { l : List Cond // l = (tables_1_8.drop 0).take 32 } := by
  refine ⟨?l, ?h⟩
  case h =>
    unfold tables_1_8
    simp only [List.drop_succ_cons, List.drop_zero, List.take_succ_cons, List.take_zero, List.take_nil]
    exact rfl
theorem ip_v8_0 {w : Cond} (h : w ∈ ip_u8_0.1) : w ∈ tables_1_8 := List.mem_of_mem_drop (List.mem_of_mem_take (ip_u8_0.2 ▸ h))
end
noncomputable section
-- PART 01.tbl
-- ===== PART A: goes FIRST, ahead of the names: the tables' words, and 'selects' of the private methods out of them =====
/-- a private method of a class that the tables say can be made, by its rows of tables_1 -/
def lw_okq (q : MethodName × Nat) : Prop := (q.1.cls ≠ "java/lang/invoke/MethodHandle" ∧ q.1.cls ≠ "java/lang/invoke/VarHandle") ∧ Cond.instantiable q.1.cls q.2 ∈ tables_1 ∧ Cond.privateMethod q.1 ∈ tables_1 ∧ Cond.instanceMethod q.1 ∈ tables_1
theorem lw_p0 : lw_okq (⟨"CommonDenominato\x72", "note", "(I)V"⟩, 14) := ⟨⟨by decide +kernel, by decide +kernel⟩, ip_xt1 (ip_v1_0 (List.mem_of_getElem? (l := ip_u1_0.1) (i := 16) rfl)), ip_xt2 (ip_v2_3 (List.mem_of_getElem? (l := ip_u2_3.1) (i := 29) rfl)), ip_xt2 (ip_v2_3 (List.mem_of_getElem? (l := ip_u2_3.1) (i := 30) rfl))⟩
theorem lw_p1 : lw_okq (⟨"CommonDenominator$Past", "place", "()I"⟩, 6) := ⟨⟨by decide +kernel, by decide +kernel⟩, ip_xt1 (ip_v1_6 (List.mem_of_getElem? (l := ip_u1_6.1) (i := 15) rfl)), ip_xt2 (ip_v2_4 (List.mem_of_getElem? (l := ip_u2_4.1) (i := 5) rfl)), ip_xt2 (ip_v2_4 (List.mem_of_getElem? (l := ip_u2_4.1) (i := 6) rfl))⟩
theorem lw_p2 : lw_okq (⟨"CommonDenominato\x72", "renew", "(III)V"⟩, 14) := ⟨⟨by decide +kernel, by decide +kernel⟩, ip_xt1 (ip_v1_0 (List.mem_of_getElem? (l := ip_u1_0.1) (i := 16) rfl)), ip_xt2 (ip_v2_4 (List.mem_of_getElem? (l := ip_u2_4.1) (i := 28) rfl)), ip_xt2 (ip_v2_4 (List.mem_of_getElem? (l := ip_u2_4.1) (i := 29) rfl))⟩
theorem lw_p3 : lw_okq (⟨"CommonDenominator$Field", "signOf", "(JJJ)I"⟩, 5) := ⟨⟨by decide +kernel, by decide +kernel⟩, ip_xt1 (ip_v1_0 (List.mem_of_getElem? (l := ip_u1_0.1) (i := 24) rfl)), ip_xt2 (ip_v2_6 (List.mem_of_getElem? (l := ip_u2_6.1) (i := 13) rfl)), ip_xt2 (ip_v2_6 (List.mem_of_getElem? (l := ip_u2_6.1) (i := 14) rfl))⟩
theorem lw_p4 : lw_okq (⟨"CommonDenominato\x72", "join", "(ILCommonDenominator$Value;LCommonDenominator$Value;)V"⟩, 14) := ⟨⟨by decide +kernel, by decide +kernel⟩, ip_xt1 (ip_v1_0 (List.mem_of_getElem? (l := ip_u1_0.1) (i := 16) rfl)), ip_xt3 (ip_v3_0 (List.mem_of_getElem? (l := ip_u3_0.1) (i := 2) rfl)), ip_xt3 (ip_v3_0 (List.mem_of_getElem? (l := ip_u3_0.1) (i := 3) rfl))⟩
theorem lw_p5 : lw_okq (⟨"CommonDenominator$Course", "saveState", "()V"⟩, 15) := ⟨⟨by decide +kernel, by decide +kernel⟩, ip_xt1 (ip_v1_3 (List.mem_of_getElem? (l := ip_u1_3.1) (i := 4) rfl)), ip_xt3 (ip_v3_2 (List.mem_of_getElem? (l := ip_u3_2.1) (i := 5) rfl)), ip_xt3 (ip_v3_2 (List.mem_of_getElem? (l := ip_u3_2.1) (i := 6) rfl))⟩
theorem lw_p6 : lw_okq (⟨"CommonDenominator$Course", "isWhole", "(I)Z"⟩, 15) := ⟨⟨by decide +kernel, by decide +kernel⟩, ip_xt1 (ip_v1_3 (List.mem_of_getElem? (l := ip_u1_3.1) (i := 4) rfl)), ip_xt3 (ip_v3_3 (List.mem_of_getElem? (l := ip_u3_3.1) (i := 8) rfl)), ip_xt3 (ip_v3_3 (List.mem_of_getElem? (l := ip_u3_3.1) (i := 9) rfl))⟩
theorem lw_p7 : lw_okq (⟨"CommonDenominator$Course", "layRests", "(LCommonDenominator$Field;)V"⟩, 15) := ⟨⟨by decide +kernel, by decide +kernel⟩, ip_xt1 (ip_v1_3 (List.mem_of_getElem? (l := ip_u1_3.1) (i := 4) rfl)), ip_xt3 (ip_v3_3 (List.mem_of_getElem? (l := ip_u3_3.1) (i := 12) rfl)), ip_xt3 (ip_v3_3 (List.mem_of_getElem? (l := ip_u3_3.1) (i := 13) rfl))⟩
theorem lw_p8 : lw_okq (⟨"CommonDenominator$Course", "findPeriod", "()V"⟩, 15) := ⟨⟨by decide +kernel, by decide +kernel⟩, ip_xt1 (ip_v1_3 (List.mem_of_getElem? (l := ip_u1_3.1) (i := 4) rfl)), ip_xt3 (ip_v3_4 (List.mem_of_getElem? (l := ip_u3_4.1) (i := 30) rfl)), ip_xt3 (ip_v3_4 (List.mem_of_getElem? (l := ip_u3_4.1) (i := 31) rfl))⟩
theorem lw_p9 : lw_okq (⟨"CommonDenominator$Course", "isLikeLast", "(I)Z"⟩, 15) := ⟨⟨by decide +kernel, by decide +kernel⟩, ip_xt1 (ip_v1_3 (List.mem_of_getElem? (l := ip_u1_3.1) (i := 4) rfl)), ip_xt3 (ip_v3_5 (List.mem_of_getElem? (l := ip_u3_5.1) (i := 2) rfl)), ip_xt3 (ip_v3_5 (List.mem_of_getElem? (l := ip_u3_5.1) (i := 3) rfl))⟩
theorem lw_p10 : lw_okq (⟨"CommonDenominator$Tape", "hasText", "()Z"⟩, 5) := ⟨⟨by decide +kernel, by decide +kernel⟩, ip_xt1 (ip_v1_5 (List.mem_of_getElem? (l := ip_u1_5.1) (i := 20) rfl)), ip_xt3 (ip_v3_6 (List.mem_of_getElem? (l := ip_u3_6.1) (i := 17) rfl)), ip_xt3 (ip_v3_6 (List.mem_of_getElem? (l := ip_u3_6.1) (i := 18) rfl))⟩
theorem lw_p11 : lw_okq (⟨"CommonDenominator$Tape", "wholeNumbe\x72", "()I"⟩, 5) := ⟨⟨by decide +kernel, by decide +kernel⟩, ip_xt1 (ip_v1_5 (List.mem_of_getElem? (l := ip_u1_5.1) (i := 20) rfl)), ip_xt3 (ip_v3_6 (List.mem_of_getElem? (l := ip_u3_6.1) (i := 21) rfl)), ip_xt3 (ip_v3_6 (List.mem_of_getElem? (l := ip_u3_6.1) (i := 22) rfl))⟩
theorem lw_p12 : lw_okq (⟨"CommonDenominator$Tape", "skipBlanks", "()V"⟩, 5) := ⟨⟨by decide +kernel, by decide +kernel⟩, ip_xt1 (ip_v1_5 (List.mem_of_getElem? (l := ip_u1_5.1) (i := 20) rfl)), ip_xt3 (ip_v3_6 (List.mem_of_getElem? (l := ip_u3_6.1) (i := 25) rfl)), ip_xt3 (ip_v3_6 (List.mem_of_getElem? (l := ip_u3_6.1) (i := 26) rfl))⟩
theorem lw_p13 : lw_okq (⟨"CommonDenominator$Tape", "byteAt", "()I"⟩, 5) := ⟨⟨by decide +kernel, by decide +kernel⟩, ip_xt1 (ip_v1_5 (List.mem_of_getElem? (l := ip_u1_5.1) (i := 20) rfl)), ip_xt3 (ip_v3_6 (List.mem_of_getElem? (l := ip_u3_6.1) (i := 29) rfl)), ip_xt3 (ip_v3_6 (List.mem_of_getElem? (l := ip_u3_6.1) (i := 30) rfl))⟩
theorem lw_p14 : lw_okq (⟨"CommonDenominator$Tape", "nextIsDigit", "()Z"⟩, 5) := ⟨⟨by decide +kernel, by decide +kernel⟩, ip_xt1 (ip_v1_5 (List.mem_of_getElem? (l := ip_u1_5.1) (i := 20) rfl)), ip_xt3 (ip_v3_7 (List.mem_of_getElem? (l := ip_u3_7.1) (i := 1) rfl)), ip_xt3 (ip_v3_7 (List.mem_of_getElem? (l := ip_u3_7.1) (i := 2) rfl))⟩
theorem lw_p15 : lw_okq (⟨"CommonDenominator$Tape", "takes", "(C)Z"⟩, 5) := ⟨⟨by decide +kernel, by decide +kernel⟩, ip_xt1 (ip_v1_5 (List.mem_of_getElem? (l := ip_u1_5.1) (i := 20) rfl)), ip_xt3 (ip_v3_7 (List.mem_of_getElem? (l := ip_u3_7.1) (i := 8) rfl)), ip_xt3 (ip_v3_7 (List.mem_of_getElem? (l := ip_u3_7.1) (i := 9) rfl))⟩
def lw_privs_1 : List (MethodName × Nat) := [(⟨"CommonDenominato\x72", "note", "(I)V"⟩, 14), (⟨"CommonDenominator$Past", "place", "()I"⟩, 6), (⟨"CommonDenominato\x72", "renew", "(III)V"⟩, 14), (⟨"CommonDenominator$Field", "signOf", "(JJJ)I"⟩, 5), (⟨"CommonDenominato\x72", "join", "(ILCommonDenominator$Value;LCommonDenominator$Value;)V"⟩, 14), (⟨"CommonDenominator$Course", "saveState", "()V"⟩, 15), (⟨"CommonDenominator$Course", "isWhole", "(I)Z"⟩, 15), (⟨"CommonDenominator$Course", "layRests", "(LCommonDenominator$Field;)V"⟩, 15), (⟨"CommonDenominator$Course", "findPeriod", "()V"⟩, 15), (⟨"CommonDenominator$Course", "isLikeLast", "(I)Z"⟩, 15), (⟨"CommonDenominator$Tape", "hasText", "()Z"⟩, 5), (⟨"CommonDenominator$Tape", "wholeNumbe\x72", "()I"⟩, 5), (⟨"CommonDenominator$Tape", "skipBlanks", "()V"⟩, 5), (⟨"CommonDenominator$Tape", "byteAt", "()I"⟩, 5), (⟨"CommonDenominator$Tape", "nextIsDigit", "()Z"⟩, 5), (⟨"CommonDenominator$Tape", "takes", "(C)Z"⟩, 5)]
theorem lw_r1 : ∀ q ∈ lw_privs_1, lw_okq q := List.forall_mem_cons.mpr ⟨lw_p0, List.forall_mem_cons.mpr ⟨lw_p1, List.forall_mem_cons.mpr ⟨lw_p2, List.forall_mem_cons.mpr ⟨lw_p3, List.forall_mem_cons.mpr ⟨lw_p4, List.forall_mem_cons.mpr ⟨lw_p5, List.forall_mem_cons.mpr ⟨lw_p6, List.forall_mem_cons.mpr ⟨lw_p7, List.forall_mem_cons.mpr ⟨lw_p8, List.forall_mem_cons.mpr ⟨lw_p9, List.forall_mem_cons.mpr ⟨lw_p10, List.forall_mem_cons.mpr ⟨lw_p11, List.forall_mem_cons.mpr ⟨lw_p12, List.forall_mem_cons.mpr ⟨lw_p13, List.forall_mem_cons.mpr ⟨lw_p14, List.forall_mem_cons.mpr ⟨lw_p15, fun _ h => absurd h List.not_mem_nil⟩⟩⟩⟩⟩⟩⟩⟩⟩⟩⟩⟩⟩⟩⟩⟩
theorem lw_p16 : lw_okq (⟨"CommonDenominato\x72", "solved", "()Z"⟩, 14) := ⟨⟨by decide +kernel, by decide +kernel⟩, ip_xt1 (ip_v1_0 (List.mem_of_getElem? (l := ip_u1_0.1) (i := 16) rfl)), ip_xt4 (ip_v4_0 (List.mem_of_getElem? (l := ip_u4_0.1) (i := 15) rfl)), ip_xt4 (ip_v4_0 (List.mem_of_getElem? (l := ip_u4_0.1) (i := 16) rfl))⟩
theorem lw_p17 : lw_okq (⟨"CommonDenominato\x72", "stepsOrNone", "()I"⟩, 14) := ⟨⟨by decide +kernel, by decide +kernel⟩, ip_xt1 (ip_v1_0 (List.mem_of_getElem? (l := ip_u1_0.1) (i := 16) rfl)), ip_xt4 (ip_v4_2 (List.mem_of_getElem? (l := ip_u4_2.1) (i := 3) rfl)), ip_xt4 (ip_v4_2 (List.mem_of_getElem? (l := ip_u4_2.1) (i := 4) rfl))⟩
theorem lw_p18 : lw_okq (⟨"CommonDenominato\x72", "hasBounds", "()Z"⟩, 14) := ⟨⟨by decide +kernel, by decide +kernel⟩, ip_xt1 (ip_v1_0 (List.mem_of_getElem? (l := ip_u1_0.1) (i := 16) rfl)), ip_xt4 (ip_v4_4 (List.mem_of_getElem? (l := ip_u4_4.1) (i := 12) rfl)), ip_xt4 (ip_v4_4 (List.mem_of_getElem? (l := ip_u4_4.1) (i := 13) rfl))⟩
theorem lw_p19 : lw_okq (⟨"CommonDenominator$Bounds", "layPart", "(LCommonDenominator$Square;I)V"⟩, 2) := ⟨⟨by decide +kernel, by decide +kernel⟩, ip_xt2 (ip_v2_1 (List.mem_of_getElem? (l := ip_u2_1.1) (i := 14) rfl)), ip_xt4 (ip_v4_4 (List.mem_of_getElem? (l := ip_u4_4.1) (i := 21) rfl)), ip_xt4 (ip_v4_4 (List.mem_of_getElem? (l := ip_u4_4.1) (i := 22) rfl))⟩
theorem lw_p20 : lw_okq (⟨"CommonDenominator$Bounds", "leastWhole", "(II)J"⟩, 2) := ⟨⟨by decide +kernel, by decide +kernel⟩, ip_xt2 (ip_v2_1 (List.mem_of_getElem? (l := ip_u2_1.1) (i := 14) rfl)), ip_xt4 (ip_v4_6 (List.mem_of_getElem? (l := ip_u4_6.1) (i := 10) rfl)), ip_xt4 (ip_v4_6 (List.mem_of_getElem? (l := ip_u4_6.1) (i := 11) rfl))⟩
theorem lw_p21 : lw_okq (⟨"CommonDenominato\x72", "leastRelation", "(II)I"⟩, 14) := ⟨⟨by decide +kernel, by decide +kernel⟩, ip_xt1 (ip_v1_0 (List.mem_of_getElem? (l := ip_u1_0.1) (i := 16) rfl)), ip_xt5 (ip_v5_0 (List.mem_of_getElem? (l := ip_u5_0.1) (i := 17) rfl)), ip_xt5 (ip_v5_0 (List.mem_of_getElem? (l := ip_u5_0.1) (i := 18) rfl))⟩
theorem lw_p22 : lw_okq (⟨"CommonDenominato\x72", "likeDigits", "()I"⟩, 14) := ⟨⟨by decide +kernel, by decide +kernel⟩, ip_xt1 (ip_v1_0 (List.mem_of_getElem? (l := ip_u1_0.1) (i := 16) rfl)), ip_xt5 (ip_v5_1 (List.mem_of_getElem? (l := ip_u5_1.1) (i := 14) rfl)), ip_xt5 (ip_v5_1 (List.mem_of_getElem? (l := ip_u5_1.1) (i := 15) rfl))⟩
theorem lw_p23 : lw_okq (⟨"CommonDenominatorModel", "clears", "(III)V"⟩, 48) := ⟨⟨by decide +kernel, by decide +kernel⟩, ip_xt5 (ip_v5_2 (List.mem_of_getElem? (l := ip_u5_2.1) (i := 13) rfl)), ip_xt5 (ip_v5_2 (List.mem_of_getElem? (l := ip_u5_2.1) (i := 19) rfl)), ip_xt5 (ip_v5_2 (List.mem_of_getElem? (l := ip_u5_2.1) (i := 20) rfl))⟩
theorem lw_p24 : lw_okq (⟨"CommonDenominatorModel", "no", "(I)I"⟩, 48) := ⟨⟨by decide +kernel, by decide +kernel⟩, ip_xt5 (ip_v5_2 (List.mem_of_getElem? (l := ip_u5_2.1) (i := 13) rfl)), ip_xt5 (ip_v5_7 (List.mem_of_getElem? (l := ip_u5_7.1) (i := 12) rfl)), ip_xt5 (ip_v5_7 (List.mem_of_getElem? (l := ip_u5_7.1) (i := 13) rfl))⟩
theorem lw_p25 : lw_okq (⟨"CommonDenominatorModel", "comesBack", "()V"⟩, 48) := ⟨⟨by decide +kernel, by decide +kernel⟩, ip_xt5 (ip_v5_2 (List.mem_of_getElem? (l := ip_u5_2.1) (i := 13) rfl)), ip_xt6 (ip_v6_0 (List.mem_of_getElem? (l := ip_u6_0.1) (i := 0) rfl)), ip_xt6 (ip_v6_0 (List.mem_of_getElem? (l := ip_u6_0.1) (i := 1) rfl))⟩
theorem lw_p26 : lw_okq (⟨"CommonDenominatorModel", "yes", "(I)I"⟩, 48) := ⟨⟨by decide +kernel, by decide +kernel⟩, ip_xt5 (ip_v5_2 (List.mem_of_getElem? (l := ip_u5_2.1) (i := 13) rfl)), ip_xt6 (ip_v6_0 (List.mem_of_getElem? (l := ip_u6_0.1) (i := 4) rfl)), ip_xt6 (ip_v6_0 (List.mem_of_getElem? (l := ip_u6_0.1) (i := 5) rfl))⟩
theorem lw_p27 : lw_okq (⟨"CommonDenominatorModel", "stepsOrNone", "()I"⟩, 48) := ⟨⟨by decide +kernel, by decide +kernel⟩, ip_xt5 (ip_v5_2 (List.mem_of_getElem? (l := ip_u5_2.1) (i := 13) rfl)), ip_xt6 (ip_v6_0 (List.mem_of_getElem? (l := ip_u6_0.1) (i := 15) rfl)), ip_xt6 (ip_v6_0 (List.mem_of_getElem? (l := ip_u6_0.1) (i := 16) rfl))⟩
theorem lw_p28 : lw_okq (⟨"CommonDenominatorModel", "keeps", "(I)V"⟩, 48) := ⟨⟨by decide +kernel, by decide +kernel⟩, ip_xt5 (ip_v5_2 (List.mem_of_getElem? (l := ip_u5_2.1) (i := 13) rfl)), ip_xt6 (ip_v6_1 (List.mem_of_getElem? (l := ip_u6_1.1) (i := 1) rfl)), ip_xt6 (ip_v6_1 (List.mem_of_getElem? (l := ip_u6_1.1) (i := 2) rfl))⟩
theorem lw_p29 : lw_okq (⟨"CommonDenominatorModel", "is", "(JJJJ)V"⟩, 48) := ⟨⟨by decide +kernel, by decide +kernel⟩, ip_xt5 (ip_v5_2 (List.mem_of_getElem? (l := ip_u5_2.1) (i := 13) rfl)), ip_xt6 (ip_v6_1 (List.mem_of_getElem? (l := ip_u6_1.1) (i := 21) rfl)), ip_xt6 (ip_v6_1 (List.mem_of_getElem? (l := ip_u6_1.1) (i := 22) rfl))⟩
theorem lw_p30 : lw_okq (⟨"CommonDenominatorModel", "lays", "(I)I"⟩, 48) := ⟨⟨by decide +kernel, by decide +kernel⟩, ip_xt5 (ip_v5_2 (List.mem_of_getElem? (l := ip_u5_2.1) (i := 13) rfl)), ip_xt6 (ip_v6_1 (List.mem_of_getElem? (l := ip_u6_1.1) (i := 28) rfl)), ip_xt6 (ip_v6_1 (List.mem_of_getElem? (l := ip_u6_1.1) (i := 29) rfl))⟩
theorem lw_p31 : lw_okq (⟨"CommonDenominatorModel", "floorOf", "(JJJJ)I"⟩, 48) := ⟨⟨by decide +kernel, by decide +kernel⟩, ip_xt5 (ip_v5_2 (List.mem_of_getElem? (l := ip_u5_2.1) (i := 13) rfl)), ip_xt6 (ip_v6_2 (List.mem_of_getElem? (l := ip_u6_2.1) (i := 0) rfl)), ip_xt6 (ip_v6_2 (List.mem_of_getElem? (l := ip_u6_2.1) (i := 1) rfl))⟩
def lw_privs_2 : List (MethodName × Nat) := [(⟨"CommonDenominato\x72", "solved", "()Z"⟩, 14), (⟨"CommonDenominato\x72", "stepsOrNone", "()I"⟩, 14), (⟨"CommonDenominato\x72", "hasBounds", "()Z"⟩, 14), (⟨"CommonDenominator$Bounds", "layPart", "(LCommonDenominator$Square;I)V"⟩, 2), (⟨"CommonDenominator$Bounds", "leastWhole", "(II)J"⟩, 2), (⟨"CommonDenominato\x72", "leastRelation", "(II)I"⟩, 14), (⟨"CommonDenominato\x72", "likeDigits", "()I"⟩, 14), (⟨"CommonDenominatorModel", "clears", "(III)V"⟩, 48), (⟨"CommonDenominatorModel", "no", "(I)I"⟩, 48), (⟨"CommonDenominatorModel", "comesBack", "()V"⟩, 48), (⟨"CommonDenominatorModel", "yes", "(I)I"⟩, 48), (⟨"CommonDenominatorModel", "stepsOrNone", "()I"⟩, 48), (⟨"CommonDenominatorModel", "keeps", "(I)V"⟩, 48), (⟨"CommonDenominatorModel", "is", "(JJJJ)V"⟩, 48), (⟨"CommonDenominatorModel", "lays", "(I)I"⟩, 48), (⟨"CommonDenominatorModel", "floorOf", "(JJJJ)I"⟩, 48)]
theorem lw_r2 : ∀ q ∈ lw_privs_2, lw_okq q := List.forall_mem_cons.mpr ⟨lw_p16, List.forall_mem_cons.mpr ⟨lw_p17, List.forall_mem_cons.mpr ⟨lw_p18, List.forall_mem_cons.mpr ⟨lw_p19, List.forall_mem_cons.mpr ⟨lw_p20, List.forall_mem_cons.mpr ⟨lw_p21, List.forall_mem_cons.mpr ⟨lw_p22, List.forall_mem_cons.mpr ⟨lw_p23, List.forall_mem_cons.mpr ⟨lw_p24, List.forall_mem_cons.mpr ⟨lw_p25, List.forall_mem_cons.mpr ⟨lw_p26, List.forall_mem_cons.mpr ⟨lw_p27, List.forall_mem_cons.mpr ⟨lw_p28, List.forall_mem_cons.mpr ⟨lw_p29, List.forall_mem_cons.mpr ⟨lw_p30, List.forall_mem_cons.mpr ⟨lw_p31, fun _ h => absurd h List.not_mem_nil⟩⟩⟩⟩⟩⟩⟩⟩⟩⟩⟩⟩⟩⟩⟩⟩
theorem lw_p32 : lw_okq (⟨"CommonDenominatorModel", "signOf", "(JJJ)I"⟩, 48) := ⟨⟨by decide +kernel, by decide +kernel⟩, ip_xt5 (ip_v5_2 (List.mem_of_getElem? (l := ip_u5_2.1) (i := 13) rfl)), ip_xt6 (ip_v6_2 (List.mem_of_getElem? (l := ip_u6_2.1) (i := 4) rfl)), ip_xt6 (ip_v6_2 (List.mem_of_getElem? (l := ip_u6_2.1) (i := 5) rfl))⟩
theorem lw_p33 : lw_okq (⟨"CommonDenominatorModel", "normOf", "(JJJ)J"⟩, 48) := ⟨⟨by decide +kernel, by decide +kernel⟩, ip_xt5 (ip_v5_2 (List.mem_of_getElem? (l := ip_u5_2.1) (i := 13) rfl)), ip_xt6 (ip_v6_2 (List.mem_of_getElem? (l := ip_u6_2.1) (i := 8) rfl)), ip_xt6 (ip_v6_2 (List.mem_of_getElem? (l := ip_u6_2.1) (i := 9) rfl))⟩
theorem lw_p34 : lw_okq (⟨"CommonDenominatorModel", "e1", "()J"⟩, 48) := ⟨⟨by decide +kernel, by decide +kernel⟩, ip_xt5 (ip_v5_2 (List.mem_of_getElem? (l := ip_u5_2.1) (i := 13) rfl)), ip_xt6 (ip_v6_2 (List.mem_of_getElem? (l := ip_u6_2.1) (i := 12) rfl)), ip_xt6 (ip_v6_2 (List.mem_of_getElem? (l := ip_u6_2.1) (i := 13) rfl))⟩
theorem lw_p35 : lw_okq (⟨"CommonDenominatorModel", "squares", "()J"⟩, 48) := ⟨⟨by decide +kernel, by decide +kernel⟩, ip_xt5 (ip_v5_2 (List.mem_of_getElem? (l := ip_u5_2.1) (i := 13) rfl)), ip_xt6 (ip_v6_2 (List.mem_of_getElem? (l := ip_u6_2.1) (i := 16) rfl)), ip_xt6 (ip_v6_2 (List.mem_of_getElem? (l := ip_u6_2.1) (i := 17) rfl))⟩
theorem lw_p36 : lw_okq (⟨"CommonDenominatorModel", "e2", "()J"⟩, 48) := ⟨⟨by decide +kernel, by decide +kernel⟩, ip_xt5 (ip_v5_2 (List.mem_of_getElem? (l := ip_u5_2.1) (i := 13) rfl)), ip_xt6 (ip_v6_2 (List.mem_of_getElem? (l := ip_u6_2.1) (i := 21) rfl)), ip_xt6 (ip_v6_2 (List.mem_of_getElem? (l := ip_u6_2.1) (i := 22) rfl))⟩
theorem lw_p37 : lw_okq (⟨"CommonDenominatorModel", "mixed", "()J"⟩, 48) := ⟨⟨by decide +kernel, by decide +kernel⟩, ip_xt5 (ip_v5_2 (List.mem_of_getElem? (l := ip_u5_2.1) (i := 13) rfl)), ip_xt6 (ip_v6_2 (List.mem_of_getElem? (l := ip_u6_2.1) (i := 25) rfl)), ip_xt6 (ip_v6_2 (List.mem_of_getElem? (l := ip_u6_2.1) (i := 26) rfl))⟩
theorem lw_p38 : lw_okq (⟨"CommonDenominatorModel", "e3", "()J"⟩, 48) := ⟨⟨by decide +kernel, by decide +kernel⟩, ip_xt5 (ip_v5_2 (List.mem_of_getElem? (l := ip_u5_2.1) (i := 13) rfl)), ip_xt6 (ip_v6_2 (List.mem_of_getElem? (l := ip_u6_2.1) (i := 30) rfl)), ip_xt6 (ip_v6_2 (List.mem_of_getElem? (l := ip_u6_2.1) (i := 31) rfl))⟩
theorem lw_p39 : lw_okq (⟨"CommonDenominatorModel", "pairs", "()J"⟩, 48) := ⟨⟨by decide +kernel, by decide +kernel⟩, ip_xt5 (ip_v5_2 (List.mem_of_getElem? (l := ip_u5_2.1) (i := 13) rfl)), ip_xt6 (ip_v6_3 (List.mem_of_getElem? (l := ip_u6_3.1) (i := 2) rfl)), ip_xt6 (ip_v6_3 (List.mem_of_getElem? (l := ip_u6_3.1) (i := 3) rfl))⟩
theorem lw_p40 : lw_okq (⟨"CommonDenominatorModel", "isNought", "(I)Z"⟩, 48) := ⟨⟨by decide +kernel, by decide +kernel⟩, ip_xt5 (ip_v5_2 (List.mem_of_getElem? (l := ip_u5_2.1) (i := 13) rfl)), ip_xt6 (ip_v6_3 (List.mem_of_getElem? (l := ip_u6_3.1) (i := 17) rfl)), ip_xt6 (ip_v6_3 (List.mem_of_getElem? (l := ip_u6_3.1) (i := 18) rfl))⟩
theorem lw_p41 : lw_okq (⟨"CommonDenominatorModel", "at", "(II)I"⟩, 48) := ⟨⟨by decide +kernel, by decide +kernel⟩, ip_xt5 (ip_v5_2 (List.mem_of_getElem? (l := ip_u5_2.1) (i := 13) rfl)), ip_xt6 (ip_v6_3 (List.mem_of_getElem? (l := ip_u6_3.1) (i := 21) rfl)), ip_xt6 (ip_v6_3 (List.mem_of_getElem? (l := ip_u6_3.1) (i := 22) rfl))⟩
theorem lw_p42 : lw_okq (⟨"CommonDenominatorModel", "combines", "(III)V"⟩, 48) := ⟨⟨by decide +kernel, by decide +kernel⟩, ip_xt5 (ip_v5_2 (List.mem_of_getElem? (l := ip_u5_2.1) (i := 13) rfl)), ip_xt6 (ip_v6_3 (List.mem_of_getElem? (l := ip_u6_3.1) (i := 25) rfl)), ip_xt6 (ip_v6_3 (List.mem_of_getElem? (l := ip_u6_3.1) (i := 26) rfl))⟩
theorem lw_p43 : lw_okq (⟨"CommonDenominatorModel", "multiplies", "(JJJJJJJ)V"⟩, 48) := ⟨⟨by decide +kernel, by decide +kernel⟩, ip_xt5 (ip_v5_2 (List.mem_of_getElem? (l := ip_u5_2.1) (i := 13) rfl)), ip_xt6 (ip_v6_3 (List.mem_of_getElem? (l := ip_u6_3.1) (i := 29) rfl)), ip_xt6 (ip_v6_3 (List.mem_of_getElem? (l := ip_u6_3.1) (i := 30) rfl))⟩
theorem lw_p44 : lw_okq (⟨"CommonDenominatorModel", "divides", "(JJJJJJJJ)V"⟩, 48) := ⟨⟨by decide +kernel, by decide +kernel⟩, ip_xt5 (ip_v5_2 (List.mem_of_getElem? (l := ip_u5_2.1) (i := 13) rfl)), ip_xt6 (ip_v6_4 (List.mem_of_getElem? (l := ip_u6_4.1) (i := 1) rfl)), ip_xt6 (ip_v6_4 (List.mem_of_getElem? (l := ip_u6_4.1) (i := 2) rfl))⟩
theorem lw_p45 : lw_okq (⟨"CommonDenominatorModel", "traceOf", "(JJJ)J"⟩, 48) := ⟨⟨by decide +kernel, by decide +kernel⟩, ip_xt5 (ip_v5_2 (List.mem_of_getElem? (l := ip_u5_2.1) (i := 13) rfl)), ip_xt6 (ip_v6_4 (List.mem_of_getElem? (l := ip_u6_4.1) (i := 5) rfl)), ip_xt6 (ip_v6_4 (List.mem_of_getElem? (l := ip_u6_4.1) (i := 6) rfl))⟩
theorem lw_p46 : lw_okq (⟨"CommonDenominatorModel", "secondOf", "(JJJ)J"⟩, 48) := ⟨⟨by decide +kernel, by decide +kernel⟩, ip_xt5 (ip_v5_2 (List.mem_of_getElem? (l := ip_u5_2.1) (i := 13) rfl)), ip_xt6 (ip_v6_4 (List.mem_of_getElem? (l := ip_u6_4.1) (i := 9) rfl)), ip_xt6 (ip_v6_4 (List.mem_of_getElem? (l := ip_u6_4.1) (i := 10) rfl))⟩
theorem lw_p47 : lw_okq (⟨"CommonDenominatorModel", "xaAll", "(J)J"⟩, 48) := ⟨⟨by decide +kernel, by decide +kernel⟩, ip_xt5 (ip_v5_2 (List.mem_of_getElem? (l := ip_u5_2.1) (i := 13) rfl)), ip_xt6 (ip_v6_4 (List.mem_of_getElem? (l := ip_u6_4.1) (i := 13) rfl)), ip_xt6 (ip_v6_4 (List.mem_of_getElem? (l := ip_u6_4.1) (i := 14) rfl))⟩
def lw_privs_3 : List (MethodName × Nat) := [(⟨"CommonDenominatorModel", "signOf", "(JJJ)I"⟩, 48), (⟨"CommonDenominatorModel", "normOf", "(JJJ)J"⟩, 48), (⟨"CommonDenominatorModel", "e1", "()J"⟩, 48), (⟨"CommonDenominatorModel", "squares", "()J"⟩, 48), (⟨"CommonDenominatorModel", "e2", "()J"⟩, 48), (⟨"CommonDenominatorModel", "mixed", "()J"⟩, 48), (⟨"CommonDenominatorModel", "e3", "()J"⟩, 48), (⟨"CommonDenominatorModel", "pairs", "()J"⟩, 48), (⟨"CommonDenominatorModel", "isNought", "(I)Z"⟩, 48), (⟨"CommonDenominatorModel", "at", "(II)I"⟩, 48), (⟨"CommonDenominatorModel", "combines", "(III)V"⟩, 48), (⟨"CommonDenominatorModel", "multiplies", "(JJJJJJJ)V"⟩, 48), (⟨"CommonDenominatorModel", "divides", "(JJJJJJJJ)V"⟩, 48), (⟨"CommonDenominatorModel", "traceOf", "(JJJ)J"⟩, 48), (⟨"CommonDenominatorModel", "secondOf", "(JJJ)J"⟩, 48), (⟨"CommonDenominatorModel", "xaAll", "(J)J"⟩, 48)]
theorem lw_r3 : ∀ q ∈ lw_privs_3, lw_okq q := List.forall_mem_cons.mpr ⟨lw_p32, List.forall_mem_cons.mpr ⟨lw_p33, List.forall_mem_cons.mpr ⟨lw_p34, List.forall_mem_cons.mpr ⟨lw_p35, List.forall_mem_cons.mpr ⟨lw_p36, List.forall_mem_cons.mpr ⟨lw_p37, List.forall_mem_cons.mpr ⟨lw_p38, List.forall_mem_cons.mpr ⟨lw_p39, List.forall_mem_cons.mpr ⟨lw_p40, List.forall_mem_cons.mpr ⟨lw_p41, List.forall_mem_cons.mpr ⟨lw_p42, List.forall_mem_cons.mpr ⟨lw_p43, List.forall_mem_cons.mpr ⟨lw_p44, List.forall_mem_cons.mpr ⟨lw_p45, List.forall_mem_cons.mpr ⟨lw_p46, List.forall_mem_cons.mpr ⟨lw_p47, fun _ h => absurd h List.not_mem_nil⟩⟩⟩⟩⟩⟩⟩⟩⟩⟩⟩⟩⟩⟩⟩⟩
theorem lw_p48 : lw_okq (⟨"CommonDenominatorModel", "xbAll", "(J)J"⟩, 48) := ⟨⟨by decide +kernel, by decide +kernel⟩, ip_xt5 (ip_v5_2 (List.mem_of_getElem? (l := ip_u5_2.1) (i := 13) rfl)), ip_xt6 (ip_v6_4 (List.mem_of_getElem? (l := ip_u6_4.1) (i := 17) rfl)), ip_xt6 (ip_v6_4 (List.mem_of_getElem? (l := ip_u6_4.1) (i := 18) rfl))⟩
theorem lw_p49 : lw_okq (⟨"CommonDenominatorModel", "xcAll", "(J)J"⟩, 48) := ⟨⟨by decide +kernel, by decide +kernel⟩, ip_xt5 (ip_v5_2 (List.mem_of_getElem? (l := ip_u5_2.1) (i := 13) rfl)), ip_xt6 (ip_v6_4 (List.mem_of_getElem? (l := ip_u6_4.1) (i := 21) rfl)), ip_xt6 (ip_v6_4 (List.mem_of_getElem? (l := ip_u6_4.1) (i := 22) rfl))⟩
theorem lw_p50 : lw_okq (⟨"CommonDenominatorModel", "canBe", "()Z"⟩, 48) := ⟨⟨by decide +kernel, by decide +kernel⟩, ip_xt5 (ip_v5_2 (List.mem_of_getElem? (l := ip_u5_2.1) (i := 13) rfl)), ip_xt6 (ip_v6_4 (List.mem_of_getElem? (l := ip_u6_4.1) (i := 25) rfl)), ip_xt6 (ip_v6_4 (List.mem_of_getElem? (l := ip_u6_4.1) (i := 26) rfl))⟩
theorem lw_p51 : lw_okq (⟨"CommonDenominatorModel", "canBegin", "(II)Z"⟩, 48) := ⟨⟨by decide +kernel, by decide +kernel⟩, ip_xt5 (ip_v5_2 (List.mem_of_getElem? (l := ip_u5_2.1) (i := 13) rfl)), ip_xt6 (ip_v6_5 (List.mem_of_getElem? (l := ip_u6_5.1) (i := 1) rfl)), ip_xt6 (ip_v6_5 (List.mem_of_getElem? (l := ip_u6_5.1) (i := 2) rfl))⟩
theorem lw_p52 : lw_okq (⟨"CommonDenominatorModel", "begins", "(III)V"⟩, 48) := ⟨⟨by decide +kernel, by decide +kernel⟩, ip_xt5 (ip_v5_2 (List.mem_of_getElem? (l := ip_u5_2.1) (i := 13) rfl)), ip_xt6 (ip_v6_5 (List.mem_of_getElem? (l := ip_u6_5.1) (i := 5) rfl)), ip_xt6 (ip_v6_5 (List.mem_of_getElem? (l := ip_u6_5.1) (i := 6) rfl))⟩
theorem lw_p53 : lw_okq (⟨"CommonDenominatorModel", "floorAt", "(II)I"⟩, 48) := ⟨⟨by decide +kernel, by decide +kernel⟩, ip_xt5 (ip_v5_2 (List.mem_of_getElem? (l := ip_u5_2.1) (i := 13) rfl)), ip_xt6 (ip_v6_5 (List.mem_of_getElem? (l := ip_u6_5.1) (i := 9) rfl)), ip_xt6 (ip_v6_5 (List.mem_of_getElem? (l := ip_u6_5.1) (i := 10) rfl))⟩
theorem lw_p54 : lw_okq (⟨"CommonDenominatorModel", "ends", "()Z"⟩, 48) := ⟨⟨by decide +kernel, by decide +kernel⟩, ip_xt5 (ip_v5_2 (List.mem_of_getElem? (l := ip_u5_2.1) (i := 13) rfl)), ip_xt6 (ip_v6_5 (List.mem_of_getElem? (l := ip_u6_5.1) (i := 17) rfl)), ip_xt6 (ip_v6_5 (List.mem_of_getElem? (l := ip_u6_5.1) (i := 18) rfl))⟩
theorem lw_p55 : lw_okq (⟨"CommonDenominatorModel", "parts", "()V"⟩, 48) := ⟨⟨by decide +kernel, by decide +kernel⟩, ip_xt5 (ip_v5_2 (List.mem_of_getElem? (l := ip_u5_2.1) (i := 13) rfl)), ip_xt6 (ip_v6_5 (List.mem_of_getElem? (l := ip_u6_5.1) (i := 21) rfl)), ip_xt6 (ip_v6_5 (List.mem_of_getElem? (l := ip_u6_5.1) (i := 22) rfl))⟩
theorem lw_p56 : lw_okq (⟨"CommonDenominatorModel", "stateAt", "(II)I"⟩, 48) := ⟨⟨by decide +kernel, by decide +kernel⟩, ip_xt5 (ip_v5_2 (List.mem_of_getElem? (l := ip_u5_2.1) (i := 13) rfl)), ip_xt6 (ip_v6_5 (List.mem_of_getElem? (l := ip_u6_5.1) (i := 25) rfl)), ip_xt6 (ip_v6_5 (List.mem_of_getElem? (l := ip_u6_5.1) (i := 26) rfl))⟩
theorem lw_p57 : lw_okq (⟨"CommonDenominatorModel", "tries", "()Z"⟩, 48) := ⟨⟨by decide +kernel, by decide +kernel⟩, ip_xt5 (ip_v5_2 (List.mem_of_getElem? (l := ip_u5_2.1) (i := 13) rfl)), ip_xt6 (ip_v6_5 (List.mem_of_getElem? (l := ip_u6_5.1) (i := 29) rfl)), ip_xt6 (ip_v6_5 (List.mem_of_getElem? (l := ip_u6_5.1) (i := 30) rfl))⟩
theorem lw_p58 : lw_okq (⟨"CommonDenominatorModel", "squared", "([JIII)V"⟩, 48) := ⟨⟨by decide +kernel, by decide +kernel⟩, ip_xt5 (ip_v5_2 (List.mem_of_getElem? (l := ip_u5_2.1) (i := 13) rfl)), ip_xt6 (ip_v6_6 (List.mem_of_getElem? (l := ip_u6_6.1) (i := 1) rfl)), ip_xt6 (ip_v6_6 (List.mem_of_getElem? (l := ip_u6_6.1) (i := 2) rfl))⟩
theorem lw_p59 : lw_okq (⟨"CommonDenominatorModel", "times", "(JJ)J"⟩, 48) := ⟨⟨by decide +kernel, by decide +kernel⟩, ip_xt5 (ip_v5_2 (List.mem_of_getElem? (l := ip_u5_2.1) (i := 13) rfl)), ip_xt6 (ip_v6_6 (List.mem_of_getElem? (l := ip_u6_6.1) (i := 5) rfl)), ip_xt6 (ip_v6_6 (List.mem_of_getElem? (l := ip_u6_6.1) (i := 6) rfl))⟩
theorem lw_p60 : lw_okq (⟨"CommonDenominatorModel", "plus", "(JJ)J"⟩, 48) := ⟨⟨by decide +kernel, by decide +kernel⟩, ip_xt5 (ip_v5_2 (List.mem_of_getElem? (l := ip_u5_2.1) (i := 13) rfl)), ip_xt6 (ip_v6_6 (List.mem_of_getElem? (l := ip_u6_6.1) (i := 10) rfl)), ip_xt6 (ip_v6_6 (List.mem_of_getElem? (l := ip_u6_6.1) (i := 11) rfl))⟩
theorem lw_p61 : lw_okq (⟨"CommonDenominatorModel", "isNext", "(I)Z"⟩, 48) := ⟨⟨by decide +kernel, by decide +kernel⟩, ip_xt5 (ip_v5_2 (List.mem_of_getElem? (l := ip_u5_2.1) (i := 13) rfl)), ip_xt6 (ip_v6_6 (List.mem_of_getElem? (l := ip_u6_6.1) (i := 14) rfl)), ip_xt6 (ip_v6_6 (List.mem_of_getElem? (l := ip_u6_6.1) (i := 15) rfl))⟩
theorem lw_p62 : lw_okq (⟨"CommonDenominatorModel", "does", "()V"⟩, 48) := ⟨⟨by decide +kernel, by decide +kernel⟩, ip_xt5 (ip_v5_2 (List.mem_of_getElem? (l := ip_u5_2.1) (i := 13) rfl)), ip_xt6 (ip_v6_6 (List.mem_of_getElem? (l := ip_u6_6.1) (i := 18) rfl)), ip_xt6 (ip_v6_6 (List.mem_of_getElem? (l := ip_u6_6.1) (i := 19) rfl))⟩
theorem lw_p63 : lw_okq (⟨"CommonDenominatorModel", "looksBack", "()V"⟩, 48) := ⟨⟨by decide +kernel, by decide +kernel⟩, ip_xt5 (ip_v5_2 (List.mem_of_getElem? (l := ip_u5_2.1) (i := 13) rfl)), ip_xt6 (ip_v6_6 (List.mem_of_getElem? (l := ip_u6_6.1) (i := 22) rfl)), ip_xt6 (ip_v6_6 (List.mem_of_getElem? (l := ip_u6_6.1) (i := 23) rfl))⟩
def lw_privs_4 : List (MethodName × Nat) := [(⟨"CommonDenominatorModel", "xbAll", "(J)J"⟩, 48), (⟨"CommonDenominatorModel", "xcAll", "(J)J"⟩, 48), (⟨"CommonDenominatorModel", "canBe", "()Z"⟩, 48), (⟨"CommonDenominatorModel", "canBegin", "(II)Z"⟩, 48), (⟨"CommonDenominatorModel", "begins", "(III)V"⟩, 48), (⟨"CommonDenominatorModel", "floorAt", "(II)I"⟩, 48), (⟨"CommonDenominatorModel", "ends", "()Z"⟩, 48), (⟨"CommonDenominatorModel", "parts", "()V"⟩, 48), (⟨"CommonDenominatorModel", "stateAt", "(II)I"⟩, 48), (⟨"CommonDenominatorModel", "tries", "()Z"⟩, 48), (⟨"CommonDenominatorModel", "squared", "([JIII)V"⟩, 48), (⟨"CommonDenominatorModel", "times", "(JJ)J"⟩, 48), (⟨"CommonDenominatorModel", "plus", "(JJ)J"⟩, 48), (⟨"CommonDenominatorModel", "isNext", "(I)Z"⟩, 48), (⟨"CommonDenominatorModel", "does", "()V"⟩, 48), (⟨"CommonDenominatorModel", "looksBack", "()V"⟩, 48)]
theorem lw_r4 : ∀ q ∈ lw_privs_4, lw_okq q := List.forall_mem_cons.mpr ⟨lw_p48, List.forall_mem_cons.mpr ⟨lw_p49, List.forall_mem_cons.mpr ⟨lw_p50, List.forall_mem_cons.mpr ⟨lw_p51, List.forall_mem_cons.mpr ⟨lw_p52, List.forall_mem_cons.mpr ⟨lw_p53, List.forall_mem_cons.mpr ⟨lw_p54, List.forall_mem_cons.mpr ⟨lw_p55, List.forall_mem_cons.mpr ⟨lw_p56, List.forall_mem_cons.mpr ⟨lw_p57, List.forall_mem_cons.mpr ⟨lw_p58, List.forall_mem_cons.mpr ⟨lw_p59, List.forall_mem_cons.mpr ⟨lw_p60, List.forall_mem_cons.mpr ⟨lw_p61, List.forall_mem_cons.mpr ⟨lw_p62, List.forall_mem_cons.mpr ⟨lw_p63, fun _ h => absurd h List.not_mem_nil⟩⟩⟩⟩⟩⟩⟩⟩⟩⟩⟩⟩⟩⟩⟩⟩
theorem lw_p64 : lw_okq (⟨"CommonDenominatorModel", "areAlike", "(II)Z"⟩, 48) := ⟨⟨by decide +kernel, by decide +kernel⟩, ip_xt5 (ip_v5_2 (List.mem_of_getElem? (l := ip_u5_2.1) (i := 13) rfl)), ip_xt6 (ip_v6_6 (List.mem_of_getElem? (l := ip_u6_6.1) (i := 26) rfl)), ip_xt6 (ip_v6_6 (List.mem_of_getElem? (l := ip_u6_6.1) (i := 27) rfl))⟩
theorem lw_p65 : lw_okq (⟨"CommonDenominatorModel", "lays4", "(I)V"⟩, 48) := ⟨⟨by decide +kernel, by decide +kernel⟩, ip_xt5 (ip_v5_2 (List.mem_of_getElem? (l := ip_u5_2.1) (i := 13) rfl)), ip_xt6 (ip_v6_7 (List.mem_of_getElem? (l := ip_u6_7.1) (i := 10) rfl)), ip_xt6 (ip_v6_7 (List.mem_of_getElem? (l := ip_u6_7.1) (i := 11) rfl))⟩
theorem lw_p66 : lw_okq (⟨"CommonDenominatorModel", "readsAll", "()I"⟩, 48) := ⟨⟨by decide +kernel, by decide +kernel⟩, ip_xt5 (ip_v5_2 (List.mem_of_getElem? (l := ip_u5_2.1) (i := 13) rfl)), ip_xt7 (ip_v7_0 (List.mem_of_getElem? (l := ip_u7_0.1) (i := 6) rfl)), ip_xt7 (ip_v7_0 (List.mem_of_getElem? (l := ip_u7_0.1) (i := 7) rfl))⟩
theorem lw_p67 : lw_okq (⟨"CommonDenominatorModel", "reads", "()V"⟩, 48) := ⟨⟨by decide +kernel, by decide +kernel⟩, ip_xt5 (ip_v5_2 (List.mem_of_getElem? (l := ip_u5_2.1) (i := 13) rfl)), ip_xt7 (ip_v7_0 (List.mem_of_getElem? (l := ip_u7_0.1) (i := 10) rfl)), ip_xt7 (ip_v7_0 (List.mem_of_getElem? (l := ip_u7_0.1) (i := 11) rfl))⟩
theorem lw_p68 : lw_okq (⟨"CommonDenominatorModel", "isFigure", "()Z"⟩, 48) := ⟨⟨by decide +kernel, by decide +kernel⟩, ip_xt5 (ip_v5_2 (List.mem_of_getElem? (l := ip_u5_2.1) (i := 13) rfl)), ip_xt7 (ip_v7_0 (List.mem_of_getElem? (l := ip_u7_0.1) (i := 14) rfl)), ip_xt7 (ip_v7_0 (List.mem_of_getElem? (l := ip_u7_0.1) (i := 15) rfl))⟩
theorem lw_p69 : lw_okq (⟨"CommonDenominatorModel", "readsOne", "(I)Z"⟩, 48) := ⟨⟨by decide +kernel, by decide +kernel⟩, ip_xt5 (ip_v5_2 (List.mem_of_getElem? (l := ip_u5_2.1) (i := 13) rfl)), ip_xt7 (ip_v7_0 (List.mem_of_getElem? (l := ip_u7_0.1) (i := 18) rfl)), ip_xt7 (ip_v7_0 (List.mem_of_getElem? (l := ip_u7_0.1) (i := 19) rfl))⟩
theorem lw_p70 : lw_okq (⟨"CommonDenominatorModel", "isWhole", "()Z"⟩, 48) := ⟨⟨by decide +kernel, by decide +kernel⟩, ip_xt5 (ip_v5_2 (List.mem_of_getElem? (l := ip_u5_2.1) (i := 13) rfl)), ip_xt7 (ip_v7_0 (List.mem_of_getElem? (l := ip_u7_0.1) (i := 22) rfl)), ip_xt7 (ip_v7_0 (List.mem_of_getElem? (l := ip_u7_0.1) (i := 23) rfl))⟩
theorem lw_p71 : lw_okq (⟨"CommonDenominatorModel", "turnedIn", "(II)I"⟩, 48) := ⟨⟨by decide +kernel, by decide +kernel⟩, ip_xt5 (ip_v5_2 (List.mem_of_getElem? (l := ip_u5_2.1) (i := 13) rfl)), ip_xt7 (ip_v7_2 (List.mem_of_getElem? (l := ip_u7_2.1) (i := 0) rfl)), ip_xt7 (ip_v7_2 (List.mem_of_getElem? (l := ip_u7_2.1) (i := 1) rfl))⟩
theorem lw_p72 : lw_okq (⟨"CommonDenominatorModel", "areBounds", "()Z"⟩, 48) := ⟨⟨by decide +kernel, by decide +kernel⟩, ip_xt5 (ip_v5_2 (List.mem_of_getElem? (l := ip_u5_2.1) (i := 13) rfl)), ip_xt7 (ip_v7_2 (List.mem_of_getElem? (l := ip_u7_2.1) (i := 11) rfl)), ip_xt7 (ip_v7_2 (List.mem_of_getElem? (l := ip_u7_2.1) (i := 12) rfl))⟩
theorem lw_p73 : lw_okq (⟨"CommonDenominatorModel", "outerOf", "(II)I"⟩, 48) := ⟨⟨by decide +kernel, by decide +kernel⟩, ip_xt5 (ip_v5_2 (List.mem_of_getElem? (l := ip_u5_2.1) (i := 13) rfl)), ip_xt7 (ip_v7_2 (List.mem_of_getElem? (l := ip_u7_2.1) (i := 15) rfl)), ip_xt7 (ip_v7_2 (List.mem_of_getElem? (l := ip_u7_2.1) (i := 16) rfl))⟩
theorem lw_p74 : lw_okq (⟨"CommonDenominatorModel", "isWithinBillion", "()Z"⟩, 48) := ⟨⟨by decide +kernel, by decide +kernel⟩, ip_xt5 (ip_v5_2 (List.mem_of_getElem? (l := ip_u5_2.1) (i := 13) rfl)), ip_xt7 (ip_v7_2 (List.mem_of_getElem? (l := ip_u7_2.1) (i := 30) rfl)), ip_xt7 (ip_v7_2 (List.mem_of_getElem? (l := ip_u7_2.1) (i := 31) rfl))⟩
theorem lw_p75 : lw_okq (⟨"CommonDenominatorModel", "othe\x72", "(II)J"⟩, 48) := ⟨⟨by decide +kernel, by decide +kernel⟩, ip_xt5 (ip_v5_2 (List.mem_of_getElem? (l := ip_u5_2.1) (i := 13) rfl)), ip_xt7 (ip_v7_3 (List.mem_of_getElem? (l := ip_u7_3.1) (i := 3) rfl)), ip_xt7 (ip_v7_3 (List.mem_of_getElem? (l := ip_u7_3.1) (i := 4) rfl))⟩
theorem lw_p76 : lw_okq (⟨"CommonDenominatorModel", "laysSimplest", "(I)V"⟩, 48) := ⟨⟨by decide +kernel, by decide +kernel⟩, ip_xt5 (ip_v5_2 (List.mem_of_getElem? (l := ip_u5_2.1) (i := 13) rfl)), ip_xt7 (ip_v7_3 (List.mem_of_getElem? (l := ip_u7_3.1) (i := 15) rfl)), ip_xt7 (ip_v7_3 (List.mem_of_getElem? (l := ip_u7_3.1) (i := 16) rfl))⟩
theorem lw_p77 : lw_okq (⟨"CommonDenominatorModel", "areSmall", "(I)Z"⟩, 48) := ⟨⟨by decide +kernel, by decide +kernel⟩, ip_xt5 (ip_v5_2 (List.mem_of_getElem? (l := ip_u5_2.1) (i := 13) rfl)), ip_xt7 (ip_v7_3 (List.mem_of_getElem? (l := ip_u7_3.1) (i := 23) rfl)), ip_xt7 (ip_v7_3 (List.mem_of_getElem? (l := ip_u7_3.1) (i := 24) rfl))⟩
theorem lw_p78 : lw_okq (⟨"CommonDenominatorModel", "wholeBy", "(IJ)J"⟩, 48) := ⟨⟨by decide +kernel, by decide +kernel⟩, ip_xt5 (ip_v5_2 (List.mem_of_getElem? (l := ip_u5_2.1) (i := 13) rfl)), ip_xt7 (ip_v7_3 (List.mem_of_getElem? (l := ip_u7_3.1) (i := 28) rfl)), ip_xt7 (ip_v7_3 (List.mem_of_getElem? (l := ip_u7_3.1) (i := 29) rfl))⟩
theorem lw_p79 : lw_okq (⟨"CommonDenominatorModel", "isPeriod", "()Z"⟩, 48) := ⟨⟨by decide +kernel, by decide +kernel⟩, ip_xt5 (ip_v5_2 (List.mem_of_getElem? (l := ip_u5_2.1) (i := 13) rfl)), ip_xt7 (ip_v7_4 (List.mem_of_getElem? (l := ip_u7_4.1) (i := 4) rfl)), ip_xt7 (ip_v7_4 (List.mem_of_getElem? (l := ip_u7_4.1) (i := 5) rfl))⟩
def lw_privs_5 : List (MethodName × Nat) := [(⟨"CommonDenominatorModel", "areAlike", "(II)Z"⟩, 48), (⟨"CommonDenominatorModel", "lays4", "(I)V"⟩, 48), (⟨"CommonDenominatorModel", "readsAll", "()I"⟩, 48), (⟨"CommonDenominatorModel", "reads", "()V"⟩, 48), (⟨"CommonDenominatorModel", "isFigure", "()Z"⟩, 48), (⟨"CommonDenominatorModel", "readsOne", "(I)Z"⟩, 48), (⟨"CommonDenominatorModel", "isWhole", "()Z"⟩, 48), (⟨"CommonDenominatorModel", "turnedIn", "(II)I"⟩, 48), (⟨"CommonDenominatorModel", "areBounds", "()Z"⟩, 48), (⟨"CommonDenominatorModel", "outerOf", "(II)I"⟩, 48), (⟨"CommonDenominatorModel", "isWithinBillion", "()Z"⟩, 48), (⟨"CommonDenominatorModel", "othe\x72", "(II)J"⟩, 48), (⟨"CommonDenominatorModel", "laysSimplest", "(I)V"⟩, 48), (⟨"CommonDenominatorModel", "areSmall", "(I)Z"⟩, 48), (⟨"CommonDenominatorModel", "wholeBy", "(IJ)J"⟩, 48), (⟨"CommonDenominatorModel", "isPeriod", "()Z"⟩, 48)]
theorem lw_r5 : ∀ q ∈ lw_privs_5, lw_okq q := List.forall_mem_cons.mpr ⟨lw_p64, List.forall_mem_cons.mpr ⟨lw_p65, List.forall_mem_cons.mpr ⟨lw_p66, List.forall_mem_cons.mpr ⟨lw_p67, List.forall_mem_cons.mpr ⟨lw_p68, List.forall_mem_cons.mpr ⟨lw_p69, List.forall_mem_cons.mpr ⟨lw_p70, List.forall_mem_cons.mpr ⟨lw_p71, List.forall_mem_cons.mpr ⟨lw_p72, List.forall_mem_cons.mpr ⟨lw_p73, List.forall_mem_cons.mpr ⟨lw_p74, List.forall_mem_cons.mpr ⟨lw_p75, List.forall_mem_cons.mpr ⟨lw_p76, List.forall_mem_cons.mpr ⟨lw_p77, List.forall_mem_cons.mpr ⟨lw_p78, List.forall_mem_cons.mpr ⟨lw_p79, fun _ h => absurd h List.not_mem_nil⟩⟩⟩⟩⟩⟩⟩⟩⟩⟩⟩⟩⟩⟩⟩⟩
theorem lw_p80 : lw_okq (⟨"CommonDenominatorModel", "laysRound", "()Z"⟩, 48) := ⟨⟨by decide +kernel, by decide +kernel⟩, ip_xt5 (ip_v5_2 (List.mem_of_getElem? (l := ip_u5_2.1) (i := 13) rfl)), ip_xt7 (ip_v7_4 (List.mem_of_getElem? (l := ip_u7_4.1) (i := 12) rfl)), ip_xt7 (ip_v7_4 (List.mem_of_getElem? (l := ip_u7_4.1) (i := 13) rfl))⟩
theorem lw_p81 : lw_okq (⟨"CommonDenominatorModel", "begins1", "()V"⟩, 48) := ⟨⟨by decide +kernel, by decide +kernel⟩, ip_xt5 (ip_v5_2 (List.mem_of_getElem? (l := ip_u5_2.1) (i := 13) rfl)), ip_xt7 (ip_v7_4 (List.mem_of_getElem? (l := ip_u7_4.1) (i := 16) rfl)), ip_xt7 (ip_v7_4 (List.mem_of_getElem? (l := ip_u7_4.1) (i := 17) rfl))⟩
theorem lw_p82 : lw_okq (⟨"CommonDenominatorModel", "rounds", "(I)V"⟩, 48) := ⟨⟨by decide +kernel, by decide +kernel⟩, ip_xt5 (ip_v5_2 (List.mem_of_getElem? (l := ip_u5_2.1) (i := 13) rfl)), ip_xt7 (ip_v7_4 (List.mem_of_getElem? (l := ip_u7_4.1) (i := 20) rfl)), ip_xt7 (ip_v7_4 (List.mem_of_getElem? (l := ip_u7_4.1) (i := 21) rfl))⟩
theorem lw_p83 : lw_okq (⟨"CommonDenominatorModel", "isUnit", "()Z"⟩, 48) := ⟨⟨by decide +kernel, by decide +kernel⟩, ip_xt5 (ip_v5_2 (List.mem_of_getElem? (l := ip_u5_2.1) (i := 13) rfl)), ip_xt7 (ip_v7_4 (List.mem_of_getElem? (l := ip_u7_4.1) (i := 28) rfl)), ip_xt7 (ip_v7_4 (List.mem_of_getElem? (l := ip_u7_4.1) (i := 29) rfl))⟩
theorem lw_p84 : lw_okq (⟨"CommonDenominatorModel", "isGreat", "(II)Z"⟩, 48) := ⟨⟨by decide +kernel, by decide +kernel⟩, ip_xt5 (ip_v5_2 (List.mem_of_getElem? (l := ip_u5_2.1) (i := 13) rfl)), ip_xt7 (ip_v7_5 (List.mem_of_getElem? (l := ip_u7_5.1) (i := 1) rfl)), ip_xt7 (ip_v7_5 (List.mem_of_getElem? (l := ip_u7_5.1) (i := 2) rfl))⟩
theorem lw_p85 : lw_okq (⟨"CommonDenominatorModel", "mino\x72", "(II)J"⟩, 48) := ⟨⟨by decide +kernel, by decide +kernel⟩, ip_xt5 (ip_v5_2 (List.mem_of_getElem? (l := ip_u5_2.1) (i := 13) rfl)), ip_xt7 (ip_v7_5 (List.mem_of_getElem? (l := ip_u7_5.1) (i := 9) rfl)), ip_xt7 (ip_v7_5 (List.mem_of_getElem? (l := ip_u7_5.1) (i := 10) rfl))⟩
theorem lw_p86 : lw_okq (⟨"CommonDenominatorModel", "isNone", "(III)Z"⟩, 48) := ⟨⟨by decide +kernel, by decide +kernel⟩, ip_xt5 (ip_v5_2 (List.mem_of_getElem? (l := ip_u5_2.1) (i := 13) rfl)), ip_xt7 (ip_v7_5 (List.mem_of_getElem? (l := ip_u7_5.1) (i := 17) rfl)), ip_xt7 (ip_v7_5 (List.mem_of_getElem? (l := ip_u7_5.1) (i := 18) rfl))⟩
theorem lw_p87 : lw_okq (⟨"CommonDenominatorModel", "isPrope\x72", "()Z"⟩, 48) := ⟨⟨by decide +kernel, by decide +kernel⟩, ip_xt5 (ip_v5_2 (List.mem_of_getElem? (l := ip_u5_2.1) (i := 13) rfl)), ip_xt7 (ip_v7_6 (List.mem_of_getElem? (l := ip_u7_6.1) (i := 8) rfl)), ip_xt7 (ip_v7_6 (List.mem_of_getElem? (l := ip_u7_6.1) (i := 9) rfl))⟩
theorem lw_p88 : lw_okq (⟨"CommonDenominatorModel", "isAsStep", "(I)Z"⟩, 48) := ⟨⟨by decide +kernel, by decide +kernel⟩, ip_xt5 (ip_v5_2 (List.mem_of_getElem? (l := ip_u5_2.1) (i := 13) rfl)), ip_xt7 (ip_v7_6 (List.mem_of_getElem? (l := ip_u7_6.1) (i := 12) rfl)), ip_xt7 (ip_v7_6 (List.mem_of_getElem? (l := ip_u7_6.1) (i := 13) rfl))⟩
theorem lw_p89 : lw_okq (⟨"CommonDenominatorModel", "laysSquares", "()Z"⟩, 48) := ⟨⟨by decide +kernel, by decide +kernel⟩, ip_xt5 (ip_v5_2 (List.mem_of_getElem? (l := ip_u5_2.1) (i := 13) rfl)), ip_xt7 (ip_v7_6 (List.mem_of_getElem? (l := ip_u7_6.1) (i := 20) rfl)), ip_xt7 (ip_v7_6 (List.mem_of_getElem? (l := ip_u7_6.1) (i := 21) rfl))⟩
theorem lw_p90 : lw_okq (⟨"CommonDenominatorModel", "turnedInWord", "()I"⟩, 48) := ⟨⟨by decide +kernel, by decide +kernel⟩, ip_xt5 (ip_v5_2 (List.mem_of_getElem? (l := ip_u5_2.1) (i := 13) rfl)), ip_xt7 (ip_v7_6 (List.mem_of_getElem? (l := ip_u7_6.1) (i := 25) rfl)), ip_xt7 (ip_v7_6 (List.mem_of_getElem? (l := ip_u7_6.1) (i := 26) rfl))⟩
theorem lw_p91 : lw_okq (⟨"CommonDenominatorModel", "isSolved", "()Z"⟩, 48) := ⟨⟨by decide +kernel, by decide +kernel⟩, ip_xt5 (ip_v5_2 (List.mem_of_getElem? (l := ip_u5_2.1) (i := 13) rfl)), ip_xt7 (ip_v7_6 (List.mem_of_getElem? (l := ip_u7_6.1) (i := 29) rfl)), ip_xt7 (ip_v7_6 (List.mem_of_getElem? (l := ip_u7_6.1) (i := 30) rfl))⟩
theorem lw_p92 : lw_okq (⟨"CommonDenominatorModel", "refusesField", "(III)I"⟩, 48) := ⟨⟨by decide +kernel, by decide +kernel⟩, ip_xt5 (ip_v5_2 (List.mem_of_getElem? (l := ip_u5_2.1) (i := 13) rfl)), ip_xt7 (ip_v7_7 (List.mem_of_getElem? (l := ip_u7_7.1) (i := 1) rfl)), ip_xt7 (ip_v7_7 (List.mem_of_getElem? (l := ip_u7_7.1) (i := 2) rfl))⟩
theorem lw_p93 : lw_okq (⟨"CommonDenominatorModel", "second", "(IIII)V"⟩, 48) := ⟨⟨by decide +kernel, by decide +kernel⟩, ip_xt5 (ip_v5_2 (List.mem_of_getElem? (l := ip_u5_2.1) (i := 13) rfl)), ip_xt7 (ip_v7_7 (List.mem_of_getElem? (l := ip_u7_7.1) (i := 5) rfl)), ip_xt7 (ip_v7_7 (List.mem_of_getElem? (l := ip_u7_7.1) (i := 6) rfl))⟩
theorem lw_p94 : lw_okq (⟨"CommonDenominatorModel", "goesOn", "()I"⟩, 48) := ⟨⟨by decide +kernel, by decide +kernel⟩, ip_xt5 (ip_v5_2 (List.mem_of_getElem? (l := ip_u5_2.1) (i := 13) rfl)), ip_xt7 (ip_v7_7 (List.mem_of_getElem? (l := ip_u7_7.1) (i := 13) rfl)), ip_xt7 (ip_v7_7 (List.mem_of_getElem? (l := ip_u7_7.1) (i := 14) rfl))⟩
def lw_privs_6 : List (MethodName × Nat) := [(⟨"CommonDenominatorModel", "laysRound", "()Z"⟩, 48), (⟨"CommonDenominatorModel", "begins1", "()V"⟩, 48), (⟨"CommonDenominatorModel", "rounds", "(I)V"⟩, 48), (⟨"CommonDenominatorModel", "isUnit", "()Z"⟩, 48), (⟨"CommonDenominatorModel", "isGreat", "(II)Z"⟩, 48), (⟨"CommonDenominatorModel", "mino\x72", "(II)J"⟩, 48), (⟨"CommonDenominatorModel", "isNone", "(III)Z"⟩, 48), (⟨"CommonDenominatorModel", "isPrope\x72", "()Z"⟩, 48), (⟨"CommonDenominatorModel", "isAsStep", "(I)Z"⟩, 48), (⟨"CommonDenominatorModel", "laysSquares", "()Z"⟩, 48), (⟨"CommonDenominatorModel", "turnedInWord", "()I"⟩, 48), (⟨"CommonDenominatorModel", "isSolved", "()Z"⟩, 48), (⟨"CommonDenominatorModel", "refusesField", "(III)I"⟩, 48), (⟨"CommonDenominatorModel", "second", "(IIII)V"⟩, 48), (⟨"CommonDenominatorModel", "goesOn", "()I"⟩, 48)]
theorem lw_r6 : ∀ q ∈ lw_privs_6, lw_okq q := List.forall_mem_cons.mpr ⟨lw_p80, List.forall_mem_cons.mpr ⟨lw_p81, List.forall_mem_cons.mpr ⟨lw_p82, List.forall_mem_cons.mpr ⟨lw_p83, List.forall_mem_cons.mpr ⟨lw_p84, List.forall_mem_cons.mpr ⟨lw_p85, List.forall_mem_cons.mpr ⟨lw_p86, List.forall_mem_cons.mpr ⟨lw_p87, List.forall_mem_cons.mpr ⟨lw_p88, List.forall_mem_cons.mpr ⟨lw_p89, List.forall_mem_cons.mpr ⟨lw_p90, List.forall_mem_cons.mpr ⟨lw_p91, List.forall_mem_cons.mpr ⟨lw_p92, List.forall_mem_cons.mpr ⟨lw_p93, List.forall_mem_cons.mpr ⟨lw_p94, fun _ h => absurd h List.not_mem_nil⟩⟩⟩⟩⟩⟩⟩⟩⟩⟩⟩⟩⟩⟩⟩
def lw_privs : List (MethodName × Nat) := lw_privs_1 ++ (lw_privs_2 ++ (lw_privs_3 ++ (lw_privs_4 ++ (lw_privs_5 ++ (lw_privs_6)))))
def lw_tbl : List Cond := k2_sels lw_privs ++ tables_1
theorem lw_privs_ok : ∀ q ∈ lw_privs, lw_okq q := by
  show ∀ q ∈ lw_privs_1 ++ (lw_privs_2 ++ (lw_privs_3 ++ (lw_privs_4 ++ (lw_privs_5 ++ (lw_privs_6))))), lw_okq q
  exact List.forall_mem_append.mpr ⟨lw_r1, List.forall_mem_append.mpr ⟨lw_r2, List.forall_mem_append.mpr ⟨lw_r3, List.forall_mem_append.mpr ⟨lw_r4, List.forall_mem_append.mpr ⟨lw_r5, lw_r6⟩⟩⟩⟩⟩
end
noncomputable section
-- PART 02.names
-- names of classes, fields and methods (begun from claim/NAMES.whole.lean.txt)
def RX0 : String := "CommonDenominator$Bounds"
def TX0 : u_T := fun k => match k with
  | 0 => ("CommonDenominator$Bounds", "ends", "[J", true)
  | _ => ("CommonDenominator$Bounds", "columns", "[I", true)
def tyX0 : Nat → FieldType := fun k => match k with
  | 0 => .array .long
  | _ => .array .int
abbrev cX0_init : ByteArray := prog_2_method_1_code
def yX0_init : MethodName := ⟨RX0, "<init>", "()V"⟩
abbrev cX0_lay : ByteArray := prog_2_method_2_code
def yX0_lay : MethodName := ⟨RX0, "lay", "(LCommonDenominator$Square;)Z"⟩
abbrev cX0_layPart : ByteArray := prog_2_method_3_code
def yX0_layPart : MethodName := ⟨RX0, "layPart", "(LCommonDenominator$Square;I)V"⟩
abbrev cX0_order : ByteArray := prog_2_method_4_code
def yX0_order : MethodName := ⟨RX0, "orde\x72", "(LCommonDenominator$Square;III)I"⟩
abbrev cX0_endOf : ByteArray := prog_2_method_5_code
def yX0_endOf : MethodName := ⟨RX0, "endOf", "(II)J"⟩
abbrev cX0_column : ByteArray := prog_2_method_6_code
def yX0_column : MethodName := ⟨RX0, "column", "(II)I"⟩
abbrev cX0_isAbove : ByteArray := prog_2_method_7_code
def yX0_isAbove : MethodName := ⟨RX0, "isAbove", "(J)Z"⟩
abbrev cX0_simplestOf : ByteArray := prog_2_method_8_code
def yX0_simplestOf : MethodName := ⟨RX0, "simplestOf", "(II)J"⟩
abbrev cX0_sharedBy : ByteArray := prog_2_method_9_code
def yX0_sharedBy : MethodName := ⟨RX0, "sharedBy", "(I)J"⟩
abbrev cX0_leastWhole : ByteArray := prog_2_method_10_code
def yX0_leastWhole : MethodName := ⟨RX0, "leastWhole", "(II)J"⟩
def RX1 : String := "CommonDenominator$Course"
def TX1 : u_T := fun k => match k with
  | 0 => ("CommonDenominator$Course", "states", "[I", true)
  | 1 => ("CommonDenominator$Course", "turns", "[B", true)
  | 2 => ("CommonDenominator$Course", "product", "LCommonDenominator$Square;", true)
  | 3 => ("CommonDenominator$Course", "way", "I", false)
  | 4 => ("CommonDenominator$Course", "steps", "I", false)
  | 5 => ("CommonDenominator$Course", "start", "I", false)
  | 6 => ("CommonDenominator$Course", "span", "I", false)
  | 7 => ("CommonDenominator$Course", "next", "LCommonDenominator$Square;", true)
  | 8 => ("CommonDenominator$Course", "f", "LCommonDenominator$Value;", true)
  | 9 => ("CommonDenominator$Course", "g", "LCommonDenominator$Value;", true)
  | 10 => ("CommonDenominator$Course", "u", "LCommonDenominator$Value;", true)
  | 11 => ("CommonDenominator$Course", "v", "LCommonDenominator$Value;", true)
  | 12 => ("CommonDenominator$Course", "floorU", "I", false)
  | 13 => ("CommonDenominator$Course", "floorV", "I", false)
  | _ => ("CommonDenominator$Course", "turned", "Z", false)
def tyX1 : Nat → FieldType := fun k => match k with
  | 0 => .array .int
  | 1 => .array .byte
  | 2 => .object "CommonDenominator$Square"
  | 3 => .int
  | 4 => .int
  | 5 => .int
  | 6 => .int
  | 7 => .object "CommonDenominator$Square"
  | 8 => .object "CommonDenominator$Value"
  | 9 => .object "CommonDenominator$Value"
  | 10 => .object "CommonDenominator$Value"
  | 11 => .object "CommonDenominator$Value"
  | 12 => .int
  | 13 => .int
  | _ => .boolean
abbrev cX1_init : ByteArray := prog_3_method_1_code
def yX1_init : MethodName := ⟨RX1, "<init>", "()V"⟩
abbrev cX1_isOn : ByteArray := prog_3_method_2_code
def yX1_isOn : MethodName := ⟨RX1, "isOn", "()Z"⟩
abbrev cX1_hasPeriod : ByteArray := prog_3_method_3_code
def yX1_hasPeriod : MethodName := ⟨RX1, "hasPeriod", "()Z"⟩
abbrev cX1_hasState : ByteArray := prog_3_method_4_code
def yX1_hasState : MethodName := ⟨RX1, "hasState", "(I)Z"⟩
abbrev cX1_number : ByteArray := prog_3_method_5_code
def yX1_number : MethodName := ⟨RX1, "numbe\x72", "(III)I"⟩
abbrev cX1_floorAt : ByteArray := prog_3_method_6_code
def yX1_floorAt : MethodName := ⟨RX1, "floorAt", "(II)I"⟩
abbrev cX1_lay : ByteArray := prog_3_method_7_code
def yX1_lay : MethodName := ⟨RX1, "lay", "(IILCommonDenominator$Value;)V"⟩
abbrev cX1_digitOf : ByteArray := prog_3_method_8_code
def yX1_digitOf : MethodName := ⟨RX1, "digitOf", "(II)I"⟩
abbrev cX1_canOpen : ByteArray := prog_3_method_9_code
def yX1_canOpen : MethodName := ⟨RX1, "canOpen", "(LCommonDenominator$Field;LCommonDenominator$Value;LCommonDenominator$Value;)Z"⟩
abbrev cX1_isFit : ByteArray := prog_3_method_10_code
def yX1_isFit : MethodName := ⟨RX1, "isFit", "(LCommonDenominator$Field;LCommonDenominator$Value;)Z"⟩
abbrev cX1_open : ByteArray := prog_3_method_11_code
def yX1_open : MethodName := ⟨RX1, "open", "(LCommonDenominator$Field;LCommonDenominator$Value;LCommonDenominator$Value;I)V"⟩
abbrev cX1_close : ByteArray := prog_3_method_12_code
def yX1_close : MethodName := ⟨RX1, "close", "()V"⟩
abbrev cX1_reopen : ByteArray := prog_3_method_13_code
def yX1_reopen : MethodName := ⟨RX1, "reopen", "(LCommonDenominator$Field;[III)V"⟩
abbrev cX1_ends : ByteArray := prog_3_method_14_code
def yX1_ends : MethodName := ⟨RX1, "ends", "()Z"⟩
abbrev cX1_isWhole : ByteArray := prog_3_method_15_code
def yX1_isWhole : MethodName := ⟨RX1, "isWhole", "(I)Z"⟩
abbrev cX1_prepare : ByteArray := prog_3_method_16_code
def yX1_prepare : MethodName := ⟨RX1, "prepare", "(LCommonDenominator$Field;)I"⟩
abbrev cX1_layRests : ByteArray := prog_3_method_17_code
def yX1_layRests : MethodName := ⟨RX1, "layRests", "(LCommonDenominator$Field;)V"⟩
abbrev cX1_take : ByteArray := prog_3_method_18_code
def yX1_take : MethodName := ⟨RX1, "take", "()V"⟩
abbrev cX1_saveState : ByteArray := prog_3_method_19_code
def yX1_saveState : MethodName := ⟨RX1, "saveState", "()V"⟩
abbrev cX1_findPeriod : ByteArray := prog_3_method_20_code
def yX1_findPeriod : MethodName := ⟨RX1, "findPeriod", "()V"⟩
abbrev cX1_isLikeLast : ByteArray := prog_3_method_21_code
def yX1_isLikeLast : MethodName := ⟨RX1, "isLikeLast", "(I)Z"⟩
abbrev cX1_runOut : ByteArray := prog_3_method_22_code
def yX1_runOut : MethodName := ⟨RX1, "runOut", "(LCommonDenominator$Field;)I"⟩
abbrev cX1_countOf : ByteArray := prog_3_method_23_code
def yX1_countOf : MethodName := ⟨RX1, "countOf", "(I)I"⟩
abbrev cX1_layRound : ByteArray := prog_3_method_24_code
def yX1_layRound : MethodName := ⟨RX1, "layRound", "(LCommonDenominator$Square;)V"⟩
abbrev cX1_layUnit : ByteArray := prog_3_method_25_code
def yX1_layUnit : MethodName := ⟨RX1, "layUnit", "(LCommonDenominator$Square;LCommonDenominator$Value;)Z"⟩
abbrev cX1_together : ByteArray := prog_3_method_26_code
def yX1_together : MethodName := ⟨RX1, "togethe\x72", "(LCommonDenominator$Square;JJJ)J"⟩
abbrev cX1_thirdOf : ByteArray := prog_3_method_27_code
def yX1_thirdOf : MethodName := ⟨RX1, "thirdOf", "(II)I"⟩
abbrev cX1_relates : ByteArray := prog_3_method_28_code
def yX1_relates : MethodName := ⟨RX1, "relates", "(III)Z"⟩
def RX2 : String := "CommonDenominator$Field"
def TX2 : u_T := fun k => match k with
  | 0 => ("CommonDenominator$Field", "p", "I", false)
  | 1 => ("CommonDenominator$Field", "q", "I", false)
  | 2 => ("CommonDenominator$Field", "\x72", "I", false)
  | 3 => ("CommonDenominator$Field", "rows", "LCommonDenominator$Square;", true)
  | _ => ("CommonDenominator$Field", "below", "LCommonDenominator$Value;", true)
def tyX2 : Nat → FieldType := fun k => match k with
  | 0 => .int
  | 1 => .int
  | 2 => .int
  | 3 => .object "CommonDenominator$Square"
  | _ => .object "CommonDenominator$Value"
abbrev cX2_init : ByteArray := prog_4_method_1_code
def yX2_init : MethodName := ⟨RX2, "<init>", "()V"⟩
abbrev cX2_inRange : ByteArray := prog_4_method_2_code
def yX2_inRange : MethodName := ⟨RX2, "inRange", "(JJJ)Z"⟩
abbrev cX2_canBe : ByteArray := prog_4_method_3_code
def yX2_canBe : MethodName := ⟨RX2, "canBe", "(JJJ)Z"⟩
abbrev cX2_discriminantOf : ByteArray := prog_4_method_4_code
def yX2_discriminantOf : MethodName := ⟨RX2, "discriminantOf", "(JJJ)J"⟩
abbrev cX2_put : ByteArray := prog_4_method_5_code
def yX2_put : MethodName := ⟨RX2, "put", "(III)V"⟩
abbrev cX2_discriminant : ByteArray := prog_4_method_6_code
def yX2_discriminant : MethodName := ⟨RX2, "discriminant", "()I"⟩
abbrev cX2_layRows : ByteArray := prog_4_method_7_code
def yX2_layRows : MethodName := ⟨RX2, "layRows", "(JJJ)V"⟩
abbrev cX2_signOf : ByteArray := prog_4_method_8_code
def yX2_signOf : MethodName := ⟨RX2, "signOf", "(JJJ)I"⟩
abbrev cX2_sign : ByteArray := prog_4_method_9_code
def yX2_sign : MethodName := ⟨RX2, "sign", "(LCommonDenominator$Value;)I"⟩
abbrev cX2_signLess : ByteArray := prog_4_method_10_code
def yX2_signLess : MethodName := ⟨RX2, "signLess", "(LCommonDenominator$Value;JJ)I"⟩
abbrev cX2_signOfDifference : ByteArray := prog_4_method_11_code
def yX2_signOfDifference : MethodName := ⟨RX2, "signOfDifference", "(LCommonDenominator$Value;LCommonDenominator$Value;)I"⟩
abbrev cX2_floor : ByteArray := prog_4_method_12_code
def yX2_floor : MethodName := ⟨RX2, "floo\x72", "(LCommonDenominator$Value;)I"⟩
abbrev cX2_add : ByteArray := prog_4_method_13_code
def yX2_add : MethodName := ⟨RX2, "add", "(LCommonDenominator$Value;LCommonDenominator$Value;ILCommonDenominator$Value;)V"⟩
abbrev cX2_multiply : ByteArray := prog_4_method_14_code
def yX2_multiply : MethodName := ⟨RX2, "multiply", "(LCommonDenominator$Value;LCommonDenominator$Value;LCommonDenominator$Value;)V"⟩
abbrev cX2_divide : ByteArray := prog_4_method_15_code
def yX2_divide : MethodName := ⟨RX2, "divide", "(LCommonDenominator$Value;LCommonDenominator$Value;LCommonDenominator$Value;)V"⟩
abbrev cX2_layRatios : ByteArray := prog_4_method_16_code
def yX2_layRatios : MethodName := ⟨RX2, "layRatios", "(LCommonDenominator$Square;LCommonDenominator$Value;LCommonDenominator$Value;)Z"⟩
def RX3 : String := "CommonDenominator$Past"
def TX3 : u_T := fun k => match k with
  | 0 => ("CommonDenominator$Past", "ahead", "[LCommonDenominator$Stand;", true)
  | 1 => ("CommonDenominator$Past", "acts", "[I", true)
  | 2 => ("CommonDenominator$Past", "images", "[LCommonDenominator$Stand;", true)
  | 3 => ("CommonDenominator$Past", "kept", "[Z", true)
  | 4 => ("CommonDenominator$Past", "oldest", "I", false)
  | _ => ("CommonDenominator$Past", "count", "I", false)
def tyX3 : Nat → FieldType := fun k => match k with
  | 0 => .array (.object "CommonDenominator$Stand")
  | 1 => .array .int
  | 2 => .array (.object "CommonDenominator$Stand")
  | 3 => .array .boolean
  | 4 => .int
  | _ => .int
abbrev cX3_init : ByteArray := prog_5_method_1_code
def yX3_init : MethodName := ⟨RX3, "<init>", "()V"⟩
abbrev cX3_add : ByteArray := prog_5_method_2_code
def yX3_add : MethodName := ⟨RX3, "add", "(I)LCommonDenominator$Stand;"⟩
abbrev cX3_newest : ByteArray := prog_5_method_3_code
def yX3_newest : MethodName := ⟨RX3, "newest", "()LCommonDenominator$Stand;"⟩
abbrev cX3_drop : ByteArray := prog_5_method_4_code
def yX3_drop : MethodName := ⟨RX3, "drop", "()I"⟩
abbrev cX3_forget : ByteArray := prog_5_method_5_code
def yX3_forget : MethodName := ⟨RX3, "forget", "()V"⟩
abbrev cX3_place : ByteArray := prog_5_method_6_code
def yX3_place : MethodName := ⟨RX3, "place", "()I"⟩
def RX4 : String := "CommonDenominator$Square"
def TX4 : u_T := fun k => match k with
  | _ => ("CommonDenominator$Square", "cells", "[J", true)
def tyX4 : Nat → FieldType := fun k => match k with
  | _ => .array .long
abbrev cX4_init : ByteArray := prog_6_method_1_code
def yX4_init : MethodName := ⟨RX4, "<init>", "()V"⟩
abbrev cX4_has : ByteArray := prog_6_method_2_code
def yX4_has : MethodName := ⟨RX4, "has", "(II)Z"⟩
abbrev cX4_cell : ByteArray := prog_6_method_3_code
def yX4_cell : MethodName := ⟨RX4, "cell", "(II)J"⟩
abbrev cX4_layRow : ByteArray := prog_6_method_4_code
def yX4_layRow : MethodName := ⟨RX4, "layRow", "(IJJJ)V"⟩
abbrev cX4_layOne : ByteArray := prog_6_method_5_code
def yX4_layOne : MethodName := ⟨RX4, "layOne", "()V"⟩
abbrev cX4_copy : ByteArray := prog_6_method_6_code
def yX4_copy : MethodName := ⟨RX4, "copy", "(LCommonDenominator$Square;)V"⟩
abbrev cX4_follow : ByteArray := prog_6_method_7_code
def yX4_follow : MethodName := ⟨RX4, "follow", "(IIZ)V"⟩
abbrev cX4_plus : ByteArray := prog_6_method_8_code
def yX4_plus : MethodName := ⟨RX4, "plus", "(JJ)J"⟩
abbrev cX4_times : ByteArray := prog_6_method_9_code
def yX4_times : MethodName := ⟨RX4, "times", "(IJ)J"⟩
abbrev cX4_isBeyond : ByteArray := prog_6_method_10_code
def yX4_isBeyond : MethodName := ⟨RX4, "isBeyond", "()Z"⟩
abbrev cX4_isAbove : ByteArray := prog_6_method_11_code
def yX4_isAbove : MethodName := ⟨RX4, "isAbove", "(J)Z"⟩
abbrev cX4_cofactor : ByteArray := prog_6_method_12_code
def yX4_cofactor : MethodName := ⟨RX4, "cofacto\x72", "(II)J"⟩
abbrev cX4_equate : ByteArray := prog_6_method_13_code
def yX4_equate : MethodName := ⟨RX4, "equate", "(I)J"⟩
abbrev cX4_under : ByteArray := prog_6_method_14_code
def yX4_under : MethodName := ⟨RX4, "unde\x72", "(LCommonDenominator$Value;I)J"⟩
def RX5 : String := "CommonDenominator$Stand"
def TX5 : u_T := fun k => match k with
  | 0 => ("CommonDenominator$Stand", "p", "I", false)
  | 1 => ("CommonDenominator$Stand", "q", "I", false)
  | 2 => ("CommonDenominator$Stand", "\x72", "I", false)
  | 3 => ("CommonDenominator$Stand", "values", "[I", true)
  | 4 => ("CommonDenominator$Stand", "letters", "LCommonDenominator$Word;", true)
  | 5 => ("CommonDenominator$Stand", "opening", "[I", true)
  | 6 => ("CommonDenominator$Stand", "way", "I", false)
  | _ => ("CommonDenominator$Stand", "steps", "I", false)
def tyX5 : Nat → FieldType := fun k => match k with
  | 0 => .int
  | 1 => .int
  | 2 => .int
  | 3 => .array .int
  | 4 => .object "CommonDenominator$Word"
  | 5 => .array .int
  | 6 => .int
  | _ => .int
abbrev cX5_init : ByteArray := prog_7_method_1_code
def yX5_init : MethodName := ⟨RX5, "<init>", "()V"⟩
abbrev cX5_take : ByteArray := prog_7_method_2_code
def yX5_take : MethodName := ⟨RX5, "take", "(LCommonDenominator$Field;[LCommonDenominator$Value;LCommonDenominator$Word;LCommonDenominator$Course;)V"⟩
abbrev cX5_restore : ByteArray := prog_7_method_3_code
def yX5_restore : MethodName := ⟨RX5, "restore", "(LCommonDenominator$Field;[LCommonDenominator$Value;LCommonDenominator$Word;LCommonDenominator$Course;)V"⟩
def RX6 : String := "CommonDenominator$Tape"
def TX6 : u_T := fun k => match k with
  | 0 => ("CommonDenominator$Tape", "bytes", "[B", true)
  | 1 => ("CommonDenominator$Tape", "draft", "LCommonDenominator$Word;", true)
  | 2 => ("CommonDenominator$Tape", "length", "I", false)
  | 3 => ("CommonDenominator$Tape", "at", "I", false)
  | _ => ("CommonDenominator$Tape", "fault", "I", false)
def tyX6 : Nat → FieldType := fun k => match k with
  | 0 => .array .byte
  | 1 => .object "CommonDenominator$Word"
  | 2 => .int
  | 3 => .int
  | _ => .int
abbrev cX6_init : ByteArray := prog_8_method_1_code
def yX6_init : MethodName := ⟨RX6, "<init>", "()V"⟩
abbrev cX6_hasRoom : ByteArray := prog_8_method_2_code
def yX6_hasRoom : MethodName := ⟨RX6, "hasRoom", "(I)Z"⟩
abbrev cX6_add : ByteArray := prog_8_method_3_code
def yX6_add : MethodName := ⟨RX6, "add", "(I)V"⟩
abbrev cX6_cut : ByteArray := prog_8_method_4_code
def yX6_cut : MethodName := ⟨RX6, "cut", "(I)Z"⟩
abbrev cX6_parse : ByteArray := prog_8_method_5_code
def yX6_parse : MethodName := ⟨RX6, "parse", "()Z"⟩
abbrev cX6_hasText : ByteArray := prog_8_method_6_code
def yX6_hasText : MethodName := ⟨RX6, "hasText", "()Z"⟩
abbrev cX6_wholeNumber : ByteArray := prog_8_method_7_code
def yX6_wholeNumber : MethodName := ⟨RX6, "wholeNumbe\x72", "()I"⟩
abbrev cX6_takes : ByteArray := prog_8_method_8_code
def yX6_takes : MethodName := ⟨RX6, "takes", "(C)Z"⟩
abbrev cX6_skipBlanks : ByteArray := prog_8_method_9_code
def yX6_skipBlanks : MethodName := ⟨RX6, "skipBlanks", "()V"⟩
abbrev cX6_nextIsDigit : ByteArray := prog_8_method_10_code
def yX6_nextIsDigit : MethodName := ⟨RX6, "nextIsDigit", "()Z"⟩
abbrev cX6_byteAt : ByteArray := prog_8_method_11_code
def yX6_byteAt : MethodName := ⟨RX6, "byteAt", "()I"⟩
def RX7 : String := "CommonDenominator$Told"
def TX7 : u_T := fun k => match k with
  | 0 => ("CommonDenominator$Told", "counts", "[I", true)
  | _ => ("CommonDenominator$Told", "latest", "I", false)
def tyX7 : Nat → FieldType := fun k => match k with
  | 0 => .array .int
  | _ => .int
abbrev cX7_init : ByteArray := prog_9_method_1_code
def yX7_init : MethodName := ⟨RX7, "<init>", "()V"⟩
abbrev cX7_refuse : ByteArray := prog_9_method_2_code
def yX7_refuse : MethodName := ⟨RX7, "refuse", "(I)I"⟩
abbrev cX7_pass : ByteArray := prog_9_method_3_code
def yX7_pass : MethodName := ⟨RX7, "pass", "(I)I"⟩
abbrev cX7_refusals : ByteArray := prog_9_method_4_code
def yX7_refusals : MethodName := ⟨RX7, "refusals", "(I)I"⟩
def RX8 : String := "CommonDenominator$Value"
def TX8 : u_T := fun k => match k with
  | 0 => ("CommonDenominator$Value", "a", "J", false)
  | 1 => ("CommonDenominator$Value", "b", "J", false)
  | 2 => ("CommonDenominator$Value", "c", "J", false)
  | _ => ("CommonDenominator$Value", "d", "J", false)
def tyX8 : Nat → FieldType := fun k => match k with
  | 0 => .long
  | 1 => .long
  | 2 => .long
  | _ => .long
abbrev cX8_init : ByteArray := prog_10_method_1_code
def yX8_init : MethodName := ⟨RX8, "<init>", "()V"⟩
abbrev cX8_put : ByteArray := prog_10_method_2_code
def yX8_put : MethodName := ⟨RX8, "put", "(JJJJ)V"⟩
abbrev cX8_putDouble : ByteArray := prog_10_method_3_code
def yX8_putDouble : MethodName := ⟨RX8, "putDouble", "(J)Z"⟩
abbrev cX8_copy : ByteArray := prog_10_method_4_code
def yX8_copy : MethodName := ⟨RX8, "copy", "(LCommonDenominator$Value;)V"⟩
abbrev cX8_load : ByteArray := prog_10_method_5_code
def yX8_load : MethodName := ⟨RX8, "load", "([II)V"⟩
abbrev cX8_save : ByteArray := prog_10_method_6_code
def yX8_save : MethodName := ⟨RX8, "save", "([II)V"⟩
abbrev cX8_takeOff : ByteArray := prog_10_method_7_code
def yX8_takeOff : MethodName := ⟨RX8, "takeOff", "(J)V"⟩
abbrev cX8_canBe : ByteArray := prog_10_method_8_code
def yX8_canBe : MethodName := ⟨RX8, "canBe", "()Z"⟩
abbrev cX8_isSmall : ByteArray := prog_10_method_9_code
def yX8_isSmall : MethodName := ⟨RX8, "isSmall", "(J)Z"⟩
abbrev cX8_isZero : ByteArray := prog_10_method_10_code
def yX8_isZero : MethodName := ⟨RX8, "isZero", "()Z"⟩
abbrev cX8_number : ByteArray := prog_10_method_11_code
def yX8_number : MethodName := ⟨RX8, "numbe\x72", "(I)I"⟩
def RX9 : String := "CommonDenominator$Word"
def TX9 : u_T := fun k => match k with
  | 0 => ("CommonDenominator$Word", "parts", "[B", true)
  | _ => ("CommonDenominator$Word", "length", "I", false)
def tyX9 : Nat → FieldType := fun k => match k with
  | 0 => .array .byte
  | _ => .int
abbrev cX9_init : ByteArray := prog_11_method_1_code
def yX9_init : MethodName := ⟨RX9, "<init>", "()V"⟩
abbrev cX9_add : ByteArray := prog_11_method_2_code
def yX9_add : MethodName := ⟨RX9, "add", "(III)V"⟩
abbrev cX9_copy : ByteArray := prog_11_method_3_code
def yX9_copy : MethodName := ⟨RX9, "copy", "(LCommonDenominator$Word;)V"⟩
abbrev cX9_part : ByteArray := prog_11_method_4_code
def yX9_part : MethodName := ⟨RX9, "part", "(II)I"⟩
abbrev cX9_spell : ByteArray := prog_11_method_5_code
def yX9_spell : MethodName := ⟨RX9, "spell", "(LCommonDenominator$Square;)V"⟩
abbrev cX9_isProper : ByteArray := prog_11_method_6_code
def yX9_isProper : MethodName := ⟨RX9, "isPrope\x72", "()Z"⟩
def RX10 : String := "CommonDenominato\x72"
def TX10 : u_T := fun k => match k with
  | 0 => ("CommonDenominato\x72", "field", "LCommonDenominator$Field;", true)
  | 1 => ("CommonDenominato\x72", "store", "[LCommonDenominator$Value;", true)
  | 2 => ("CommonDenominato\x72", "course", "LCommonDenominator$Course;", true)
  | 3 => ("CommonDenominato\x72", "word", "LCommonDenominator$Word;", true)
  | 4 => ("CommonDenominato\x72", "tape", "LCommonDenominator$Tape;", true)
  | 5 => ("CommonDenominato\x72", "past", "LCommonDenominator$Past;", true)
  | 6 => ("CommonDenominato\x72", "told", "LCommonDenominator$Told;", true)
  | 7 => ("CommonDenominato\x72", "way", "I", false)
  | 8 => ("CommonDenominato\x72", "pape\x72", "LCommonDenominator$Course;", true)
  | 9 => ("CommonDenominato\x72", "drawn", "LCommonDenominator$Field;", true)
  | 10 => ("CommonDenominato\x72", "square", "LCommonDenominator$Square;", true)
  | 11 => ("CommonDenominato\x72", "between", "LCommonDenominator$Bounds;", true)
  | 12 => ("CommonDenominato\x72", "first", "LCommonDenominator$Value;", true)
  | _ => ("CommonDenominato\x72", "second", "LCommonDenominator$Value;", true)
def tyX10 : Nat → FieldType := fun k => match k with
  | 0 => .object "CommonDenominator$Field"
  | 1 => .array (.object "CommonDenominator$Value")
  | 2 => .object "CommonDenominator$Course"
  | 3 => .object "CommonDenominator$Word"
  | 4 => .object "CommonDenominator$Tape"
  | 5 => .object "CommonDenominator$Past"
  | 6 => .object "CommonDenominator$Told"
  | 7 => .int
  | 8 => .object "CommonDenominator$Course"
  | 9 => .object "CommonDenominator$Field"
  | 10 => .object "CommonDenominator$Square"
  | 11 => .object "CommonDenominator$Bounds"
  | 12 => .object "CommonDenominator$Value"
  | _ => .object "CommonDenominator$Value"
abbrev cX10_init : ByteArray := prog_1_method_1_code
def yX10_init : MethodName := ⟨RX10, "<init>", "()V"⟩
abbrev cX10_field : ByteArray := prog_1_method_2_code
def yX10_field : MethodName := ⟨RX10, "field", "(III)I"⟩
abbrev cX10_way : ByteArray := prog_1_method_3_code
def yX10_way : MethodName := ⟨RX10, "way", "(I)I"⟩
abbrev cX10_set : ByteArray := prog_1_method_4_code
def yX10_set : MethodName := ⟨RX10, "set", "(IIIII)I"⟩
abbrev cX10_measure : ByteArray := prog_1_method_5_code
def yX10_measure : MethodName := ⟨RX10, "measure", "(IJ)I"⟩
abbrev cX10_combine : ByteArray := prog_1_method_6_code
def yX10_combine : MethodName := ⟨RX10, "combine", "(IIII)I"⟩
abbrev cX10_begin : ByteArray := prog_1_method_7_code
def yX10_begin : MethodName := ⟨RX10, "begin", "(II)I"⟩
abbrev cX10_step : ByteArray := prog_1_method_8_code
def yX10_step : MethodName := ⟨RX10, "step", "()I"⟩
abbrev cX10_go : ByteArray := prog_1_method_9_code
def yX10_go : MethodName := ⟨RX10, "go", "(I)I"⟩
abbrev cX10_keep : ByteArray := prog_1_method_10_code
def yX10_keep : MethodName := ⟨RX10, "keep", "(II)I"⟩
abbrev cX10_feed : ByteArray := prog_1_method_11_code
def yX10_feed : MethodName := ⟨RX10, "feed", "(IIIII)I"⟩
abbrev cX10_end : ByteArray := prog_1_method_12_code
def yX10_end : MethodName := ⟨RX10, "end", "(I)I"⟩
abbrev cX10_read : ByteArray := prog_1_method_13_code
def yX10_read : MethodName := ⟨RX10, "read", "()I"⟩
abbrev cX10_solve : ByteArray := prog_1_method_14_code
def yX10_solve : MethodName := ⟨RX10, "solve", "()I"⟩
abbrev cX10_fault : ByteArray := prog_1_method_15_code
def yX10_fault : MethodName := ⟨RX10, "fault", "()I"⟩
abbrev cX10_undo : ByteArray := prog_1_method_16_code
def yX10_undo : MethodName := ⟨RX10, "undo", "()I"⟩
abbrev cX10_image : ByteArray := prog_1_method_17_code
def yX10_image : MethodName := ⟨RX10, "image", "(I)I"⟩
abbrev cX10_back : ByteArray := prog_1_method_18_code
def yX10_back : MethodName := ⟨RX10, "back", "(I)I"⟩
abbrev cX10_value : ByteArray := prog_1_method_19_code
def yX10_value : MethodName := ⟨RX10, "value", "(II)I"⟩
abbrev cX10_matrix : ByteArray := prog_1_method_20_code
def yX10_matrix : MethodName := ⟨RX10, "matrix", "(III)J"⟩
abbrev cX10_norm : ByteArray := prog_1_method_21_code
def yX10_norm : MethodName := ⟨RX10, "norm", "(III)J"⟩
abbrev cX10_compare : ByteArray := prog_1_method_22_code
def yX10_compare : MethodName := ⟨RX10, "compare", "(II)I"⟩
abbrev cX10_state : ByteArray := prog_1_method_23_code
def yX10_state : MethodName := ⟨RX10, "state", "(IZI)I"⟩
abbrev cX10_digit : ByteArray := prog_1_method_24_code
def yX10_digit : MethodName := ⟨RX10, "digit", "(II)I"⟩
abbrev cX10_product : ByteArray := prog_1_method_25_code
def yX10_product : MethodName := ⟨RX10, "product", "(II)J"⟩
abbrev cX10_determinant : ByteArray := prog_1_method_26_code
def yX10_determinant : MethodName := ⟨RX10, "determinant", "()I"⟩
abbrev cX10_bounds : ByteArray := prog_1_method_27_code
def yX10_bounds : MethodName := ⟨RX10, "bounds", "(ZI)J"⟩
abbrev cX10_outer : ByteArray := prog_1_method_28_code
def yX10_outer : MethodName := ⟨RX10, "oute\x72", "(ZI)I"⟩
abbrev cX10_inverse : ByteArray := prog_1_method_29_code
def yX10_inverse : MethodName := ⟨RX10, "inverse", "(II)J"⟩
abbrev cX10_side : ByteArray := prog_1_method_30_code
def yX10_side : MethodName := ⟨RX10, "side", "(ZII)I"⟩
abbrev cX10_simplest : ByteArray := prog_1_method_31_code
def yX10_simplest : MethodName := ⟨RX10, "simplest", "(ZI)J"⟩
abbrev cX10_shared : ByteArray := prog_1_method_32_code
def yX10_shared : MethodName := ⟨RX10, "shared", "(I)J"⟩
abbrev cX10_period : ByteArray := prog_1_method_33_code
def yX10_period : MethodName := ⟨RX10, "period", "(I)I"⟩
abbrev cX10_round : ByteArray := prog_1_method_34_code
def yX10_round : MethodName := ⟨RX10, "round", "(II)J"⟩
abbrev cX10_unit : ByteArray := prog_1_method_35_code
def yX10_unit : MethodName := ⟨RX10, "unit", "(I)I"⟩
abbrev cX10_equation : ByteArray := prog_1_method_36_code
def yX10_equation : MethodName := ⟨RX10, "equation", "(I)J"⟩
abbrev cX10_isRelation : ByteArray := prog_1_method_37_code
def yX10_isRelation : MethodName := ⟨RX10, "isRelation", "(III)Z"⟩
abbrev cX10_relation : ByteArray := prog_1_method_38_code
def yX10_relation : MethodName := ⟨RX10, "relation", "(II)I"⟩
abbrev cX10_word : ByteArray := prog_1_method_39_code
def yX10_word : MethodName := ⟨RX10, "word", "(II)I"⟩
abbrev cX10_spelt : ByteArray := prog_1_method_40_code
def yX10_spelt : MethodName := ⟨RX10, "spelt", "(II)J"⟩
abbrev cX10_asks : ByteArray := prog_1_method_41_code
def yX10_asks : MethodName := ⟨RX10, "asks", "(I)I"⟩
abbrev cX10_would : ByteArray := prog_1_method_42_code
def yX10_would : MethodName := ⟨RX10, "would", "(IIII)I"⟩
abbrev cX10_count : ByteArray := prog_1_method_43_code
def yX10_count : MethodName := ⟨RX10, "count", "(I)I"⟩
abbrev cX10_status : ByteArray := prog_1_method_44_code
def yX10_status : MethodName := ⟨RX10, "status", "()I"⟩
abbrev cX10_note : ByteArray := prog_1_method_45_code
def yX10_note : MethodName := ⟨RX10, "note", "(I)V"⟩
abbrev cX10_renew : ByteArray := prog_1_method_46_code
def yX10_renew : MethodName := ⟨RX10, "renew", "(III)V"⟩
abbrev cX10_isWithin : ByteArray := prog_1_method_47_code
def yX10_isWithin : MethodName := ⟨RX10, "isWithin", "(II)Z"⟩
abbrev cX10_isStored : ByteArray := prog_1_method_48_code
def yX10_isStored : MethodName := ⟨RX10, "isStored", "(I)Z"⟩
abbrev cX10_stepsOrNone : ByteArray := prog_1_method_49_code
def yX10_stepsOrNone : MethodName := ⟨RX10, "stepsOrNone", "()I"⟩
abbrev cX10_join : ByteArray := prog_1_method_50_code
def yX10_join : MethodName := ⟨RX10, "join", "(ILCommonDenominator$Value;LCommonDenominator$Value;)V"⟩
abbrev cX10_solved : ByteArray := prog_1_method_51_code
def yX10_solved : MethodName := ⟨RX10, "solved", "()Z"⟩
abbrev cX10_hasBounds : ByteArray := prog_1_method_52_code
def yX10_hasBounds : MethodName := ⟨RX10, "hasBounds", "()Z"⟩
abbrev cX10_leastRelation : ByteArray := prog_1_method_53_code
def yX10_leastRelation : MethodName := ⟨RX10, "leastRelation", "(II)I"⟩
abbrev cX10_likeDigits : ByteArray := prog_1_method_54_code
def yX10_likeDigits : MethodName := ⟨RX10, "likeDigits", "()I"⟩
abbrev cX10_gcd : ByteArray := prog_1_method_55_code
def yX10_gcd : MethodName := ⟨RX10, "gcd", "(JJ)J"⟩
abbrev cX10_lowest : ByteArray := prog_1_method_56_code
def yX10_lowest : MethodName := ⟨RX10, "lowest", "(JJI)J"⟩
def RX11 : String := "CommonDenominatorModel"
def TX11 : u_T := fun k => match k with
  | 0 => ("CommonDenominatorModel", "thrown", "I", false)
  | 1 => ("CommonDenominatorModel", "now", "[I", true)
  | 2 => ("CommonDenominatorModel", "product", "[J", true)
  | 3 => ("CommonDenominatorModel", "way", "I", false)
  | 4 => ("CommonDenominatorModel", "status", "I", false)
  | 5 => ("CommonDenominatorModel", "refused", "[I", true)
  | 6 => ("CommonDenominatorModel", "kept", "[I", true)
  | 7 => ("CommonDenominatorModel", "keptWhat", "[I", true)
  | 8 => ("CommonDenominatorModel", "image", "[I", true)
  | 9 => ("CommonDenominatorModel", "keptProduct", "[J", true)
  | 10 => ("CommonDenominatorModel", "imageProduct", "[J", true)
  | 11 => ("CommonDenominatorModel", "isKept", "[Z", true)
  | 12 => ("CommonDenominatorModel", "keptMany", "I", false)
  | 13 => ("CommonDenominatorModel", "xa", "J", false)
  | 14 => ("CommonDenominatorModel", "xb", "J", false)
  | 15 => ("CommonDenominatorModel", "xc", "J", false)
  | 16 => ("CommonDenominatorModel", "xd", "J", false)
  | 17 => ("CommonDenominatorModel", "fu", "I", false)
  | 18 => ("CommonDenominatorModel", "fv", "I", false)
  | 19 => ("CommonDenominatorModel", "fa", "J", false)
  | 20 => ("CommonDenominatorModel", "fb", "J", false)
  | 21 => ("CommonDenominatorModel", "fc", "J", false)
  | 22 => ("CommonDenominatorModel", "fd", "J", false)
  | 23 => ("CommonDenominatorModel", "ga", "J", false)
  | 24 => ("CommonDenominatorModel", "gb", "J", false)
  | 25 => ("CommonDenominatorModel", "gc", "J", false)
  | 26 => ("CommonDenominatorModel", "gd", "J", false)
  | 27 => ("CommonDenominatorModel", "isTurned", "Z", false)
  | 28 => ("CommonDenominatorModel", "next", "[J", true)
  | 29 => ("CommonDenominatorModel", "isBeyond", "Z", false)
  | 30 => ("CommonDenominatorModel", "comes", "[I", true)
  | 31 => ("CommonDenominatorModel", "tape", "[I", true)
  | 32 => ("CommonDenominatorModel", "taped", "I", false)
  | 33 => ("CommonDenominatorModel", "fault", "I", false)
  | 34 => ("CommonDenominatorModel", "place", "I", false)
  | 35 => ("CommonDenominatorModel", "begin", "I", false)
  | 36 => ("CommonDenominatorModel", "fa\x72", "I", false)
  | 37 => ("CommonDenominatorModel", "token", "I", false)
  | 38 => ("CommonDenominatorModel", "byteOf", "I", false)
  | 39 => ("CommonDenominatorModel", "readDigits", "[I", true)
  | 40 => ("CommonDenominatorModel", "up", "J", false)
  | 41 => ("CommonDenominatorModel", "down", "J", false)
  | 42 => ("CommonDenominatorModel", "wholes", "[J", true)
  | 43 => ("CommonDenominatorModel", "round", "[J", true)
  | 44 => ("CommonDenominatorModel", "first", "[I", true)
  | 45 => ("CommonDenominatorModel", "lastOne", "[I", true)
  | 46 => ("CommonDenominatorModel", "aside", "[I", true)
  | _ => ("CommonDenominatorModel", "asideProduct", "[J", true)
def tyX11 : Nat → FieldType := fun k => match k with
  | 0 => .int
  | 1 => .array .int
  | 2 => .array .long
  | 3 => .int
  | 4 => .int
  | 5 => .array .int
  | 6 => .array .int
  | 7 => .array .int
  | 8 => .array .int
  | 9 => .array .long
  | 10 => .array .long
  | 11 => .array .boolean
  | 12 => .int
  | 13 => .long
  | 14 => .long
  | 15 => .long
  | 16 => .long
  | 17 => .int
  | 18 => .int
  | 19 => .long
  | 20 => .long
  | 21 => .long
  | 22 => .long
  | 23 => .long
  | 24 => .long
  | 25 => .long
  | 26 => .long
  | 27 => .boolean
  | 28 => .array .long
  | 29 => .boolean
  | 30 => .array .int
  | 31 => .array .int
  | 32 => .int
  | 33 => .int
  | 34 => .int
  | 35 => .int
  | 36 => .int
  | 37 => .int
  | 38 => .int
  | 39 => .array .int
  | 40 => .long
  | 41 => .long
  | 42 => .array .long
  | 43 => .array .long
  | 44 => .array .int
  | 45 => .array .int
  | 46 => .array .int
  | _ => .array .long
abbrev cX11_init : ByteArray := prog_13_method_1_code
def yX11_init : MethodName := ⟨RX11, "<init>", "()V"⟩
abbrev cX11_in : ByteArray := prog_13_method_3_code
def yX11_in : MethodName := ⟨RX11, "in", "(III)Z"⟩
abbrev cX11_no : ByteArray := prog_13_method_4_code
def yX11_no : MethodName := ⟨RX11, "no", "(I)I"⟩
abbrev cX11_yes : ByteArray := prog_13_method_5_code
def yX11_yes : MethodName := ⟨RX11, "yes", "(I)I"⟩
abbrev cX11_clears : ByteArray := prog_13_method_6_code
def yX11_clears : MethodName := ⟨RX11, "clears", "(III)V"⟩
abbrev cX11_keeps : ByteArray := prog_13_method_7_code
def yX11_keeps : MethodName := ⟨RX11, "keeps", "(I)V"⟩
abbrev cX11_comesBack : ByteArray := prog_13_method_8_code
def yX11_comesBack : MethodName := ⟨RX11, "comesBack", "()V"⟩
abbrev cX11_undo : ByteArray := prog_13_method_9_code
def yX11_undo : MethodName := ⟨RX11, "undo", "()I"⟩
abbrev cX11_stepsOrNone : ByteArray := prog_13_method_10_code
def yX11_stepsOrNone : MethodName := ⟨RX11, "stepsOrNone", "()I"⟩
abbrev cX11_image : ByteArray := prog_13_method_11_code
def yX11_image : MethodName := ⟨RX11, "image", "(I)I"⟩
abbrev cX11_back : ByteArray := prog_13_method_12_code
def yX11_back : MethodName := ⟨RX11, "back", "(I)I"⟩
abbrev cX11_e1 : ByteArray := prog_13_method_13_code
def yX11_e1 : MethodName := ⟨RX11, "e1", "()J"⟩
abbrev cX11_e2 : ByteArray := prog_13_method_14_code
def yX11_e2 : MethodName := ⟨RX11, "e2", "()J"⟩
abbrev cX11_e3 : ByteArray := prog_13_method_15_code
def yX11_e3 : MethodName := ⟨RX11, "e3", "()J"⟩
abbrev cX11_squares : ByteArray := prog_13_method_16_code
def yX11_squares : MethodName := ⟨RX11, "squares", "()J"⟩
abbrev cX11_mixed : ByteArray := prog_13_method_17_code
def yX11_mixed : MethodName := ⟨RX11, "mixed", "()J"⟩
abbrev cX11_pairs : ByteArray := prog_13_method_18_code
def yX11_pairs : MethodName := ⟨RX11, "pairs", "()J"⟩
abbrev cX11_traceOf : ByteArray := prog_13_method_19_code
def yX11_traceOf : MethodName := ⟨RX11, "traceOf", "(JJJ)J"⟩
abbrev cX11_secondOf : ByteArray := prog_13_method_20_code
def yX11_secondOf : MethodName := ⟨RX11, "secondOf", "(JJJ)J"⟩
abbrev cX11_normOf : ByteArray := prog_13_method_21_code
def yX11_normOf : MethodName := ⟨RX11, "normOf", "(JJJ)J"⟩
abbrev cX11_signOf : ByteArray := prog_13_method_22_code
def yX11_signOf : MethodName := ⟨RX11, "signOf", "(JJJ)I"⟩
abbrev cX11_floorOf : ByteArray := prog_13_method_23_code
def yX11_floorOf : MethodName := ⟨RX11, "floorOf", "(JJJJ)I"⟩
abbrev cX11_common : ByteArray := prog_13_method_24_code
def yX11_common : MethodName := ⟨RX11, "common", "(JJ)J"⟩
abbrev cX11_is : ByteArray := prog_13_method_25_code
def yX11_is : MethodName := ⟨RX11, "is", "(JJJJ)V"⟩
abbrev cX11_isSmall : ByteArray := prog_13_method_26_code
def yX11_isSmall : MethodName := ⟨RX11, "isSmall", "(J)Z"⟩
abbrev cX11_canBe : ByteArray := prog_13_method_27_code
def yX11_canBe : MethodName := ⟨RX11, "canBe", "()Z"⟩
abbrev cX11_multiplies : ByteArray := prog_13_method_28_code
def yX11_multiplies : MethodName := ⟨RX11, "multiplies", "(JJJJJJJ)V"⟩
abbrev cX11_divides : ByteArray := prog_13_method_29_code
def yX11_divides : MethodName := ⟨RX11, "divides", "(JJJJJJJJ)V"⟩
abbrev cX11_xaAll : ByteArray := prog_13_method_30_code
def yX11_xaAll : MethodName := ⟨RX11, "xaAll", "(J)J"⟩
abbrev cX11_xbAll : ByteArray := prog_13_method_31_code
def yX11_xbAll : MethodName := ⟨RX11, "xbAll", "(J)J"⟩
abbrev cX11_xcAll : ByteArray := prog_13_method_32_code
def yX11_xcAll : MethodName := ⟨RX11, "xcAll", "(J)J"⟩
abbrev cX11_isStore : ByteArray := prog_13_method_33_code
def yX11_isStore : MethodName := ⟨RX11, "isStore", "(I)Z"⟩
abbrev cX11_at : ByteArray := prog_13_method_34_code
def yX11_at : MethodName := ⟨RX11, "at", "(II)I"⟩
abbrev cX11_lays : ByteArray := prog_13_method_35_code
def yX11_lays : MethodName := ⟨RX11, "lays", "(I)I"⟩
abbrev cX11_discriminantOf : ByteArray := prog_13_method_36_code
def yX11_discriminantOf : MethodName := ⟨RX11, "discriminantOf", "(III)I"⟩
abbrev cX11_isField : ByteArray := prog_13_method_37_code
def yX11_isField : MethodName := ⟨RX11, "isField", "(III)Z"⟩
abbrev cX11_field : ByteArray := prog_13_method_38_code
def yX11_field : MethodName := ⟨RX11, "field", "(III)I"⟩
abbrev cX11_way : ByteArray := prog_13_method_39_code
def yX11_way : MethodName := ⟨RX11, "way", "(I)I"⟩
abbrev cX11_set : ByteArray := prog_13_method_40_code
def yX11_set : MethodName := ⟨RX11, "set", "(IIIII)I"⟩
abbrev cX11_measure : ByteArray := prog_13_method_41_code
def yX11_measure : MethodName := ⟨RX11, "measure", "(IJ)I"⟩
abbrev cX11_combines : ByteArray := prog_13_method_42_code
def yX11_combines : MethodName := ⟨RX11, "combines", "(III)V"⟩
abbrev cX11_isNought : ByteArray := prog_13_method_43_code
def yX11_isNought : MethodName := ⟨RX11, "isNought", "(I)Z"⟩
abbrev cX11_combine : ByteArray := prog_13_method_44_code
def yX11_combine : MethodName := ⟨RX11, "combine", "(IIII)I"⟩
abbrev cX11_stateAt : ByteArray := prog_13_method_45_code
def yX11_stateAt : MethodName := ⟨RX11, "stateAt", "(II)I"⟩
abbrev cX11_floorAt : ByteArray := prog_13_method_46_code
def yX11_floorAt : MethodName := ⟨RX11, "floorAt", "(II)I"⟩
abbrev cX11_canBegin : ByteArray := prog_13_method_47_code
def yX11_canBegin : MethodName := ⟨RX11, "canBegin", "(II)Z"⟩
abbrev cX11_begins : ByteArray := prog_13_method_48_code
def yX11_begins : MethodName := ⟨RX11, "begins", "(III)V"⟩
abbrev cX11_begin : ByteArray := prog_13_method_49_code
def yX11_begin : MethodName := ⟨RX11, "begin", "(II)I"⟩
abbrev cX11_parts : ByteArray := prog_13_method_50_code
def yX11_parts : MethodName := ⟨RX11, "parts", "()V"⟩
abbrev cX11_ends : ByteArray := prog_13_method_51_code
def yX11_ends : MethodName := ⟨RX11, "ends", "()Z"⟩
abbrev cX11_plus : ByteArray := prog_13_method_52_code
def yX11_plus : MethodName := ⟨RX11, "plus", "(JJ)J"⟩
abbrev cX11_times : ByteArray := prog_13_method_53_code
def yX11_times : MethodName := ⟨RX11, "times", "(JJ)J"⟩
abbrev cX11_squared : ByteArray := prog_13_method_54_code
def yX11_squared : MethodName := ⟨RX11, "squared", "([JIII)V"⟩
abbrev cX11_isNext : ByteArray := prog_13_method_55_code
def yX11_isNext : MethodName := ⟨RX11, "isNext", "(I)Z"⟩
abbrev cX11_tries : ByteArray := prog_13_method_56_code
def yX11_tries : MethodName := ⟨RX11, "tries", "()Z"⟩
abbrev cX11_does : ByteArray := prog_13_method_57_code
def yX11_does : MethodName := ⟨RX11, "does", "()V"⟩
abbrev cX11_areAlike : ByteArray := prog_13_method_58_code
def yX11_areAlike : MethodName := ⟨RX11, "areAlike", "(II)Z"⟩
abbrev cX11_looksBack : ByteArray := prog_13_method_59_code
def yX11_looksBack : MethodName := ⟨RX11, "looksBack", "()V"⟩
abbrev cX11_step : ByteArray := prog_13_method_60_code
def yX11_step : MethodName := ⟨RX11, "step", "()I"⟩
abbrev cX11_go : ByteArray := prog_13_method_61_code
def yX11_go : MethodName := ⟨RX11, "go", "(I)I"⟩
abbrev cX11_keep : ByteArray := prog_13_method_62_code
def yX11_keep : MethodName := ⟨RX11, "keep", "(II)I"⟩
abbrev cX11_lays4 : ByteArray := prog_13_method_63_code
def yX11_lays4 : MethodName := ⟨RX11, "lays4", "(I)V"⟩
abbrev cX11_feed : ByteArray := prog_13_method_64_code
def yX11_feed : MethodName := ⟨RX11, "feed", "(IIIII)I"⟩
abbrev cX11_end : ByteArray := prog_13_method_65_code
def yX11_end : MethodName := ⟨RX11, "end", "(I)I"⟩
abbrev cX11_isFigure : ByteArray := prog_13_method_66_code
def yX11_isFigure : MethodName := ⟨RX11, "isFigure", "()Z"⟩
abbrev cX11_reads : ByteArray := prog_13_method_67_code
def yX11_reads : MethodName := ⟨RX11, "reads", "()V"⟩
abbrev cX11_isWhole : ByteArray := prog_13_method_68_code
def yX11_isWhole : MethodName := ⟨RX11, "isWhole", "()Z"⟩
abbrev cX11_readsOne : ByteArray := prog_13_method_69_code
def yX11_readsOne : MethodName := ⟨RX11, "readsOne", "(I)Z"⟩
abbrev cX11_readsAll : ByteArray := prog_13_method_70_code
def yX11_readsAll : MethodName := ⟨RX11, "readsAll", "()I"⟩
abbrev cX11_read : ByteArray := prog_13_method_71_code
def yX11_read : MethodName := ⟨RX11, "read", "()I"⟩
abbrev cX11_fault : ByteArray := prog_13_method_72_code
def yX11_fault : MethodName := ⟨RX11, "fault", "()I"⟩
abbrev cX11_value : ByteArray := prog_13_method_73_code
def yX11_value : MethodName := ⟨RX11, "value", "(II)I"⟩
abbrev cX11_matrix : ByteArray := prog_13_method_74_code
def yX11_matrix : MethodName := ⟨RX11, "matrix", "(III)J"⟩
abbrev cX11_norm : ByteArray := prog_13_method_75_code
def yX11_norm : MethodName := ⟨RX11, "norm", "(III)J"⟩
abbrev cX11_compare : ByteArray := prog_13_method_76_code
def yX11_compare : MethodName := ⟨RX11, "compare", "(II)I"⟩
abbrev cX11_state : ByteArray := prog_13_method_77_code
def yX11_state : MethodName := ⟨RX11, "state", "(IZI)I"⟩
abbrev cX11_digit : ByteArray := prog_13_method_78_code
def yX11_digit : MethodName := ⟨RX11, "digit", "(II)I"⟩
abbrev cX11_product : ByteArray := prog_13_method_79_code
def yX11_product : MethodName := ⟨RX11, "product", "(II)J"⟩
abbrev cX11_turnedIn : ByteArray := prog_13_method_80_code
def yX11_turnedIn : MethodName := ⟨RX11, "turnedIn", "(II)I"⟩
abbrev cX11_evenOrOdd : ByteArray := prog_13_method_81_code
def yX11_evenOrOdd : MethodName := ⟨RX11, "evenOrOdd", "(I)I"⟩
abbrev cX11_determinant : ByteArray := prog_13_method_82_code
def yX11_determinant : MethodName := ⟨RX11, "determinant", "()I"⟩
abbrev cX11_areBounds : ByteArray := prog_13_method_83_code
def yX11_areBounds : MethodName := ⟨RX11, "areBounds", "()Z"⟩
abbrev cX11_isBelow : ByteArray := prog_13_method_84_code
def yX11_isBelow : MethodName := ⟨RX11, "isBelow", "(JJJJ)Z"⟩
abbrev cX11_outerOf : ByteArray := prog_13_method_85_code
def yX11_outerOf : MethodName := ⟨RX11, "outerOf", "(II)I"⟩
abbrev cX11_bounds : ByteArray := prog_13_method_86_code
def yX11_bounds : MethodName := ⟨RX11, "bounds", "(ZI)J"⟩
abbrev cX11_outer : ByteArray := prog_13_method_87_code
def yX11_outer : MethodName := ⟨RX11, "oute\x72", "(ZI)I"⟩
abbrev cX11_isWithinBillion : ByteArray := prog_13_method_88_code
def yX11_isWithinBillion : MethodName := ⟨RX11, "isWithinBillion", "()Z"⟩
abbrev cX11_other : ByteArray := prog_13_method_89_code
def yX11_other : MethodName := ⟨RX11, "othe\x72", "(II)J"⟩
abbrev cX11_inverse : ByteArray := prog_13_method_90_code
def yX11_inverse : MethodName := ⟨RX11, "inverse", "(II)J"⟩
abbrev cX11_side : ByteArray := prog_13_method_91_code
def yX11_side : MethodName := ⟨RX11, "side", "(ZII)I"⟩
abbrev cX11_laysSimplest : ByteArray := prog_13_method_92_code
def yX11_laysSimplest : MethodName := ⟨RX11, "laysSimplest", "(I)V"⟩
abbrev cX11_simplest : ByteArray := prog_13_method_93_code
def yX11_simplest : MethodName := ⟨RX11, "simplest", "(ZI)J"⟩
abbrev cX11_areSmall : ByteArray := prog_13_method_94_code
def yX11_areSmall : MethodName := ⟨RX11, "areSmall", "(I)Z"⟩
abbrev cX11_wholeBy : ByteArray := prog_13_method_95_code
def yX11_wholeBy : MethodName := ⟨RX11, "wholeBy", "(IJ)J"⟩
abbrev cX11_shared : ByteArray := prog_13_method_96_code
def yX11_shared : MethodName := ⟨RX11, "shared", "(I)J"⟩
abbrev cX11_isPeriod : ByteArray := prog_13_method_97_code
def yX11_isPeriod : MethodName := ⟨RX11, "isPeriod", "()Z"⟩
abbrev cX11_period : ByteArray := prog_13_method_98_code
def yX11_period : MethodName := ⟨RX11, "period", "(I)I"⟩
abbrev cX11_begins1 : ByteArray := prog_13_method_99_code
def yX11_begins1 : MethodName := ⟨RX11, "begins1", "()V"⟩
abbrev cX11_rounds : ByteArray := prog_13_method_100_code
def yX11_rounds : MethodName := ⟨RX11, "rounds", "(I)V"⟩
abbrev cX11_laysRound : ByteArray := prog_13_method_101_code
def yX11_laysRound : MethodName := ⟨RX11, "laysRound", "()Z"⟩
abbrev cX11_round : ByteArray := prog_13_method_102_code
def yX11_round : MethodName := ⟨RX11, "round", "(II)J"⟩
abbrev cX11_isGreat : ByteArray := prog_13_method_103_code
def yX11_isGreat : MethodName := ⟨RX11, "isGreat", "(II)Z"⟩
abbrev cX11_isUnit : ByteArray := prog_13_method_104_code
def yX11_isUnit : MethodName := ⟨RX11, "isUnit", "()Z"⟩
abbrev cX11_unit : ByteArray := prog_13_method_105_code
def yX11_unit : MethodName := ⟨RX11, "unit", "(I)I"⟩
abbrev cX11_minor : ByteArray := prog_13_method_106_code
def yX11_minor : MethodName := ⟨RX11, "mino\x72", "(II)J"⟩
abbrev cX11_equation : ByteArray := prog_13_method_107_code
def yX11_equation : MethodName := ⟨RX11, "equation", "(I)J"⟩
abbrev cX11_isNone : ByteArray := prog_13_method_108_code
def yX11_isNone : MethodName := ⟨RX11, "isNone", "(III)Z"⟩
abbrev cX11_isRelation : ByteArray := prog_13_method_109_code
def yX11_isRelation : MethodName := ⟨RX11, "isRelation", "(III)Z"⟩
abbrev cX11_size : ByteArray := prog_13_method_110_code
def yX11_size : MethodName := ⟨RX11, "size", "(I)I"⟩
abbrev cX11_relation : ByteArray := prog_13_method_111_code
def yX11_relation : MethodName := ⟨RX11, "relation", "(II)I"⟩
abbrev cX11_word : ByteArray := prog_13_method_112_code
def yX11_word : MethodName := ⟨RX11, "word", "(II)I"⟩
abbrev cX11_spelt : ByteArray := prog_13_method_113_code
def yX11_spelt : MethodName := ⟨RX11, "spelt", "(II)J"⟩
abbrev cX11_isProper : ByteArray := prog_13_method_114_code
def yX11_isProper : MethodName := ⟨RX11, "isPrope\x72", "()Z"⟩
abbrev cX11_isAsStep : ByteArray := prog_13_method_115_code
def yX11_isAsStep : MethodName := ⟨RX11, "isAsStep", "(I)Z"⟩
abbrev cX11_asks : ByteArray := prog_13_method_116_code
def yX11_asks : MethodName := ⟨RX11, "asks", "(I)I"⟩
abbrev cX11_refusesField : ByteArray := prog_13_method_117_code
def yX11_refusesField : MethodName := ⟨RX11, "refusesField", "(III)I"⟩
abbrev cX11_isSolved : ByteArray := prog_13_method_118_code
def yX11_isSolved : MethodName := ⟨RX11, "isSolved", "()Z"⟩
abbrev cX11_laysSquares : ByteArray := prog_13_method_119_code
def yX11_laysSquares : MethodName := ⟨RX11, "laysSquares", "()Z"⟩
abbrev cX11_turnedInWord : ByteArray := prog_13_method_120_code
def yX11_turnedInWord : MethodName := ⟨RX11, "turnedInWord", "()I"⟩
abbrev cX11_solve : ByteArray := prog_13_method_121_code
def yX11_solve : MethodName := ⟨RX11, "solve", "()I"⟩
abbrev cX11_second : ByteArray := prog_13_method_122_code
def yX11_second : MethodName := ⟨RX11, "second", "(IIII)V"⟩
abbrev cX11_goesOn : ByteArray := prog_13_method_123_code
def yX11_goesOn : MethodName := ⟨RX11, "goesOn", "()I"⟩
abbrev cX11_would : ByteArray := prog_13_method_124_code
def yX11_would : MethodName := ⟨RX11, "would", "(IIII)I"⟩
abbrev cX11_count : ByteArray := prog_13_method_125_code
def yX11_count : MethodName := ⟨RX11, "count", "(I)I"⟩
abbrev cX11_status : ByteArray := prog_13_method_126_code
def yX11_status : MethodName := ⟨RX11, "status", "()I"⟩
def RJ9 : String := "java/lang/Math"
abbrev cJ9_floorDiv_f86c9 : ByteArray := prog_14_method_49_code
def yJ9_floorDiv_f86c9 : MethodName := ⟨RJ9, "floorDiv", "(JJ)J"⟩
abbrev cJ9_floorMod_7cf53 : ByteArray := prog_14_method_50_code
def yJ9_floorMod_7cf53 : MethodName := ⟨RJ9, "floorMod", "(II)I"⟩
abbrev cJ9_floorMod_f86c9 : ByteArray := prog_14_method_52_code
def yJ9_floorMod_f86c9 : MethodName := ⟨RJ9, "floorMod", "(JJ)J"⟩
abbrev cJ9_abs_0f7a4 : ByteArray := prog_14_method_59_code
def yJ9_abs_0f7a4 : MethodName := ⟨RJ9, "abs", "(I)I"⟩
abbrev cJ9_min_7cf53 : ByteArray := prog_14_method_69_code
def yJ9_min_7cf53 : MethodName := ⟨RJ9, "min", "(II)I"⟩
def RJ10 : String := "java/lang/System"
def RL : String := "CommonDenominatorLaw"
abbrev cL_law : ByteArray := code
def yL_law : MethodName := ⟨RL, "law", "([I)Z"⟩
end
