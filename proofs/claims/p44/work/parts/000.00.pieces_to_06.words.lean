noncomputable section
-- PART 00.pieces
-- THE TABLES IN PIECES
theorem ip_xt1 {w : Cond} (h : w ∈ tables_1_1) : w ∈ tables_1 := (List.mem_append_left _ h)
theorem ip_xt2 {w : Cond} (h : w ∈ tables_1_2) : w ∈ tables_1 := (List.mem_append_right _ (List.mem_append_left _ h))
theorem ip_xt3 {w : Cond} (h : w ∈ tables_1_3) : w ∈ tables_1 := (List.mem_append_right _ (List.mem_append_right _ (List.mem_append_left _ h)))
theorem ip_xt4 {w : Cond} (h : w ∈ tables_1_4) : w ∈ tables_1 := (List.mem_append_right _ (List.mem_append_right _ (List.mem_append_right _ (List.mem_append_left _ h))))
theorem ip_xt5 {w : Cond} (h : w ∈ tables_1_5) : w ∈ tables_1 := (List.mem_append_right _ (List.mem_append_right _ (List.mem_append_right _ (List.mem_append_right _ (List.mem_append_left _ h)))))
theorem ip_xt6 {w : Cond} (h : w ∈ tables_1_6) : w ∈ tables_1 := (List.mem_append_right _ (List.mem_append_right _ (List.mem_append_right _ (List.mem_append_right _ (List.mem_append_right _ (List.mem_append_left _ h))))))
theorem ip_xt7 {w : Cond} (h : w ∈ tables_1_7) : w ∈ tables_1 := (List.mem_append_right _ (List.mem_append_right _ (List.mem_append_right _ (List.mem_append_right _ (List.mem_append_right _ (List.mem_append_right _ (List.mem_append_left _ h)))))))
theorem ip_xt8 {w : Cond} (h : w ∈ tables_1_8) : w ∈ tables_1 := (List.mem_append_right _ (List.mem_append_right _ (List.mem_append_right _ (List.mem_append_right _ (List.mem_append_right _ (List.mem_append_right _ (List.mem_append_right _ h)))))))
set_option maxRecDepth 100000 in
noncomputable def ip_u1_0 : { l : List Cond // l = (tables_1_1.drop 0).take 32 } := by
  refine ⟨?l, ?h⟩
  case h =>
    unfold tables_1_1
    simp only [List.drop_succ_cons, List.drop_zero, List.take_succ_cons, List.take_zero, List.take_nil]
    exact rfl
theorem ip_v1_0 {w : Cond} (h : w ∈ ip_u1_0.1) : w ∈ tables_1_1 := List.mem_of_mem_drop (List.mem_of_mem_take (ip_u1_0.2 ▸ h))
set_option maxRecDepth 100000 in
noncomputable def ip_u1_1 : { l : List Cond // l = (tables_1_1.drop 32).take 32 } := by
  refine ⟨?l, ?h⟩
  case h =>
    unfold tables_1_1
    simp only [List.drop_succ_cons, List.drop_zero, List.take_succ_cons, List.take_zero, List.take_nil]
    exact rfl
theorem ip_v1_1 {w : Cond} (h : w ∈ ip_u1_1.1) : w ∈ tables_1_1 := List.mem_of_mem_drop (List.mem_of_mem_take (ip_u1_1.2 ▸ h))
set_option maxRecDepth 100000 in
noncomputable def ip_u1_2 : { l : List Cond // l = (tables_1_1.drop 64).take 32 } := by
  refine ⟨?l, ?h⟩
  case h =>
    unfold tables_1_1
    simp only [List.drop_succ_cons, List.drop_zero, List.take_succ_cons, List.take_zero, List.take_nil]
    exact rfl
theorem ip_v1_2 {w : Cond} (h : w ∈ ip_u1_2.1) : w ∈ tables_1_1 := List.mem_of_mem_drop (List.mem_of_mem_take (ip_u1_2.2 ▸ h))
set_option maxRecDepth 100000 in
noncomputable def ip_u1_3 : { l : List Cond // l = (tables_1_1.drop 96).take 32 } := by
  refine ⟨?l, ?h⟩
  case h =>
    unfold tables_1_1
    simp only [List.drop_succ_cons, List.drop_zero, List.take_succ_cons, List.take_zero, List.take_nil]
    exact rfl
theorem ip_v1_3 {w : Cond} (h : w ∈ ip_u1_3.1) : w ∈ tables_1_1 := List.mem_of_mem_drop (List.mem_of_mem_take (ip_u1_3.2 ▸ h))
set_option maxRecDepth 100000 in
noncomputable def ip_u1_4 : { l : List Cond // l = (tables_1_1.drop 128).take 32 } := by
  refine ⟨?l, ?h⟩
  case h =>
    unfold tables_1_1
    simp only [List.drop_succ_cons, List.drop_zero, List.take_succ_cons, List.take_zero, List.take_nil]
    exact rfl
theorem ip_v1_4 {w : Cond} (h : w ∈ ip_u1_4.1) : w ∈ tables_1_1 := List.mem_of_mem_drop (List.mem_of_mem_take (ip_u1_4.2 ▸ h))
set_option maxRecDepth 100000 in
noncomputable def ip_u1_5 : { l : List Cond // l = (tables_1_1.drop 160).take 32 } := by
  refine ⟨?l, ?h⟩
  case h =>
    unfold tables_1_1
    simp only [List.drop_succ_cons, List.drop_zero, List.take_succ_cons, List.take_zero, List.take_nil]
    exact rfl
theorem ip_v1_5 {w : Cond} (h : w ∈ ip_u1_5.1) : w ∈ tables_1_1 := List.mem_of_mem_drop (List.mem_of_mem_take (ip_u1_5.2 ▸ h))
set_option maxRecDepth 100000 in
noncomputable def ip_u1_6 : { l : List Cond // l = (tables_1_1.drop 192).take 32 } := by
  refine ⟨?l, ?h⟩
  case h =>
    unfold tables_1_1
    simp only [List.drop_succ_cons, List.drop_zero, List.take_succ_cons, List.take_zero, List.take_nil]
    exact rfl
theorem ip_v1_6 {w : Cond} (h : w ∈ ip_u1_6.1) : w ∈ tables_1_1 := List.mem_of_mem_drop (List.mem_of_mem_take (ip_u1_6.2 ▸ h))
set_option maxRecDepth 100000 in
noncomputable def ip_u1_7 : { l : List Cond // l = (tables_1_1.drop 224).take 32 } := by
  refine ⟨?l, ?h⟩
  case h =>
    unfold tables_1_1
    simp only [List.drop_succ_cons, List.drop_zero, List.take_succ_cons, List.take_zero, List.take_nil]
    exact rfl
theorem ip_v1_7 {w : Cond} (h : w ∈ ip_u1_7.1) : w ∈ tables_1_1 := List.mem_of_mem_drop (List.mem_of_mem_take (ip_u1_7.2 ▸ h))
set_option maxRecDepth 100000 in
noncomputable def ip_u2_0 : { l : List Cond // l = (tables_1_2.drop 0).take 32 } := by
  refine ⟨?l, ?h⟩
  case h =>
    unfold tables_1_2
    simp only [List.drop_succ_cons, List.drop_zero, List.take_succ_cons, List.take_zero, List.take_nil]
    exact rfl
theorem ip_v2_0 {w : Cond} (h : w ∈ ip_u2_0.1) : w ∈ tables_1_2 := List.mem_of_mem_drop (List.mem_of_mem_take (ip_u2_0.2 ▸ h))
set_option maxRecDepth 100000 in
noncomputable def ip_u2_1 : { l : List Cond // l = (tables_1_2.drop 32).take 32 } := by
  refine ⟨?l, ?h⟩
  case h =>
    unfold tables_1_2
    simp only [List.drop_succ_cons, List.drop_zero, List.take_succ_cons, List.take_zero, List.take_nil]
    exact rfl
theorem ip_v2_1 {w : Cond} (h : w ∈ ip_u2_1.1) : w ∈ tables_1_2 := List.mem_of_mem_drop (List.mem_of_mem_take (ip_u2_1.2 ▸ h))
set_option maxRecDepth 100000 in
noncomputable def ip_u2_2 : { l : List Cond // l = (tables_1_2.drop 64).take 32 } := by
  refine ⟨?l, ?h⟩
  case h =>
    unfold tables_1_2
    simp only [List.drop_succ_cons, List.drop_zero, List.take_succ_cons, List.take_zero, List.take_nil]
    exact rfl
theorem ip_v2_2 {w : Cond} (h : w ∈ ip_u2_2.1) : w ∈ tables_1_2 := List.mem_of_mem_drop (List.mem_of_mem_take (ip_u2_2.2 ▸ h))
set_option maxRecDepth 100000 in
noncomputable def ip_u2_3 : { l : List Cond // l = (tables_1_2.drop 96).take 32 } := by
  refine ⟨?l, ?h⟩
  case h =>
    unfold tables_1_2
    simp only [List.drop_succ_cons, List.drop_zero, List.take_succ_cons, List.take_zero, List.take_nil]
    exact rfl
theorem ip_v2_3 {w : Cond} (h : w ∈ ip_u2_3.1) : w ∈ tables_1_2 := List.mem_of_mem_drop (List.mem_of_mem_take (ip_u2_3.2 ▸ h))
set_option maxRecDepth 100000 in
noncomputable def ip_u2_4 : { l : List Cond // l = (tables_1_2.drop 128).take 32 } := by
  refine ⟨?l, ?h⟩
  case h =>
    unfold tables_1_2
    simp only [List.drop_succ_cons, List.drop_zero, List.take_succ_cons, List.take_zero, List.take_nil]
    exact rfl
theorem ip_v2_4 {w : Cond} (h : w ∈ ip_u2_4.1) : w ∈ tables_1_2 := List.mem_of_mem_drop (List.mem_of_mem_take (ip_u2_4.2 ▸ h))
set_option maxRecDepth 100000 in
noncomputable def ip_u2_5 : { l : List Cond // l = (tables_1_2.drop 160).take 32 } := by
  refine ⟨?l, ?h⟩
  case h =>
    unfold tables_1_2
    simp only [List.drop_succ_cons, List.drop_zero, List.take_succ_cons, List.take_zero, List.take_nil]
    exact rfl
theorem ip_v2_5 {w : Cond} (h : w ∈ ip_u2_5.1) : w ∈ tables_1_2 := List.mem_of_mem_drop (List.mem_of_mem_take (ip_u2_5.2 ▸ h))
set_option maxRecDepth 100000 in
noncomputable def ip_u2_6 : { l : List Cond // l = (tables_1_2.drop 192).take 32 } := by
  refine ⟨?l, ?h⟩
  case h =>
    unfold tables_1_2
    simp only [List.drop_succ_cons, List.drop_zero, List.take_succ_cons, List.take_zero, List.take_nil]
    exact rfl
theorem ip_v2_6 {w : Cond} (h : w ∈ ip_u2_6.1) : w ∈ tables_1_2 := List.mem_of_mem_drop (List.mem_of_mem_take (ip_u2_6.2 ▸ h))
set_option maxRecDepth 100000 in
noncomputable def ip_u2_7 : { l : List Cond // l = (tables_1_2.drop 224).take 32 } := by
  refine ⟨?l, ?h⟩
  case h =>
    unfold tables_1_2
    simp only [List.drop_succ_cons, List.drop_zero, List.take_succ_cons, List.take_zero, List.take_nil]
    exact rfl
theorem ip_v2_7 {w : Cond} (h : w ∈ ip_u2_7.1) : w ∈ tables_1_2 := List.mem_of_mem_drop (List.mem_of_mem_take (ip_u2_7.2 ▸ h))
set_option maxRecDepth 100000 in
noncomputable def ip_u3_0 : { l : List Cond // l = (tables_1_3.drop 0).take 32 } := by
  refine ⟨?l, ?h⟩
  case h =>
    unfold tables_1_3
    simp only [List.drop_succ_cons, List.drop_zero, List.take_succ_cons, List.take_zero, List.take_nil]
    exact rfl
theorem ip_v3_0 {w : Cond} (h : w ∈ ip_u3_0.1) : w ∈ tables_1_3 := List.mem_of_mem_drop (List.mem_of_mem_take (ip_u3_0.2 ▸ h))
set_option maxRecDepth 100000 in
noncomputable def ip_u3_1 : { l : List Cond // l = (tables_1_3.drop 32).take 32 } := by
  refine ⟨?l, ?h⟩
  case h =>
    unfold tables_1_3
    simp only [List.drop_succ_cons, List.drop_zero, List.take_succ_cons, List.take_zero, List.take_nil]
    exact rfl
theorem ip_v3_1 {w : Cond} (h : w ∈ ip_u3_1.1) : w ∈ tables_1_3 := List.mem_of_mem_drop (List.mem_of_mem_take (ip_u3_1.2 ▸ h))
set_option maxRecDepth 100000 in
noncomputable def ip_u3_2 : { l : List Cond // l = (tables_1_3.drop 64).take 32 } := by
  refine ⟨?l, ?h⟩
  case h =>
    unfold tables_1_3
    simp only [List.drop_succ_cons, List.drop_zero, List.take_succ_cons, List.take_zero, List.take_nil]
    exact rfl
theorem ip_v3_2 {w : Cond} (h : w ∈ ip_u3_2.1) : w ∈ tables_1_3 := List.mem_of_mem_drop (List.mem_of_mem_take (ip_u3_2.2 ▸ h))
set_option maxRecDepth 100000 in
noncomputable def ip_u3_3 : { l : List Cond // l = (tables_1_3.drop 96).take 32 } := by
  refine ⟨?l, ?h⟩
  case h =>
    unfold tables_1_3
    simp only [List.drop_succ_cons, List.drop_zero, List.take_succ_cons, List.take_zero, List.take_nil]
    exact rfl
theorem ip_v3_3 {w : Cond} (h : w ∈ ip_u3_3.1) : w ∈ tables_1_3 := List.mem_of_mem_drop (List.mem_of_mem_take (ip_u3_3.2 ▸ h))
set_option maxRecDepth 100000 in
noncomputable def ip_u3_4 : { l : List Cond // l = (tables_1_3.drop 128).take 32 } := by
  refine ⟨?l, ?h⟩
  case h =>
    unfold tables_1_3
    simp only [List.drop_succ_cons, List.drop_zero, List.take_succ_cons, List.take_zero, List.take_nil]
    exact rfl
theorem ip_v3_4 {w : Cond} (h : w ∈ ip_u3_4.1) : w ∈ tables_1_3 := List.mem_of_mem_drop (List.mem_of_mem_take (ip_u3_4.2 ▸ h))
set_option maxRecDepth 100000 in
noncomputable def ip_u3_5 : { l : List Cond // l = (tables_1_3.drop 160).take 32 } := by
  refine ⟨?l, ?h⟩
  case h =>
    unfold tables_1_3
    simp only [List.drop_succ_cons, List.drop_zero, List.take_succ_cons, List.take_zero, List.take_nil]
    exact rfl
theorem ip_v3_5 {w : Cond} (h : w ∈ ip_u3_5.1) : w ∈ tables_1_3 := List.mem_of_mem_drop (List.mem_of_mem_take (ip_u3_5.2 ▸ h))
set_option maxRecDepth 100000 in
noncomputable def ip_u3_6 : { l : List Cond // l = (tables_1_3.drop 192).take 32 } := by
  refine ⟨?l, ?h⟩
  case h =>
    unfold tables_1_3
    simp only [List.drop_succ_cons, List.drop_zero, List.take_succ_cons, List.take_zero, List.take_nil]
    exact rfl
theorem ip_v3_6 {w : Cond} (h : w ∈ ip_u3_6.1) : w ∈ tables_1_3 := List.mem_of_mem_drop (List.mem_of_mem_take (ip_u3_6.2 ▸ h))
set_option maxRecDepth 100000 in
noncomputable def ip_u3_7 : { l : List Cond // l = (tables_1_3.drop 224).take 32 } := by
  refine ⟨?l, ?h⟩
  case h =>
    unfold tables_1_3
    simp only [List.drop_succ_cons, List.drop_zero, List.take_succ_cons, List.take_zero, List.take_nil]
    exact rfl
theorem ip_v3_7 {w : Cond} (h : w ∈ ip_u3_7.1) : w ∈ tables_1_3 := List.mem_of_mem_drop (List.mem_of_mem_take (ip_u3_7.2 ▸ h))
set_option maxRecDepth 100000 in
noncomputable def ip_u4_0 : { l : List Cond // l = (tables_1_4.drop 0).take 32 } := by
  refine ⟨?l, ?h⟩
  case h =>
    unfold tables_1_4
    simp only [List.drop_succ_cons, List.drop_zero, List.take_succ_cons, List.take_zero, List.take_nil]
    exact rfl
theorem ip_v4_0 {w : Cond} (h : w ∈ ip_u4_0.1) : w ∈ tables_1_4 := List.mem_of_mem_drop (List.mem_of_mem_take (ip_u4_0.2 ▸ h))
set_option maxRecDepth 100000 in
noncomputable def ip_u4_1 : { l : List Cond // l = (tables_1_4.drop 32).take 32 } := by
  refine ⟨?l, ?h⟩
  case h =>
    unfold tables_1_4
    simp only [List.drop_succ_cons, List.drop_zero, List.take_succ_cons, List.take_zero, List.take_nil]
    exact rfl
theorem ip_v4_1 {w : Cond} (h : w ∈ ip_u4_1.1) : w ∈ tables_1_4 := List.mem_of_mem_drop (List.mem_of_mem_take (ip_u4_1.2 ▸ h))
set_option maxRecDepth 100000 in
noncomputable def ip_u4_2 : { l : List Cond // l = (tables_1_4.drop 64).take 32 } := by
  refine ⟨?l, ?h⟩
  case h =>
    unfold tables_1_4
    simp only [List.drop_succ_cons, List.drop_zero, List.take_succ_cons, List.take_zero, List.take_nil]
    exact rfl
theorem ip_v4_2 {w : Cond} (h : w ∈ ip_u4_2.1) : w ∈ tables_1_4 := List.mem_of_mem_drop (List.mem_of_mem_take (ip_u4_2.2 ▸ h))
set_option maxRecDepth 100000 in
noncomputable def ip_u4_3 : { l : List Cond // l = (tables_1_4.drop 96).take 32 } := by
  refine ⟨?l, ?h⟩
  case h =>
    unfold tables_1_4
    simp only [List.drop_succ_cons, List.drop_zero, List.take_succ_cons, List.take_zero, List.take_nil]
    exact rfl
theorem ip_v4_3 {w : Cond} (h : w ∈ ip_u4_3.1) : w ∈ tables_1_4 := List.mem_of_mem_drop (List.mem_of_mem_take (ip_u4_3.2 ▸ h))
set_option maxRecDepth 100000 in
noncomputable def ip_u4_4 : { l : List Cond // l = (tables_1_4.drop 128).take 32 } := by
  refine ⟨?l, ?h⟩
  case h =>
    unfold tables_1_4
    simp only [List.drop_succ_cons, List.drop_zero, List.take_succ_cons, List.take_zero, List.take_nil]
    exact rfl
theorem ip_v4_4 {w : Cond} (h : w ∈ ip_u4_4.1) : w ∈ tables_1_4 := List.mem_of_mem_drop (List.mem_of_mem_take (ip_u4_4.2 ▸ h))
set_option maxRecDepth 100000 in
noncomputable def ip_u4_5 : { l : List Cond // l = (tables_1_4.drop 160).take 32 } := by
  refine ⟨?l, ?h⟩
  case h =>
    unfold tables_1_4
    simp only [List.drop_succ_cons, List.drop_zero, List.take_succ_cons, List.take_zero, List.take_nil]
    exact rfl
theorem ip_v4_5 {w : Cond} (h : w ∈ ip_u4_5.1) : w ∈ tables_1_4 := List.mem_of_mem_drop (List.mem_of_mem_take (ip_u4_5.2 ▸ h))
set_option maxRecDepth 100000 in
noncomputable def ip_u4_6 : { l : List Cond // l = (tables_1_4.drop 192).take 32 } := by
  refine ⟨?l, ?h⟩
  case h =>
    unfold tables_1_4
    simp only [List.drop_succ_cons, List.drop_zero, List.take_succ_cons, List.take_zero, List.take_nil]
    exact rfl
theorem ip_v4_6 {w : Cond} (h : w ∈ ip_u4_6.1) : w ∈ tables_1_4 := List.mem_of_mem_drop (List.mem_of_mem_take (ip_u4_6.2 ▸ h))
set_option maxRecDepth 100000 in
noncomputable def ip_u4_7 : { l : List Cond // l = (tables_1_4.drop 224).take 32 } := by
  refine ⟨?l, ?h⟩
  case h =>
    unfold tables_1_4
    simp only [List.drop_succ_cons, List.drop_zero, List.take_succ_cons, List.take_zero, List.take_nil]
    exact rfl
theorem ip_v4_7 {w : Cond} (h : w ∈ ip_u4_7.1) : w ∈ tables_1_4 := List.mem_of_mem_drop (List.mem_of_mem_take (ip_u4_7.2 ▸ h))
set_option maxRecDepth 100000 in
noncomputable def ip_u5_0 : { l : List Cond // l = (tables_1_5.drop 0).take 32 } := by
  refine ⟨?l, ?h⟩
  case h =>
    unfold tables_1_5
    simp only [List.drop_succ_cons, List.drop_zero, List.take_succ_cons, List.take_zero, List.take_nil]
    exact rfl
theorem ip_v5_0 {w : Cond} (h : w ∈ ip_u5_0.1) : w ∈ tables_1_5 := List.mem_of_mem_drop (List.mem_of_mem_take (ip_u5_0.2 ▸ h))
set_option maxRecDepth 100000 in
noncomputable def ip_u5_1 : { l : List Cond // l = (tables_1_5.drop 32).take 32 } := by
  refine ⟨?l, ?h⟩
  case h =>
    unfold tables_1_5
    simp only [List.drop_succ_cons, List.drop_zero, List.take_succ_cons, List.take_zero, List.take_nil]
    exact rfl
theorem ip_v5_1 {w : Cond} (h : w ∈ ip_u5_1.1) : w ∈ tables_1_5 := List.mem_of_mem_drop (List.mem_of_mem_take (ip_u5_1.2 ▸ h))
set_option maxRecDepth 100000 in
noncomputable def ip_u5_2 : { l : List Cond // l = (tables_1_5.drop 64).take 32 } := by
  refine ⟨?l, ?h⟩
  case h =>
    unfold tables_1_5
    simp only [List.drop_succ_cons, List.drop_zero, List.take_succ_cons, List.take_zero, List.take_nil]
    exact rfl
theorem ip_v5_2 {w : Cond} (h : w ∈ ip_u5_2.1) : w ∈ tables_1_5 := List.mem_of_mem_drop (List.mem_of_mem_take (ip_u5_2.2 ▸ h))
set_option maxRecDepth 100000 in
noncomputable def ip_u5_3 : { l : List Cond // l = (tables_1_5.drop 96).take 32 } := by
  refine ⟨?l, ?h⟩
  case h =>
    unfold tables_1_5
    simp only [List.drop_succ_cons, List.drop_zero, List.take_succ_cons, List.take_zero, List.take_nil]
    exact rfl
theorem ip_v5_3 {w : Cond} (h : w ∈ ip_u5_3.1) : w ∈ tables_1_5 := List.mem_of_mem_drop (List.mem_of_mem_take (ip_u5_3.2 ▸ h))
set_option maxRecDepth 100000 in
noncomputable def ip_u5_4 : { l : List Cond // l = (tables_1_5.drop 128).take 32 } := by
  refine ⟨?l, ?h⟩
  case h =>
    unfold tables_1_5
    simp only [List.drop_succ_cons, List.drop_zero, List.take_succ_cons, List.take_zero, List.take_nil]
    exact rfl
theorem ip_v5_4 {w : Cond} (h : w ∈ ip_u5_4.1) : w ∈ tables_1_5 := List.mem_of_mem_drop (List.mem_of_mem_take (ip_u5_4.2 ▸ h))
set_option maxRecDepth 100000 in
noncomputable def ip_u5_5 : { l : List Cond // l = (tables_1_5.drop 160).take 32 } := by
  refine ⟨?l, ?h⟩
  case h =>
    unfold tables_1_5
    simp only [List.drop_succ_cons, List.drop_zero, List.take_succ_cons, List.take_zero, List.take_nil]
    exact rfl
theorem ip_v5_5 {w : Cond} (h : w ∈ ip_u5_5.1) : w ∈ tables_1_5 := List.mem_of_mem_drop (List.mem_of_mem_take (ip_u5_5.2 ▸ h))
set_option maxRecDepth 100000 in
noncomputable def ip_u5_6 : { l : List Cond // l = (tables_1_5.drop 192).take 32 } := by
  refine ⟨?l, ?h⟩
  case h =>
    unfold tables_1_5
    simp only [List.drop_succ_cons, List.drop_zero, List.take_succ_cons, List.take_zero, List.take_nil]
    exact rfl
theorem ip_v5_6 {w : Cond} (h : w ∈ ip_u5_6.1) : w ∈ tables_1_5 := List.mem_of_mem_drop (List.mem_of_mem_take (ip_u5_6.2 ▸ h))
set_option maxRecDepth 100000 in
noncomputable def ip_u5_7 : { l : List Cond // l = (tables_1_5.drop 224).take 32 } := by
  refine ⟨?l, ?h⟩
  case h =>
    unfold tables_1_5
    simp only [List.drop_succ_cons, List.drop_zero, List.take_succ_cons, List.take_zero, List.take_nil]
    exact rfl
theorem ip_v5_7 {w : Cond} (h : w ∈ ip_u5_7.1) : w ∈ tables_1_5 := List.mem_of_mem_drop (List.mem_of_mem_take (ip_u5_7.2 ▸ h))
set_option maxRecDepth 100000 in
noncomputable def ip_u6_0 : { l : List Cond // l = (tables_1_6.drop 0).take 32 } := by
  refine ⟨?l, ?h⟩
  case h =>
    unfold tables_1_6
    simp only [List.drop_succ_cons, List.drop_zero, List.take_succ_cons, List.take_zero, List.take_nil]
    exact rfl
theorem ip_v6_0 {w : Cond} (h : w ∈ ip_u6_0.1) : w ∈ tables_1_6 := List.mem_of_mem_drop (List.mem_of_mem_take (ip_u6_0.2 ▸ h))
set_option maxRecDepth 100000 in
noncomputable def ip_u6_1 : { l : List Cond // l = (tables_1_6.drop 32).take 32 } := by
  refine ⟨?l, ?h⟩
  case h =>
    unfold tables_1_6
    simp only [List.drop_succ_cons, List.drop_zero, List.take_succ_cons, List.take_zero, List.take_nil]
    exact rfl
theorem ip_v6_1 {w : Cond} (h : w ∈ ip_u6_1.1) : w ∈ tables_1_6 := List.mem_of_mem_drop (List.mem_of_mem_take (ip_u6_1.2 ▸ h))
set_option maxRecDepth 100000 in
noncomputable def ip_u6_2 : { l : List Cond // l = (tables_1_6.drop 64).take 32 } := by
  refine ⟨?l, ?h⟩
  case h =>
    unfold tables_1_6
    simp only [List.drop_succ_cons, List.drop_zero, List.take_succ_cons, List.take_zero, List.take_nil]
    exact rfl
theorem ip_v6_2 {w : Cond} (h : w ∈ ip_u6_2.1) : w ∈ tables_1_6 := List.mem_of_mem_drop (List.mem_of_mem_take (ip_u6_2.2 ▸ h))
set_option maxRecDepth 100000 in
noncomputable def ip_u6_3 : { l : List Cond // l = (tables_1_6.drop 96).take 32 } := by
  refine ⟨?l, ?h⟩
  case h =>
    unfold tables_1_6
    simp only [List.drop_succ_cons, List.drop_zero, List.take_succ_cons, List.take_zero, List.take_nil]
    exact rfl
theorem ip_v6_3 {w : Cond} (h : w ∈ ip_u6_3.1) : w ∈ tables_1_6 := List.mem_of_mem_drop (List.mem_of_mem_take (ip_u6_3.2 ▸ h))
set_option maxRecDepth 100000 in
noncomputable def ip_u6_4 : { l : List Cond // l = (tables_1_6.drop 128).take 32 } := by
  refine ⟨?l, ?h⟩
  case h =>
    unfold tables_1_6
    simp only [List.drop_succ_cons, List.drop_zero, List.take_succ_cons, List.take_zero, List.take_nil]
    exact rfl
theorem ip_v6_4 {w : Cond} (h : w ∈ ip_u6_4.1) : w ∈ tables_1_6 := List.mem_of_mem_drop (List.mem_of_mem_take (ip_u6_4.2 ▸ h))
set_option maxRecDepth 100000 in
noncomputable def ip_u6_5 : { l : List Cond // l = (tables_1_6.drop 160).take 32 } := by
  refine ⟨?l, ?h⟩
  case h =>
    unfold tables_1_6
    simp only [List.drop_succ_cons, List.drop_zero, List.take_succ_cons, List.take_zero, List.take_nil]
    exact rfl
theorem ip_v6_5 {w : Cond} (h : w ∈ ip_u6_5.1) : w ∈ tables_1_6 := List.mem_of_mem_drop (List.mem_of_mem_take (ip_u6_5.2 ▸ h))
set_option maxRecDepth 100000 in
noncomputable def ip_u6_6 : { l : List Cond // l = (tables_1_6.drop 192).take 32 } := by
  refine ⟨?l, ?h⟩
  case h =>
    unfold tables_1_6
    simp only [List.drop_succ_cons, List.drop_zero, List.take_succ_cons, List.take_zero, List.take_nil]
    exact rfl
theorem ip_v6_6 {w : Cond} (h : w ∈ ip_u6_6.1) : w ∈ tables_1_6 := List.mem_of_mem_drop (List.mem_of_mem_take (ip_u6_6.2 ▸ h))
set_option maxRecDepth 100000 in
noncomputable def ip_u6_7 : { l : List Cond // l = (tables_1_6.drop 224).take 32 } := by
  refine ⟨?l, ?h⟩
  case h =>
    unfold tables_1_6
    simp only [List.drop_succ_cons, List.drop_zero, List.take_succ_cons, List.take_zero, List.take_nil]
    exact rfl
theorem ip_v6_7 {w : Cond} (h : w ∈ ip_u6_7.1) : w ∈ tables_1_6 := List.mem_of_mem_drop (List.mem_of_mem_take (ip_u6_7.2 ▸ h))
set_option maxRecDepth 100000 in
noncomputable def ip_u7_0 : { l : List Cond // l = (tables_1_7.drop 0).take 32 } := by
  refine ⟨?l, ?h⟩
  case h =>
    unfold tables_1_7
    simp only [List.drop_succ_cons, List.drop_zero, List.take_succ_cons, List.take_zero, List.take_nil]
    exact rfl
theorem ip_v7_0 {w : Cond} (h : w ∈ ip_u7_0.1) : w ∈ tables_1_7 := List.mem_of_mem_drop (List.mem_of_mem_take (ip_u7_0.2 ▸ h))
set_option maxRecDepth 100000 in
noncomputable def ip_u7_1 : { l : List Cond // l = (tables_1_7.drop 32).take 32 } := by
  refine ⟨?l, ?h⟩
  case h =>
    unfold tables_1_7
    simp only [List.drop_succ_cons, List.drop_zero, List.take_succ_cons, List.take_zero, List.take_nil]
    exact rfl
theorem ip_v7_1 {w : Cond} (h : w ∈ ip_u7_1.1) : w ∈ tables_1_7 := List.mem_of_mem_drop (List.mem_of_mem_take (ip_u7_1.2 ▸ h))
set_option maxRecDepth 100000 in
noncomputable def ip_u7_2 : { l : List Cond // l = (tables_1_7.drop 64).take 32 } := by
  refine ⟨?l, ?h⟩
  case h =>
    unfold tables_1_7
    simp only [List.drop_succ_cons, List.drop_zero, List.take_succ_cons, List.take_zero, List.take_nil]
    exact rfl
theorem ip_v7_2 {w : Cond} (h : w ∈ ip_u7_2.1) : w ∈ tables_1_7 := List.mem_of_mem_drop (List.mem_of_mem_take (ip_u7_2.2 ▸ h))
set_option maxRecDepth 100000 in
noncomputable def ip_u7_3 : { l : List Cond // l = (tables_1_7.drop 96).take 32 } := by
  refine ⟨?l, ?h⟩
  case h =>
    unfold tables_1_7
    simp only [List.drop_succ_cons, List.drop_zero, List.take_succ_cons, List.take_zero, List.take_nil]
    exact rfl
theorem ip_v7_3 {w : Cond} (h : w ∈ ip_u7_3.1) : w ∈ tables_1_7 := List.mem_of_mem_drop (List.mem_of_mem_take (ip_u7_3.2 ▸ h))
set_option maxRecDepth 100000 in
noncomputable def ip_u7_4 : { l : List Cond // l = (tables_1_7.drop 128).take 32 } := by
  refine ⟨?l, ?h⟩
  case h =>
    unfold tables_1_7
    simp only [List.drop_succ_cons, List.drop_zero, List.take_succ_cons, List.take_zero, List.take_nil]
    exact rfl
theorem ip_v7_4 {w : Cond} (h : w ∈ ip_u7_4.1) : w ∈ tables_1_7 := List.mem_of_mem_drop (List.mem_of_mem_take (ip_u7_4.2 ▸ h))
set_option maxRecDepth 100000 in
noncomputable def ip_u7_5 : { l : List Cond // l = (tables_1_7.drop 160).take 32 } := by
  refine ⟨?l, ?h⟩
  case h =>
    unfold tables_1_7
    simp only [List.drop_succ_cons, List.drop_zero, List.take_succ_cons, List.take_zero, List.take_nil]
    exact rfl
theorem ip_v7_5 {w : Cond} (h : w ∈ ip_u7_5.1) : w ∈ tables_1_7 := List.mem_of_mem_drop (List.mem_of_mem_take (ip_u7_5.2 ▸ h))
set_option maxRecDepth 100000 in
noncomputable def ip_u7_6 : { l : List Cond // l = (tables_1_7.drop 192).take 32 } := by
  refine ⟨?l, ?h⟩
  case h =>
    unfold tables_1_7
    simp only [List.drop_succ_cons, List.drop_zero, List.take_succ_cons, List.take_zero, List.take_nil]
    exact rfl
theorem ip_v7_6 {w : Cond} (h : w ∈ ip_u7_6.1) : w ∈ tables_1_7 := List.mem_of_mem_drop (List.mem_of_mem_take (ip_u7_6.2 ▸ h))
set_option maxRecDepth 100000 in
noncomputable def ip_u7_7 : { l : List Cond // l = (tables_1_7.drop 224).take 32 } := by
  refine ⟨?l, ?h⟩
  case h =>
    unfold tables_1_7
    simp only [List.drop_succ_cons, List.drop_zero, List.take_succ_cons, List.take_zero, List.take_nil]
    exact rfl
theorem ip_v7_7 {w : Cond} (h : w ∈ ip_u7_7.1) : w ∈ tables_1_7 := List.mem_of_mem_drop (List.mem_of_mem_take (ip_u7_7.2 ▸ h))
set_option maxRecDepth 100000 in
noncomputable def ip_u8_0 : { l : List Cond // l = (tables_1_8.drop 0).take 32 } := by
  refine ⟨?l, ?h⟩
  case h =>
    unfold tables_1_8
    simp only [List.drop_succ_cons, List.drop_zero, List.take_succ_cons, List.take_zero, List.take_nil]
    exact rfl
theorem ip_v8_0 {w : Cond} (h : w ∈ ip_u8_0.1) : w ∈ tables_1_8 := List.mem_of_mem_drop (List.mem_of_mem_take (ip_u8_0.2 ▸ h))
end
noncomputable section
-- PART 01.tbl
-- ===== PART A: goes FIRST, ahead of the names: the tables' words, and 'selects' of the private methods out of them =====
/-- a private method of a class that the tables say can be made, by its rows of tables_1 -/
def lw_okq (q : MethodName × Nat) : Prop := (q.1.cls ≠ "java/lang/invoke/MethodHandle" ∧ q.1.cls ≠ "java/lang/invoke/VarHandle") ∧ Cond.instantiable q.1.cls q.2 ∈ tables_1 ∧ Cond.privateMethod q.1 ∈ tables_1 ∧ Cond.instanceMethod q.1 ∈ tables_1
theorem lw_p0 : lw_okq (⟨"CommonDenominato\x72", "note", "(I)V"⟩, 14) := ⟨⟨by decide +kernel, by decide +kernel⟩, ip_xt1 (ip_v1_0 (List.mem_of_getElem? (l := ip_u1_0.1) (i := 16) rfl)), ip_xt2 (ip_v2_3 (List.mem_of_getElem? (l := ip_u2_3.1) (i := 29) rfl)), ip_xt2 (ip_v2_3 (List.mem_of_getElem? (l := ip_u2_3.1) (i := 30) rfl))⟩
theorem lw_p1 : lw_okq (⟨"CommonDenominator$Past", "place", "()I"⟩, 6) := ⟨⟨by decide +kernel, by decide +kernel⟩, ip_xt1 (ip_v1_6 (List.mem_of_getElem? (l := ip_u1_6.1) (i := 15) rfl)), ip_xt2 (ip_v2_4 (List.mem_of_getElem? (l := ip_u2_4.1) (i := 5) rfl)), ip_xt2 (ip_v2_4 (List.mem_of_getElem? (l := ip_u2_4.1) (i := 6) rfl))⟩
theorem lw_p2 : lw_okq (⟨"CommonDenominato\x72", "renew", "(III)V"⟩, 14) := ⟨⟨by decide +kernel, by decide +kernel⟩, ip_xt1 (ip_v1_0 (List.mem_of_getElem? (l := ip_u1_0.1) (i := 16) rfl)), ip_xt2 (ip_v2_4 (List.mem_of_getElem? (l := ip_u2_4.1) (i := 28) rfl)), ip_xt2 (ip_v2_4 (List.mem_of_getElem? (l := ip_u2_4.1) (i := 29) rfl))⟩
theorem lw_p3 : lw_okq (⟨"CommonDenominator$Field", "signOf", "(JJJ)I"⟩, 5) := ⟨⟨by decide +kernel, by decide +kernel⟩, ip_xt1 (ip_v1_0 (List.mem_of_getElem? (l := ip_u1_0.1) (i := 24) rfl)), ip_xt2 (ip_v2_6 (List.mem_of_getElem? (l := ip_u2_6.1) (i := 13) rfl)), ip_xt2 (ip_v2_6 (List.mem_of_getElem? (l := ip_u2_6.1) (i := 14) rfl))⟩
theorem lw_p4 : lw_okq (⟨"CommonDenominato\x72", "join", "(ILCommonDenominator$Value;LCommonDenominator$Value;)V"⟩, 14) := ⟨⟨by decide +kernel, by decide +kernel⟩, ip_xt1 (ip_v1_0 (List.mem_of_getElem? (l := ip_u1_0.1) (i := 16) rfl)), ip_xt3 (ip_v3_0 (List.mem_of_getElem? (l := ip_u3_0.1) (i := 2) rfl)), ip_xt3 (ip_v3_0 (List.mem_of_getElem? (l := ip_u3_0.1) (i := 3) rfl))⟩
theorem lw_p5 : lw_okq (⟨"CommonDenominator$Course", "saveState", "()V"⟩, 15) := ⟨⟨by decide +kernel, by decide +kernel⟩, ip_xt1 (ip_v1_3 (List.mem_of_getElem? (l := ip_u1_3.1) (i := 4) rfl)), ip_xt3 (ip_v3_2 (List.mem_of_getElem? (l := ip_u3_2.1) (i := 5) rfl)), ip_xt3 (ip_v3_2 (List.mem_of_getElem? (l := ip_u3_2.1) (i := 6) rfl))⟩
theorem lw_p6 : lw_okq (⟨"CommonDenominator$Course", "isWhole", "(I)Z"⟩, 15) := ⟨⟨by decide +kernel, by decide +kernel⟩, ip_xt1 (ip_v1_3 (List.mem_of_getElem? (l := ip_u1_3.1) (i := 4) rfl)), ip_xt3 (ip_v3_3 (List.mem_of_getElem? (l := ip_u3_3.1) (i := 8) rfl)), ip_xt3 (ip_v3_3 (List.mem_of_getElem? (l := ip_u3_3.1) (i := 9) rfl))⟩
theorem lw_p7 : lw_okq (⟨"CommonDenominator$Course", "layRests", "(LCommonDenominator$Field;)V"⟩, 15) := ⟨⟨by decide +kernel, by decide +kernel⟩, ip_xt1 (ip_v1_3 (List.mem_of_getElem? (l := ip_u1_3.1) (i := 4) rfl)), ip_xt3 (ip_v3_3 (List.mem_of_getElem? (l := ip_u3_3.1) (i := 12) rfl)), ip_xt3 (ip_v3_3 (List.mem_of_getElem? (l := ip_u3_3.1) (i := 13) rfl))⟩
theorem lw_p8 : lw_okq (⟨"CommonDenominator$Course", "findPeriod", "()V"⟩, 15) := ⟨⟨by decide +kernel, by decide +kernel⟩, ip_xt1 (ip_v1_3 (List.mem_of_getElem? (l := ip_u1_3.1) (i := 4) rfl)), ip_xt3 (ip_v3_4 (List.mem_of_getElem? (l := ip_u3_4.1) (i := 30) rfl)), ip_xt3 (ip_v3_4 (List.mem_of_getElem? (l := ip_u3_4.1) (i := 31) rfl))⟩
theorem lw_p9 : lw_okq (⟨"CommonDenominator$Course", "isLikeLast", "(I)Z"⟩, 15) := ⟨⟨by decide +kernel, by decide +kernel⟩, ip_xt1 (ip_v1_3 (List.mem_of_getElem? (l := ip_u1_3.1) (i := 4) rfl)), ip_xt3 (ip_v3_5 (List.mem_of_getElem? (l := ip_u3_5.1) (i := 2) rfl)), ip_xt3 (ip_v3_5 (List.mem_of_getElem? (l := ip_u3_5.1) (i := 3) rfl))⟩
theorem lw_p10 : lw_okq (⟨"CommonDenominator$Tape", "hasText", "()Z"⟩, 5) := ⟨⟨by decide +kernel, by decide +kernel⟩, ip_xt1 (ip_v1_5 (List.mem_of_getElem? (l := ip_u1_5.1) (i := 20) rfl)), ip_xt3 (ip_v3_6 (List.mem_of_getElem? (l := ip_u3_6.1) (i := 17) rfl)), ip_xt3 (ip_v3_6 (List.mem_of_getElem? (l := ip_u3_6.1) (i := 18) rfl))⟩
theorem lw_p11 : lw_okq (⟨"CommonDenominator$Tape", "wholeNumbe\x72", "()I"⟩, 5) := ⟨⟨by decide +kernel, by decide +kernel⟩, ip_xt1 (ip_v1_5 (List.mem_of_getElem? (l := ip_u1_5.1) (i := 20) rfl)), ip_xt3 (ip_v3_6 (List.mem_of_getElem? (l := ip_u3_6.1) (i := 21) rfl)), ip_xt3 (ip_v3_6 (List.mem_of_getElem? (l := ip_u3_6.1) (i := 22) rfl))⟩
theorem lw_p12 : lw_okq (⟨"CommonDenominator$Tape", "skipBlanks", "()V"⟩, 5) := ⟨⟨by decide +kernel, by decide +kernel⟩, ip_xt1 (ip_v1_5 (List.mem_of_getElem? (l := ip_u1_5.1) (i := 20) rfl)), ip_xt3 (ip_v3_6 (List.mem_of_getElem? (l := ip_u3_6.1) (i := 25) rfl)), ip_xt3 (ip_v3_6 (List.mem_of_getElem? (l := ip_u3_6.1) (i := 26) rfl))⟩
theorem lw_p13 : lw_okq (⟨"CommonDenominator$Tape", "byteAt", "()I"⟩, 5) := ⟨⟨by decide +kernel, by decide +kernel⟩, ip_xt1 (ip_v1_5 (List.mem_of_getElem? (l := ip_u1_5.1) (i := 20) rfl)), ip_xt3 (ip_v3_6 (List.mem_of_getElem? (l := ip_u3_6.1) (i := 29) rfl)), ip_xt3 (ip_v3_6 (List.mem_of_getElem? (l := ip_u3_6.1) (i := 30) rfl))⟩
theorem lw_p14 : lw_okq (⟨"CommonDenominator$Tape", "nextIsDigit", "()Z"⟩, 5) := ⟨⟨by decide +kernel, by decide +kernel⟩, ip_xt1 (ip_v1_5 (List.mem_of_getElem? (l := ip_u1_5.1) (i := 20) rfl)), ip_xt3 (ip_v3_7 (List.mem_of_getElem? (l := ip_u3_7.1) (i := 1) rfl)), ip_xt3 (ip_v3_7 (List.mem_of_getElem? (l := ip_u3_7.1) (i := 2) rfl))⟩
theorem lw_p15 : lw_okq (⟨"CommonDenominator$Tape", "takes", "(C)Z"⟩, 5) := ⟨⟨by decide +kernel, by decide +kernel⟩, ip_xt1 (ip_v1_5 (List.mem_of_getElem? (l := ip_u1_5.1) (i := 20) rfl)), ip_xt3 (ip_v3_7 (List.mem_of_getElem? (l := ip_u3_7.1) (i := 8) rfl)), ip_xt3 (ip_v3_7 (List.mem_of_getElem? (l := ip_u3_7.1) (i := 9) rfl))⟩
def lw_privs_1 : List (MethodName × Nat) := [(⟨"CommonDenominato\x72", "note", "(I)V"⟩, 14), (⟨"CommonDenominator$Past", "place", "()I"⟩, 6), (⟨"CommonDenominato\x72", "renew", "(III)V"⟩, 14), (⟨"CommonDenominator$Field", "signOf", "(JJJ)I"⟩, 5), (⟨"CommonDenominato\x72", "join", "(ILCommonDenominator$Value;LCommonDenominator$Value;)V"⟩, 14), (⟨"CommonDenominator$Course", "saveState", "()V"⟩, 15), (⟨"CommonDenominator$Course", "isWhole", "(I)Z"⟩, 15), (⟨"CommonDenominator$Course", "layRests", "(LCommonDenominator$Field;)V"⟩, 15), (⟨"CommonDenominator$Course", "findPeriod", "()V"⟩, 15), (⟨"CommonDenominator$Course", "isLikeLast", "(I)Z"⟩, 15), (⟨"CommonDenominator$Tape", "hasText", "()Z"⟩, 5), (⟨"CommonDenominator$Tape", "wholeNumbe\x72", "()I"⟩, 5), (⟨"CommonDenominator$Tape", "skipBlanks", "()V"⟩, 5), (⟨"CommonDenominator$Tape", "byteAt", "()I"⟩, 5), (⟨"CommonDenominator$Tape", "nextIsDigit", "()Z"⟩, 5), (⟨"CommonDenominator$Tape", "takes", "(C)Z"⟩, 5)]
theorem lw_r1 : ∀ q ∈ lw_privs_1, lw_okq q := List.forall_mem_cons.mpr ⟨lw_p0, List.forall_mem_cons.mpr ⟨lw_p1, List.forall_mem_cons.mpr ⟨lw_p2, List.forall_mem_cons.mpr ⟨lw_p3, List.forall_mem_cons.mpr ⟨lw_p4, List.forall_mem_cons.mpr ⟨lw_p5, List.forall_mem_cons.mpr ⟨lw_p6, List.forall_mem_cons.mpr ⟨lw_p7, List.forall_mem_cons.mpr ⟨lw_p8, List.forall_mem_cons.mpr ⟨lw_p9, List.forall_mem_cons.mpr ⟨lw_p10, List.forall_mem_cons.mpr ⟨lw_p11, List.forall_mem_cons.mpr ⟨lw_p12, List.forall_mem_cons.mpr ⟨lw_p13, List.forall_mem_cons.mpr ⟨lw_p14, List.forall_mem_cons.mpr ⟨lw_p15, fun _ h => absurd h List.not_mem_nil⟩⟩⟩⟩⟩⟩⟩⟩⟩⟩⟩⟩⟩⟩⟩⟩
theorem lw_p16 : lw_okq (⟨"CommonDenominato\x72", "solved", "()Z"⟩, 14) := ⟨⟨by decide +kernel, by decide +kernel⟩, ip_xt1 (ip_v1_0 (List.mem_of_getElem? (l := ip_u1_0.1) (i := 16) rfl)), ip_xt4 (ip_v4_0 (List.mem_of_getElem? (l := ip_u4_0.1) (i := 15) rfl)), ip_xt4 (ip_v4_0 (List.mem_of_getElem? (l := ip_u4_0.1) (i := 16) rfl))⟩
theorem lw_p17 : lw_okq (⟨"CommonDenominato\x72", "stepsOrNone", "()I"⟩, 14) := ⟨⟨by decide +kernel, by decide +kernel⟩, ip_xt1 (ip_v1_0 (List.mem_of_getElem? (l := ip_u1_0.1) (i := 16) rfl)), ip_xt4 (ip_v4_2 (List.mem_of_getElem? (l := ip_u4_2.1) (i := 3) rfl)), ip_xt4 (ip_v4_2 (List.mem_of_getElem? (l := ip_u4_2.1) (i := 4) rfl))⟩
theorem lw_p18 : lw_okq (⟨"CommonDenominato\x72", "hasBounds", "()Z"⟩, 14) := ⟨⟨by decide +kernel, by decide +kernel⟩, ip_xt1 (ip_v1_0 (List.mem_of_getElem? (l := ip_u1_0.1) (i := 16) rfl)), ip_xt4 (ip_v4_4 (List.mem_of_getElem? (l := ip_u4_4.1) (i := 12) rfl)), ip_xt4 (ip_v4_4 (List.mem_of_getElem? (l := ip_u4_4.1) (i := 13) rfl))⟩
theorem lw_p19 : lw_okq (⟨"CommonDenominator$Bounds", "layPart", "(LCommonDenominator$Square;I)V"⟩, 2) := ⟨⟨by decide +kernel, by decide +kernel⟩, ip_xt2 (ip_v2_1 (List.mem_of_getElem? (l := ip_u2_1.1) (i := 14) rfl)), ip_xt4 (ip_v4_4 (List.mem_of_getElem? (l := ip_u4_4.1) (i := 21) rfl)), ip_xt4 (ip_v4_4 (List.mem_of_getElem? (l := ip_u4_4.1) (i := 22) rfl))⟩
theorem lw_p20 : lw_okq (⟨"CommonDenominator$Bounds", "leastWhole", "(II)J"⟩, 2) := ⟨⟨by decide +kernel, by decide +kernel⟩, ip_xt2 (ip_v2_1 (List.mem_of_getElem? (l := ip_u2_1.1) (i := 14) rfl)), ip_xt4 (ip_v4_6 (List.mem_of_getElem? (l := ip_u4_6.1) (i := 10) rfl)), ip_xt4 (ip_v4_6 (List.mem_of_getElem? (l := ip_u4_6.1) (i := 11) rfl))⟩
theorem lw_p21 : lw_okq (⟨"CommonDenominato\x72", "leastRelation", "(II)I"⟩, 14) := ⟨⟨by decide +kernel, by decide +kernel⟩, ip_xt1 (ip_v1_0 (List.mem_of_getElem? (l := ip_u1_0.1) (i := 16) rfl)), ip_xt5 (ip_v5_0 (List.mem_of_getElem? (l := ip_u5_0.1) (i := 17) rfl)), ip_xt5 (ip_v5_0 (List.mem_of_getElem? (l := ip_u5_0.1) (i := 18) rfl))⟩
theorem lw_p22 : lw_okq (⟨"CommonDenominato\x72", "likeDigits", "()I"⟩, 14) := ⟨⟨by decide +kernel, by decide +kernel⟩, ip_xt1 (ip_v1_0 (List.mem_of_getElem? (l := ip_u1_0.1) (i := 16) rfl)), ip_xt5 (ip_v5_1 (List.mem_of_getElem? (l := ip_u5_1.1) (i := 14) rfl)), ip_xt5 (ip_v5_1 (List.mem_of_getElem? (l := ip_u5_1.1) (i := 15) rfl))⟩
theorem lw_p23 : lw_okq (⟨"CommonDenominatorModel", "clears", "(III)V"⟩, 48) := ⟨⟨by decide +kernel, by decide +kernel⟩, ip_xt5 (ip_v5_2 (List.mem_of_getElem? (l := ip_u5_2.1) (i := 13) rfl)), ip_xt5 (ip_v5_2 (List.mem_of_getElem? (l := ip_u5_2.1) (i := 19) rfl)), ip_xt5 (ip_v5_2 (List.mem_of_getElem? (l := ip_u5_2.1) (i := 20) rfl))⟩
theorem lw_p24 : lw_okq (⟨"CommonDenominatorModel", "no", "(I)I"⟩, 48) := ⟨⟨by decide +kernel, by decide +kernel⟩, ip_xt5 (ip_v5_2 (List.mem_of_getElem? (l := ip_u5_2.1) (i := 13) rfl)), ip_xt5 (ip_v5_7 (List.mem_of_getElem? (l := ip_u5_7.1) (i := 12) rfl)), ip_xt5 (ip_v5_7 (List.mem_of_getElem? (l := ip_u5_7.1) (i := 13) rfl))⟩
theorem lw_p25 : lw_okq (⟨"CommonDenominatorModel", "comesBack", "()V"⟩, 48) := ⟨⟨by decide +kernel, by decide +kernel⟩, ip_xt5 (ip_v5_2 (List.mem_of_getElem? (l := ip_u5_2.1) (i := 13) rfl)), ip_xt6 (ip_v6_0 (List.mem_of_getElem? (l := ip_u6_0.1) (i := 0) rfl)), ip_xt6 (ip_v6_0 (List.mem_of_getElem? (l := ip_u6_0.1) (i := 1) rfl))⟩
theorem lw_p26 : lw_okq (⟨"CommonDenominatorModel", "yes", "(I)I"⟩, 48) := ⟨⟨by decide +kernel, by decide +kernel⟩, ip_xt5 (ip_v5_2 (List.mem_of_getElem? (l := ip_u5_2.1) (i := 13) rfl)), ip_xt6 (ip_v6_0 (List.mem_of_getElem? (l := ip_u6_0.1) (i := 4) rfl)), ip_xt6 (ip_v6_0 (List.mem_of_getElem? (l := ip_u6_0.1) (i := 5) rfl))⟩
theorem lw_p27 : lw_okq (⟨"CommonDenominatorModel", "stepsOrNone", "()I"⟩, 48) := ⟨⟨by decide +kernel, by decide +kernel⟩, ip_xt5 (ip_v5_2 (List.mem_of_getElem? (l := ip_u5_2.1) (i := 13) rfl)), ip_xt6 (ip_v6_0 (List.mem_of_getElem? (l := ip_u6_0.1) (i := 15) rfl)), ip_xt6 (ip_v6_0 (List.mem_of_getElem? (l := ip_u6_0.1) (i := 16) rfl))⟩
theorem lw_p28 : lw_okq (⟨"CommonDenominatorModel", "keeps", "(I)V"⟩, 48) := ⟨⟨by decide +kernel, by decide +kernel⟩, ip_xt5 (ip_v5_2 (List.mem_of_getElem? (l := ip_u5_2.1) (i := 13) rfl)), ip_xt6 (ip_v6_1 (List.mem_of_getElem? (l := ip_u6_1.1) (i := 1) rfl)), ip_xt6 (ip_v6_1 (List.mem_of_getElem? (l := ip_u6_1.1) (i := 2) rfl))⟩
theorem lw_p29 : lw_okq (⟨"CommonDenominatorModel", "is", "(JJJJ)V"⟩, 48) := ⟨⟨by decide +kernel, by decide +kernel⟩, ip_xt5 (ip_v5_2 (List.mem_of_getElem? (l := ip_u5_2.1) (i := 13) rfl)), ip_xt6 (ip_v6_1 (List.mem_of_getElem? (l := ip_u6_1.1) (i := 21) rfl)), ip_xt6 (ip_v6_1 (List.mem_of_getElem? (l := ip_u6_1.1) (i := 22) rfl))⟩
theorem lw_p30 : lw_okq (⟨"CommonDenominatorModel", "lays", "(I)I"⟩, 48) := ⟨⟨by decide +kernel, by decide +kernel⟩, ip_xt5 (ip_v5_2 (List.mem_of_getElem? (l := ip_u5_2.1) (i := 13) rfl)), ip_xt6 (ip_v6_1 (List.mem_of_getElem? (l := ip_u6_1.1) (i := 28) rfl)), ip_xt6 (ip_v6_1 (List.mem_of_getElem? (l := ip_u6_1.1) (i := 29) rfl))⟩
theorem lw_p31 : lw_okq (⟨"CommonDenominatorModel", "floorOf", "(JJJJ)I"⟩, 48) := ⟨⟨by decide +kernel, by decide +kernel⟩, ip_xt5 (ip_v5_2 (List.mem_of_getElem? (l := ip_u5_2.1) (i := 13) rfl)), ip_xt6 (ip_v6_2 (List.mem_of_getElem? (l := ip_u6_2.1) (i := 0) rfl)), ip_xt6 (ip_v6_2 (List.mem_of_getElem? (l := ip_u6_2.1) (i := 1) rfl))⟩
def lw_privs_2 : List (MethodName × Nat) := [(⟨"CommonDenominato\x72", "solved", "()Z"⟩, 14), (⟨"CommonDenominato\x72", "stepsOrNone", "()I"⟩, 14), (⟨"CommonDenominato\x72", "hasBounds", "()Z"⟩, 14), (⟨"CommonDenominator$Bounds", "layPart", "(LCommonDenominator$Square;I)V"⟩, 2), (⟨"CommonDenominator$Bounds", "leastWhole", "(II)J"⟩, 2), (⟨"CommonDenominato\x72", "leastRelation", "(II)I"⟩, 14), (⟨"CommonDenominato\x72", "likeDigits", "()I"⟩, 14), (⟨"CommonDenominatorModel", "clears", "(III)V"⟩, 48), (⟨"CommonDenominatorModel", "no", "(I)I"⟩, 48), (⟨"CommonDenominatorModel", "comesBack", "()V"⟩, 48), (⟨"CommonDenominatorModel", "yes", "(I)I"⟩, 48), (⟨"CommonDenominatorModel", "stepsOrNone", "()I"⟩, 48), (⟨"CommonDenominatorModel", "keeps", "(I)V"⟩, 48), (⟨"CommonDenominatorModel", "is", "(JJJJ)V"⟩, 48), (⟨"CommonDenominatorModel", "lays", "(I)I"⟩, 48), (⟨"CommonDenominatorModel", "floorOf", "(JJJJ)I"⟩, 48)]
theorem lw_r2 : ∀ q ∈ lw_privs_2, lw_okq q := List.forall_mem_cons.mpr ⟨lw_p16, List.forall_mem_cons.mpr ⟨lw_p17, List.forall_mem_cons.mpr ⟨lw_p18, List.forall_mem_cons.mpr ⟨lw_p19, List.forall_mem_cons.mpr ⟨lw_p20, List.forall_mem_cons.mpr ⟨lw_p21, List.forall_mem_cons.mpr ⟨lw_p22, List.forall_mem_cons.mpr ⟨lw_p23, List.forall_mem_cons.mpr ⟨lw_p24, List.forall_mem_cons.mpr ⟨lw_p25, List.forall_mem_cons.mpr ⟨lw_p26, List.forall_mem_cons.mpr ⟨lw_p27, List.forall_mem_cons.mpr ⟨lw_p28, List.forall_mem_cons.mpr ⟨lw_p29, List.forall_mem_cons.mpr ⟨lw_p30, List.forall_mem_cons.mpr ⟨lw_p31, fun _ h => absurd h List.not_mem_nil⟩⟩⟩⟩⟩⟩⟩⟩⟩⟩⟩⟩⟩⟩⟩⟩
theorem lw_p32 : lw_okq (⟨"CommonDenominatorModel", "signOf", "(JJJ)I"⟩, 48) := ⟨⟨by decide +kernel, by decide +kernel⟩, ip_xt5 (ip_v5_2 (List.mem_of_getElem? (l := ip_u5_2.1) (i := 13) rfl)), ip_xt6 (ip_v6_2 (List.mem_of_getElem? (l := ip_u6_2.1) (i := 4) rfl)), ip_xt6 (ip_v6_2 (List.mem_of_getElem? (l := ip_u6_2.1) (i := 5) rfl))⟩
theorem lw_p33 : lw_okq (⟨"CommonDenominatorModel", "normOf", "(JJJ)J"⟩, 48) := ⟨⟨by decide +kernel, by decide +kernel⟩, ip_xt5 (ip_v5_2 (List.mem_of_getElem? (l := ip_u5_2.1) (i := 13) rfl)), ip_xt6 (ip_v6_2 (List.mem_of_getElem? (l := ip_u6_2.1) (i := 8) rfl)), ip_xt6 (ip_v6_2 (List.mem_of_getElem? (l := ip_u6_2.1) (i := 9) rfl))⟩
theorem lw_p34 : lw_okq (⟨"CommonDenominatorModel", "e1", "()J"⟩, 48) := ⟨⟨by decide +kernel, by decide +kernel⟩, ip_xt5 (ip_v5_2 (List.mem_of_getElem? (l := ip_u5_2.1) (i := 13) rfl)), ip_xt6 (ip_v6_2 (List.mem_of_getElem? (l := ip_u6_2.1) (i := 12) rfl)), ip_xt6 (ip_v6_2 (List.mem_of_getElem? (l := ip_u6_2.1) (i := 13) rfl))⟩
theorem lw_p35 : lw_okq (⟨"CommonDenominatorModel", "squares", "()J"⟩, 48) := ⟨⟨by decide +kernel, by decide +kernel⟩, ip_xt5 (ip_v5_2 (List.mem_of_getElem? (l := ip_u5_2.1) (i := 13) rfl)), ip_xt6 (ip_v6_2 (List.mem_of_getElem? (l := ip_u6_2.1) (i := 16) rfl)), ip_xt6 (ip_v6_2 (List.mem_of_getElem? (l := ip_u6_2.1) (i := 17) rfl))⟩
theorem lw_p36 : lw_okq (⟨"CommonDenominatorModel", "e2", "()J"⟩, 48) := ⟨⟨by decide +kernel, by decide +kernel⟩, ip_xt5 (ip_v5_2 (List.mem_of_getElem? (l := ip_u5_2.1) (i := 13) rfl)), ip_xt6 (ip_v6_2 (List.mem_of_getElem? (l := ip_u6_2.1) (i := 21) rfl)), ip_xt6 (ip_v6_2 (List.mem_of_getElem? (l := ip_u6_2.1) (i := 22) rfl))⟩
theorem lw_p37 : lw_okq (⟨"CommonDenominatorModel", "mixed", "()J"⟩, 48) := ⟨⟨by decide +kernel, by decide +kernel⟩, ip_xt5 (ip_v5_2 (List.mem_of_getElem? (l := ip_u5_2.1) (i := 13) rfl)), ip_xt6 (ip_v6_2 (List.mem_of_getElem? (l := ip_u6_2.1) (i := 25) rfl)), ip_xt6 (ip_v6_2 (List.mem_of_getElem? (l := ip_u6_2.1) (i := 26) rfl))⟩
theorem lw_p38 : lw_okq (⟨"CommonDenominatorModel", "e3", "()J"⟩, 48) := ⟨⟨by decide +kernel, by decide +kernel⟩, ip_xt5 (ip_v5_2 (List.mem_of_getElem? (l := ip_u5_2.1) (i := 13) rfl)), ip_xt6 (ip_v6_2 (List.mem_of_getElem? (l := ip_u6_2.1) (i := 30) rfl)), ip_xt6 (ip_v6_2 (List.mem_of_getElem? (l := ip_u6_2.1) (i := 31) rfl))⟩
theorem lw_p39 : lw_okq (⟨"CommonDenominatorModel", "pairs", "()J"⟩, 48) := ⟨⟨by decide +kernel, by decide +kernel⟩, ip_xt5 (ip_v5_2 (List.mem_of_getElem? (l := ip_u5_2.1) (i := 13) rfl)), ip_xt6 (ip_v6_3 (List.mem_of_getElem? (l := ip_u6_3.1) (i := 2) rfl)), ip_xt6 (ip_v6_3 (List.mem_of_getElem? (l := ip_u6_3.1) (i := 3) rfl))⟩
theorem lw_p40 : lw_okq (⟨"CommonDenominatorModel", "isNought", "(I)Z"⟩, 48) := ⟨⟨by decide +kernel, by decide +kernel⟩, ip_xt5 (ip_v5_2 (List.mem_of_getElem? (l := ip_u5_2.1) (i := 13) rfl)), ip_xt6 (ip_v6_3 (List.mem_of_getElem? (l := ip_u6_3.1) (i := 17) rfl)), ip_xt6 (ip_v6_3 (List.mem_of_getElem? (l := ip_u6_3.1) (i := 18) rfl))⟩
theorem lw_p41 : lw_okq (⟨"CommonDenominatorModel", "at", "(II)I"⟩, 48) := ⟨⟨by decide +kernel, by decide +kernel⟩, ip_xt5 (ip_v5_2 (List.mem_of_getElem? (l := ip_u5_2.1) (i := 13) rfl)), ip_xt6 (ip_v6_3 (List.mem_of_getElem? (l := ip_u6_3.1) (i := 21) rfl)), ip_xt6 (ip_v6_3 (List.mem_of_getElem? (l := ip_u6_3.1) (i := 22) rfl))⟩
theorem lw_p42 : lw_okq (⟨"CommonDenominatorModel", "combines", "(III)V"⟩, 48) := ⟨⟨by decide +kernel, by decide +kernel⟩, ip_xt5 (ip_v5_2 (List.mem_of_getElem? (l := ip_u5_2.1) (i := 13) rfl)), ip_xt6 (ip_v6_3 (List.mem_of_getElem? (l := ip_u6_3.1) (i := 25) rfl)), ip_xt6 (ip_v6_3 (List.mem_of_getElem? (l := ip_u6_3.1) (i := 26) rfl))⟩
theorem lw_p43 : lw_okq (⟨"CommonDenominatorModel", "multiplies", "(JJJJJJJ)V"⟩, 48) := ⟨⟨by decide +kernel, by decide +kernel⟩, ip_xt5 (ip_v5_2 (List.mem_of_getElem? (l := ip_u5_2.1) (i := 13) rfl)), ip_xt6 (ip_v6_3 (List.mem_of_getElem? (l := ip_u6_3.1) (i := 29) rfl)), ip_xt6 (ip_v6_3 (List.mem_of_getElem? (l := ip_u6_3.1) (i := 30) rfl))⟩
theorem lw_p44 : lw_okq (⟨"CommonDenominatorModel", "divides", "(JJJJJJJJ)V"⟩, 48) := ⟨⟨by decide +kernel, by decide +kernel⟩, ip_xt5 (ip_v5_2 (List.mem_of_getElem? (l := ip_u5_2.1) (i := 13) rfl)), ip_xt6 (ip_v6_4 (List.mem_of_getElem? (l := ip_u6_4.1) (i := 1) rfl)), ip_xt6 (ip_v6_4 (List.mem_of_getElem? (l := ip_u6_4.1) (i := 2) rfl))⟩
theorem lw_p45 : lw_okq (⟨"CommonDenominatorModel", "traceOf", "(JJJ)J"⟩, 48) := ⟨⟨by decide +kernel, by decide +kernel⟩, ip_xt5 (ip_v5_2 (List.mem_of_getElem? (l := ip_u5_2.1) (i := 13) rfl)), ip_xt6 (ip_v6_4 (List.mem_of_getElem? (l := ip_u6_4.1) (i := 5) rfl)), ip_xt6 (ip_v6_4 (List.mem_of_getElem? (l := ip_u6_4.1) (i := 6) rfl))⟩
theorem lw_p46 : lw_okq (⟨"CommonDenominatorModel", "secondOf", "(JJJ)J"⟩, 48) := ⟨⟨by decide +kernel, by decide +kernel⟩, ip_xt5 (ip_v5_2 (List.mem_of_getElem? (l := ip_u5_2.1) (i := 13) rfl)), ip_xt6 (ip_v6_4 (List.mem_of_getElem? (l := ip_u6_4.1) (i := 9) rfl)), ip_xt6 (ip_v6_4 (List.mem_of_getElem? (l := ip_u6_4.1) (i := 10) rfl))⟩
theorem lw_p47 : lw_okq (⟨"CommonDenominatorModel", "xaAll", "(J)J"⟩, 48) := ⟨⟨by decide +kernel, by decide +kernel⟩, ip_xt5 (ip_v5_2 (List.mem_of_getElem? (l := ip_u5_2.1) (i := 13) rfl)), ip_xt6 (ip_v6_4 (List.mem_of_getElem? (l := ip_u6_4.1) (i := 13) rfl)), ip_xt6 (ip_v6_4 (List.mem_of_getElem? (l := ip_u6_4.1) (i := 14) rfl))⟩
def lw_privs_3 : List (MethodName × Nat) := [(⟨"CommonDenominatorModel", "signOf", "(JJJ)I"⟩, 48), (⟨"CommonDenominatorModel", "normOf", "(JJJ)J"⟩, 48), (⟨"CommonDenominatorModel", "e1", "()J"⟩, 48), (⟨"CommonDenominatorModel", "squares", "()J"⟩, 48), (⟨"CommonDenominatorModel", "e2", "()J"⟩, 48), (⟨"CommonDenominatorModel", "mixed", "()J"⟩, 48), (⟨"CommonDenominatorModel", "e3", "()J"⟩, 48), (⟨"CommonDenominatorModel", "pairs", "()J"⟩, 48), (⟨"CommonDenominatorModel", "isNought", "(I)Z"⟩, 48), (⟨"CommonDenominatorModel", "at", "(II)I"⟩, 48), (⟨"CommonDenominatorModel", "combines", "(III)V"⟩, 48), (⟨"CommonDenominatorModel", "multiplies", "(JJJJJJJ)V"⟩, 48), (⟨"CommonDenominatorModel", "divides", "(JJJJJJJJ)V"⟩, 48), (⟨"CommonDenominatorModel", "traceOf", "(JJJ)J"⟩, 48), (⟨"CommonDenominatorModel", "secondOf", "(JJJ)J"⟩, 48), (⟨"CommonDenominatorModel", "xaAll", "(J)J"⟩, 48)]
theorem lw_r3 : ∀ q ∈ lw_privs_3, lw_okq q := List.forall_mem_cons.mpr ⟨lw_p32, List.forall_mem_cons.mpr ⟨lw_p33, List.forall_mem_cons.mpr ⟨lw_p34, List.forall_mem_cons.mpr ⟨lw_p35, List.forall_mem_cons.mpr ⟨lw_p36, List.forall_mem_cons.mpr ⟨lw_p37, List.forall_mem_cons.mpr ⟨lw_p38, List.forall_mem_cons.mpr ⟨lw_p39, List.forall_mem_cons.mpr ⟨lw_p40, List.forall_mem_cons.mpr ⟨lw_p41, List.forall_mem_cons.mpr ⟨lw_p42, List.forall_mem_cons.mpr ⟨lw_p43, List.forall_mem_cons.mpr ⟨lw_p44, List.forall_mem_cons.mpr ⟨lw_p45, List.forall_mem_cons.mpr ⟨lw_p46, List.forall_mem_cons.mpr ⟨lw_p47, fun _ h => absurd h List.not_mem_nil⟩⟩⟩⟩⟩⟩⟩⟩⟩⟩⟩⟩⟩⟩⟩⟩
theorem lw_p48 : lw_okq (⟨"CommonDenominatorModel", "xbAll", "(J)J"⟩, 48) := ⟨⟨by decide +kernel, by decide +kernel⟩, ip_xt5 (ip_v5_2 (List.mem_of_getElem? (l := ip_u5_2.1) (i := 13) rfl)), ip_xt6 (ip_v6_4 (List.mem_of_getElem? (l := ip_u6_4.1) (i := 17) rfl)), ip_xt6 (ip_v6_4 (List.mem_of_getElem? (l := ip_u6_4.1) (i := 18) rfl))⟩
theorem lw_p49 : lw_okq (⟨"CommonDenominatorModel", "xcAll", "(J)J"⟩, 48) := ⟨⟨by decide +kernel, by decide +kernel⟩, ip_xt5 (ip_v5_2 (List.mem_of_getElem? (l := ip_u5_2.1) (i := 13) rfl)), ip_xt6 (ip_v6_4 (List.mem_of_getElem? (l := ip_u6_4.1) (i := 21) rfl)), ip_xt6 (ip_v6_4 (List.mem_of_getElem? (l := ip_u6_4.1) (i := 22) rfl))⟩
theorem lw_p50 : lw_okq (⟨"CommonDenominatorModel", "canBe", "()Z"⟩, 48) := ⟨⟨by decide +kernel, by decide +kernel⟩, ip_xt5 (ip_v5_2 (List.mem_of_getElem? (l := ip_u5_2.1) (i := 13) rfl)), ip_xt6 (ip_v6_4 (List.mem_of_getElem? (l := ip_u6_4.1) (i := 25) rfl)), ip_xt6 (ip_v6_4 (List.mem_of_getElem? (l := ip_u6_4.1) (i := 26) rfl))⟩
theorem lw_p51 : lw_okq (⟨"CommonDenominatorModel", "canBegin", "(II)Z"⟩, 48) := ⟨⟨by decide +kernel, by decide +kernel⟩, ip_xt5 (ip_v5_2 (List.mem_of_getElem? (l := ip_u5_2.1) (i := 13) rfl)), ip_xt6 (ip_v6_5 (List.mem_of_getElem? (l := ip_u6_5.1) (i := 1) rfl)), ip_xt6 (ip_v6_5 (List.mem_of_getElem? (l := ip_u6_5.1) (i := 2) rfl))⟩
theorem lw_p52 : lw_okq (⟨"CommonDenominatorModel", "begins", "(III)V"⟩, 48) := ⟨⟨by decide +kernel, by decide +kernel⟩, ip_xt5 (ip_v5_2 (List.mem_of_getElem? (l := ip_u5_2.1) (i := 13) rfl)), ip_xt6 (ip_v6_5 (List.mem_of_getElem? (l := ip_u6_5.1) (i := 5) rfl)), ip_xt6 (ip_v6_5 (List.mem_of_getElem? (l := ip_u6_5.1) (i := 6) rfl))⟩
theorem lw_p53 : lw_okq (⟨"CommonDenominatorModel", "floorAt", "(II)I"⟩, 48) := ⟨⟨by decide +kernel, by decide +kernel⟩, ip_xt5 (ip_v5_2 (List.mem_of_getElem? (l := ip_u5_2.1) (i := 13) rfl)), ip_xt6 (ip_v6_5 (List.mem_of_getElem? (l := ip_u6_5.1) (i := 9) rfl)), ip_xt6 (ip_v6_5 (List.mem_of_getElem? (l := ip_u6_5.1) (i := 10) rfl))⟩
theorem lw_p54 : lw_okq (⟨"CommonDenominatorModel", "ends", "()Z"⟩, 48) := ⟨⟨by decide +kernel, by decide +kernel⟩, ip_xt5 (ip_v5_2 (List.mem_of_getElem? (l := ip_u5_2.1) (i := 13) rfl)), ip_xt6 (ip_v6_5 (List.mem_of_getElem? (l := ip_u6_5.1) (i := 17) rfl)), ip_xt6 (ip_v6_5 (List.mem_of_getElem? (l := ip_u6_5.1) (i := 18) rfl))⟩
theorem lw_p55 : lw_okq (⟨"CommonDenominatorModel", "parts", "()V"⟩, 48) := ⟨⟨by decide +kernel, by decide +kernel⟩, ip_xt5 (ip_v5_2 (List.mem_of_getElem? (l := ip_u5_2.1) (i := 13) rfl)), ip_xt6 (ip_v6_5 (List.mem_of_getElem? (l := ip_u6_5.1) (i := 21) rfl)), ip_xt6 (ip_v6_5 (List.mem_of_getElem? (l := ip_u6_5.1) (i := 22) rfl))⟩
theorem lw_p56 : lw_okq (⟨"CommonDenominatorModel", "stateAt", "(II)I"⟩, 48) := ⟨⟨by decide +kernel, by decide +kernel⟩, ip_xt5 (ip_v5_2 (List.mem_of_getElem? (l := ip_u5_2.1) (i := 13) rfl)), ip_xt6 (ip_v6_5 (List.mem_of_getElem? (l := ip_u6_5.1) (i := 25) rfl)), ip_xt6 (ip_v6_5 (List.mem_of_getElem? (l := ip_u6_5.1) (i := 26) rfl))⟩
theorem lw_p57 : lw_okq (⟨"CommonDenominatorModel", "tries", "()Z"⟩, 48) := ⟨⟨by decide +kernel, by decide +kernel⟩, ip_xt5 (ip_v5_2 (List.mem_of_getElem? (l := ip_u5_2.1) (i := 13) rfl)), ip_xt6 (ip_v6_5 (List.mem_of_getElem? (l := ip_u6_5.1) (i := 29) rfl)), ip_xt6 (ip_v6_5 (List.mem_of_getElem? (l := ip_u6_5.1) (i := 30) rfl))⟩
theorem lw_p58 : lw_okq (⟨"CommonDenominatorModel", "squared", "([JIII)V"⟩, 48) := ⟨⟨by decide +kernel, by decide +kernel⟩, ip_xt5 (ip_v5_2 (List.mem_of_getElem? (l := ip_u5_2.1) (i := 13) rfl)), ip_xt6 (ip_v6_6 (List.mem_of_getElem? (l := ip_u6_6.1) (i := 1) rfl)), ip_xt6 (ip_v6_6 (List.mem_of_getElem? (l := ip_u6_6.1) (i := 2) rfl))⟩
theorem lw_p59 : lw_okq (⟨"CommonDenominatorModel", "times", "(JJ)J"⟩, 48) := ⟨⟨by decide +kernel, by decide +kernel⟩, ip_xt5 (ip_v5_2 (List.mem_of_getElem? (l := ip_u5_2.1) (i := 13) rfl)), ip_xt6 (ip_v6_6 (List.mem_of_getElem? (l := ip_u6_6.1) (i := 5) rfl)), ip_xt6 (ip_v6_6 (List.mem_of_getElem? (l := ip_u6_6.1) (i := 6) rfl))⟩
theorem lw_p60 : lw_okq (⟨"CommonDenominatorModel", "plus", "(JJ)J"⟩, 48) := ⟨⟨by decide +kernel, by decide +kernel⟩, ip_xt5 (ip_v5_2 (List.mem_of_getElem? (l := ip_u5_2.1) (i := 13) rfl)), ip_xt6 (ip_v6_6 (List.mem_of_getElem? (l := ip_u6_6.1) (i := 10) rfl)), ip_xt6 (ip_v6_6 (List.mem_of_getElem? (l := ip_u6_6.1) (i := 11) rfl))⟩
theorem lw_p61 : lw_okq (⟨"CommonDenominatorModel", "isNext", "(I)Z"⟩, 48) := ⟨⟨by decide +kernel, by decide +kernel⟩, ip_xt5 (ip_v5_2 (List.mem_of_getElem? (l := ip_u5_2.1) (i := 13) rfl)), ip_xt6 (ip_v6_6 (List.mem_of_getElem? (l := ip_u6_6.1) (i := 14) rfl)), ip_xt6 (ip_v6_6 (List.mem_of_getElem? (l := ip_u6_6.1) (i := 15) rfl))⟩
theorem lw_p62 : lw_okq (⟨"CommonDenominatorModel", "does", "()V"⟩, 48) := ⟨⟨by decide +kernel, by decide +kernel⟩, ip_xt5 (ip_v5_2 (List.mem_of_getElem? (l := ip_u5_2.1) (i := 13) rfl)), ip_xt6 (ip_v6_6 (List.mem_of_getElem? (l := ip_u6_6.1) (i := 18) rfl)), ip_xt6 (ip_v6_6 (List.mem_of_getElem? (l := ip_u6_6.1) (i := 19) rfl))⟩
theorem lw_p63 : lw_okq (⟨"CommonDenominatorModel", "looksBack", "()V"⟩, 48) := ⟨⟨by decide +kernel, by decide +kernel⟩, ip_xt5 (ip_v5_2 (List.mem_of_getElem? (l := ip_u5_2.1) (i := 13) rfl)), ip_xt6 (ip_v6_6 (List.mem_of_getElem? (l := ip_u6_6.1) (i := 22) rfl)), ip_xt6 (ip_v6_6 (List.mem_of_getElem? (l := ip_u6_6.1) (i := 23) rfl))⟩
def lw_privs_4 : List (MethodName × Nat) := [(⟨"CommonDenominatorModel", "xbAll", "(J)J"⟩, 48), (⟨"CommonDenominatorModel", "xcAll", "(J)J"⟩, 48), (⟨"CommonDenominatorModel", "canBe", "()Z"⟩, 48), (⟨"CommonDenominatorModel", "canBegin", "(II)Z"⟩, 48), (⟨"CommonDenominatorModel", "begins", "(III)V"⟩, 48), (⟨"CommonDenominatorModel", "floorAt", "(II)I"⟩, 48), (⟨"CommonDenominatorModel", "ends", "()Z"⟩, 48), (⟨"CommonDenominatorModel", "parts", "()V"⟩, 48), (⟨"CommonDenominatorModel", "stateAt", "(II)I"⟩, 48), (⟨"CommonDenominatorModel", "tries", "()Z"⟩, 48), (⟨"CommonDenominatorModel", "squared", "([JIII)V"⟩, 48), (⟨"CommonDenominatorModel", "times", "(JJ)J"⟩, 48), (⟨"CommonDenominatorModel", "plus", "(JJ)J"⟩, 48), (⟨"CommonDenominatorModel", "isNext", "(I)Z"⟩, 48), (⟨"CommonDenominatorModel", "does", "()V"⟩, 48), (⟨"CommonDenominatorModel", "looksBack", "()V"⟩, 48)]
theorem lw_r4 : ∀ q ∈ lw_privs_4, lw_okq q := List.forall_mem_cons.mpr ⟨lw_p48, List.forall_mem_cons.mpr ⟨lw_p49, List.forall_mem_cons.mpr ⟨lw_p50, List.forall_mem_cons.mpr ⟨lw_p51, List.forall_mem_cons.mpr ⟨lw_p52, List.forall_mem_cons.mpr ⟨lw_p53, List.forall_mem_cons.mpr ⟨lw_p54, List.forall_mem_cons.mpr ⟨lw_p55, List.forall_mem_cons.mpr ⟨lw_p56, List.forall_mem_cons.mpr ⟨lw_p57, List.forall_mem_cons.mpr ⟨lw_p58, List.forall_mem_cons.mpr ⟨lw_p59, List.forall_mem_cons.mpr ⟨lw_p60, List.forall_mem_cons.mpr ⟨lw_p61, List.forall_mem_cons.mpr ⟨lw_p62, List.forall_mem_cons.mpr ⟨lw_p63, fun _ h => absurd h List.not_mem_nil⟩⟩⟩⟩⟩⟩⟩⟩⟩⟩⟩⟩⟩⟩⟩⟩
theorem lw_p64 : lw_okq (⟨"CommonDenominatorModel", "areAlike", "(II)Z"⟩, 48) := ⟨⟨by decide +kernel, by decide +kernel⟩, ip_xt5 (ip_v5_2 (List.mem_of_getElem? (l := ip_u5_2.1) (i := 13) rfl)), ip_xt6 (ip_v6_6 (List.mem_of_getElem? (l := ip_u6_6.1) (i := 26) rfl)), ip_xt6 (ip_v6_6 (List.mem_of_getElem? (l := ip_u6_6.1) (i := 27) rfl))⟩
theorem lw_p65 : lw_okq (⟨"CommonDenominatorModel", "lays4", "(I)V"⟩, 48) := ⟨⟨by decide +kernel, by decide +kernel⟩, ip_xt5 (ip_v5_2 (List.mem_of_getElem? (l := ip_u5_2.1) (i := 13) rfl)), ip_xt6 (ip_v6_7 (List.mem_of_getElem? (l := ip_u6_7.1) (i := 10) rfl)), ip_xt6 (ip_v6_7 (List.mem_of_getElem? (l := ip_u6_7.1) (i := 11) rfl))⟩
theorem lw_p66 : lw_okq (⟨"CommonDenominatorModel", "readsAll", "()I"⟩, 48) := ⟨⟨by decide +kernel, by decide +kernel⟩, ip_xt5 (ip_v5_2 (List.mem_of_getElem? (l := ip_u5_2.1) (i := 13) rfl)), ip_xt7 (ip_v7_0 (List.mem_of_getElem? (l := ip_u7_0.1) (i := 6) rfl)), ip_xt7 (ip_v7_0 (List.mem_of_getElem? (l := ip_u7_0.1) (i := 7) rfl))⟩
theorem lw_p67 : lw_okq (⟨"CommonDenominatorModel", "reads", "()V"⟩, 48) := ⟨⟨by decide +kernel, by decide +kernel⟩, ip_xt5 (ip_v5_2 (List.mem_of_getElem? (l := ip_u5_2.1) (i := 13) rfl)), ip_xt7 (ip_v7_0 (List.mem_of_getElem? (l := ip_u7_0.1) (i := 10) rfl)), ip_xt7 (ip_v7_0 (List.mem_of_getElem? (l := ip_u7_0.1) (i := 11) rfl))⟩
theorem lw_p68 : lw_okq (⟨"CommonDenominatorModel", "isFigure", "()Z"⟩, 48) := ⟨⟨by decide +kernel, by decide +kernel⟩, ip_xt5 (ip_v5_2 (List.mem_of_getElem? (l := ip_u5_2.1) (i := 13) rfl)), ip_xt7 (ip_v7_0 (List.mem_of_getElem? (l := ip_u7_0.1) (i := 14) rfl)), ip_xt7 (ip_v7_0 (List.mem_of_getElem? (l := ip_u7_0.1) (i := 15) rfl))⟩
theorem lw_p69 : lw_okq (⟨"CommonDenominatorModel", "readsOne", "(I)Z"⟩, 48) := ⟨⟨by decide +kernel, by decide +kernel⟩, ip_xt5 (ip_v5_2 (List.mem_of_getElem? (l := ip_u5_2.1) (i := 13) rfl)), ip_xt7 (ip_v7_0 (List.mem_of_getElem? (l := ip_u7_0.1) (i := 18) rfl)), ip_xt7 (ip_v7_0 (List.mem_of_getElem? (l := ip_u7_0.1) (i := 19) rfl))⟩
theorem lw_p70 : lw_okq (⟨"CommonDenominatorModel", "isWhole", "()Z"⟩, 48) := ⟨⟨by decide +kernel, by decide +kernel⟩, ip_xt5 (ip_v5_2 (List.mem_of_getElem? (l := ip_u5_2.1) (i := 13) rfl)), ip_xt7 (ip_v7_0 (List.mem_of_getElem? (l := ip_u7_0.1) (i := 22) rfl)), ip_xt7 (ip_v7_0 (List.mem_of_getElem? (l := ip_u7_0.1) (i := 23) rfl))⟩
theorem lw_p71 : lw_okq (⟨"CommonDenominatorModel", "turnedIn", "(II)I"⟩, 48) := ⟨⟨by decide +kernel, by decide +kernel⟩, ip_xt5 (ip_v5_2 (List.mem_of_getElem? (l := ip_u5_2.1) (i := 13) rfl)), ip_xt7 (ip_v7_2 (List.mem_of_getElem? (l := ip_u7_2.1) (i := 0) rfl)), ip_xt7 (ip_v7_2 (List.mem_of_getElem? (l := ip_u7_2.1) (i := 1) rfl))⟩
theorem lw_p72 : lw_okq (⟨"CommonDenominatorModel", "areBounds", "()Z"⟩, 48) := ⟨⟨by decide +kernel, by decide +kernel⟩, ip_xt5 (ip_v5_2 (List.mem_of_getElem? (l := ip_u5_2.1) (i := 13) rfl)), ip_xt7 (ip_v7_2 (List.mem_of_getElem? (l := ip_u7_2.1) (i := 11) rfl)), ip_xt7 (ip_v7_2 (List.mem_of_getElem? (l := ip_u7_2.1) (i := 12) rfl))⟩
theorem lw_p73 : lw_okq (⟨"CommonDenominatorModel", "outerOf", "(II)I"⟩, 48) := ⟨⟨by decide +kernel, by decide +kernel⟩, ip_xt5 (ip_v5_2 (List.mem_of_getElem? (l := ip_u5_2.1) (i := 13) rfl)), ip_xt7 (ip_v7_2 (List.mem_of_getElem? (l := ip_u7_2.1) (i := 15) rfl)), ip_xt7 (ip_v7_2 (List.mem_of_getElem? (l := ip_u7_2.1) (i := 16) rfl))⟩
theorem lw_p74 : lw_okq (⟨"CommonDenominatorModel", "isWithinBillion", "()Z"⟩, 48) := ⟨⟨by decide +kernel, by decide +kernel⟩, ip_xt5 (ip_v5_2 (List.mem_of_getElem? (l := ip_u5_2.1) (i := 13) rfl)), ip_xt7 (ip_v7_2 (List.mem_of_getElem? (l := ip_u7_2.1) (i := 30) rfl)), ip_xt7 (ip_v7_2 (List.mem_of_getElem? (l := ip_u7_2.1) (i := 31) rfl))⟩
theorem lw_p75 : lw_okq (⟨"CommonDenominatorModel", "othe\x72", "(II)J"⟩, 48) := ⟨⟨by decide +kernel, by decide +kernel⟩, ip_xt5 (ip_v5_2 (List.mem_of_getElem? (l := ip_u5_2.1) (i := 13) rfl)), ip_xt7 (ip_v7_3 (List.mem_of_getElem? (l := ip_u7_3.1) (i := 3) rfl)), ip_xt7 (ip_v7_3 (List.mem_of_getElem? (l := ip_u7_3.1) (i := 4) rfl))⟩
theorem lw_p76 : lw_okq (⟨"CommonDenominatorModel", "laysSimplest", "(I)V"⟩, 48) := ⟨⟨by decide +kernel, by decide +kernel⟩, ip_xt5 (ip_v5_2 (List.mem_of_getElem? (l := ip_u5_2.1) (i := 13) rfl)), ip_xt7 (ip_v7_3 (List.mem_of_getElem? (l := ip_u7_3.1) (i := 15) rfl)), ip_xt7 (ip_v7_3 (List.mem_of_getElem? (l := ip_u7_3.1) (i := 16) rfl))⟩
theorem lw_p77 : lw_okq (⟨"CommonDenominatorModel", "areSmall", "(I)Z"⟩, 48) := ⟨⟨by decide +kernel, by decide +kernel⟩, ip_xt5 (ip_v5_2 (List.mem_of_getElem? (l := ip_u5_2.1) (i := 13) rfl)), ip_xt7 (ip_v7_3 (List.mem_of_getElem? (l := ip_u7_3.1) (i := 23) rfl)), ip_xt7 (ip_v7_3 (List.mem_of_getElem? (l := ip_u7_3.1) (i := 24) rfl))⟩
theorem lw_p78 : lw_okq (⟨"CommonDenominatorModel", "wholeBy", "(IJ)J"⟩, 48) := ⟨⟨by decide +kernel, by decide +kernel⟩, ip_xt5 (ip_v5_2 (List.mem_of_getElem? (l := ip_u5_2.1) (i := 13) rfl)), ip_xt7 (ip_v7_3 (List.mem_of_getElem? (l := ip_u7_3.1) (i := 28) rfl)), ip_xt7 (ip_v7_3 (List.mem_of_getElem? (l := ip_u7_3.1) (i := 29) rfl))⟩
theorem lw_p79 : lw_okq (⟨"CommonDenominatorModel", "isPeriod", "()Z"⟩, 48) := ⟨⟨by decide +kernel, by decide +kernel⟩, ip_xt5 (ip_v5_2 (List.mem_of_getElem? (l := ip_u5_2.1) (i := 13) rfl)), ip_xt7 (ip_v7_4 (List.mem_of_getElem? (l := ip_u7_4.1) (i := 4) rfl)), ip_xt7 (ip_v7_4 (List.mem_of_getElem? (l := ip_u7_4.1) (i := 5) rfl))⟩
def lw_privs_5 : List (MethodName × Nat) := [(⟨"CommonDenominatorModel", "areAlike", "(II)Z"⟩, 48), (⟨"CommonDenominatorModel", "lays4", "(I)V"⟩, 48), (⟨"CommonDenominatorModel", "readsAll", "()I"⟩, 48), (⟨"CommonDenominatorModel", "reads", "()V"⟩, 48), (⟨"CommonDenominatorModel", "isFigure", "()Z"⟩, 48), (⟨"CommonDenominatorModel", "readsOne", "(I)Z"⟩, 48), (⟨"CommonDenominatorModel", "isWhole", "()Z"⟩, 48), (⟨"CommonDenominatorModel", "turnedIn", "(II)I"⟩, 48), (⟨"CommonDenominatorModel", "areBounds", "()Z"⟩, 48), (⟨"CommonDenominatorModel", "outerOf", "(II)I"⟩, 48), (⟨"CommonDenominatorModel", "isWithinBillion", "()Z"⟩, 48), (⟨"CommonDenominatorModel", "othe\x72", "(II)J"⟩, 48), (⟨"CommonDenominatorModel", "laysSimplest", "(I)V"⟩, 48), (⟨"CommonDenominatorModel", "areSmall", "(I)Z"⟩, 48), (⟨"CommonDenominatorModel", "wholeBy", "(IJ)J"⟩, 48), (⟨"CommonDenominatorModel", "isPeriod", "()Z"⟩, 48)]
theorem lw_r5 : ∀ q ∈ lw_privs_5, lw_okq q := List.forall_mem_cons.mpr ⟨lw_p64, List.forall_mem_cons.mpr ⟨lw_p65, List.forall_mem_cons.mpr ⟨lw_p66, List.forall_mem_cons.mpr ⟨lw_p67, List.forall_mem_cons.mpr ⟨lw_p68, List.forall_mem_cons.mpr ⟨lw_p69, List.forall_mem_cons.mpr ⟨lw_p70, List.forall_mem_cons.mpr ⟨lw_p71, List.forall_mem_cons.mpr ⟨lw_p72, List.forall_mem_cons.mpr ⟨lw_p73, List.forall_mem_cons.mpr ⟨lw_p74, List.forall_mem_cons.mpr ⟨lw_p75, List.forall_mem_cons.mpr ⟨lw_p76, List.forall_mem_cons.mpr ⟨lw_p77, List.forall_mem_cons.mpr ⟨lw_p78, List.forall_mem_cons.mpr ⟨lw_p79, fun _ h => absurd h List.not_mem_nil⟩⟩⟩⟩⟩⟩⟩⟩⟩⟩⟩⟩⟩⟩⟩⟩
theorem lw_p80 : lw_okq (⟨"CommonDenominatorModel", "laysRound", "()Z"⟩, 48) := ⟨⟨by decide +kernel, by decide +kernel⟩, ip_xt5 (ip_v5_2 (List.mem_of_getElem? (l := ip_u5_2.1) (i := 13) rfl)), ip_xt7 (ip_v7_4 (List.mem_of_getElem? (l := ip_u7_4.1) (i := 12) rfl)), ip_xt7 (ip_v7_4 (List.mem_of_getElem? (l := ip_u7_4.1) (i := 13) rfl))⟩
theorem lw_p81 : lw_okq (⟨"CommonDenominatorModel", "begins1", "()V"⟩, 48) := ⟨⟨by decide +kernel, by decide +kernel⟩, ip_xt5 (ip_v5_2 (List.mem_of_getElem? (l := ip_u5_2.1) (i := 13) rfl)), ip_xt7 (ip_v7_4 (List.mem_of_getElem? (l := ip_u7_4.1) (i := 16) rfl)), ip_xt7 (ip_v7_4 (List.mem_of_getElem? (l := ip_u7_4.1) (i := 17) rfl))⟩
theorem lw_p82 : lw_okq (⟨"CommonDenominatorModel", "rounds", "(I)V"⟩, 48) := ⟨⟨by decide +kernel, by decide +kernel⟩, ip_xt5 (ip_v5_2 (List.mem_of_getElem? (l := ip_u5_2.1) (i := 13) rfl)), ip_xt7 (ip_v7_4 (List.mem_of_getElem? (l := ip_u7_4.1) (i := 20) rfl)), ip_xt7 (ip_v7_4 (List.mem_of_getElem? (l := ip_u7_4.1) (i := 21) rfl))⟩
theorem lw_p83 : lw_okq (⟨"CommonDenominatorModel", "isUnit", "()Z"⟩, 48) := ⟨⟨by decide +kernel, by decide +kernel⟩, ip_xt5 (ip_v5_2 (List.mem_of_getElem? (l := ip_u5_2.1) (i := 13) rfl)), ip_xt7 (ip_v7_4 (List.mem_of_getElem? (l := ip_u7_4.1) (i := 28) rfl)), ip_xt7 (ip_v7_4 (List.mem_of_getElem? (l := ip_u7_4.1) (i := 29) rfl))⟩
theorem lw_p84 : lw_okq (⟨"CommonDenominatorModel", "isGreat", "(II)Z"⟩, 48) := ⟨⟨by decide +kernel, by decide +kernel⟩, ip_xt5 (ip_v5_2 (List.mem_of_getElem? (l := ip_u5_2.1) (i := 13) rfl)), ip_xt7 (ip_v7_5 (List.mem_of_getElem? (l := ip_u7_5.1) (i := 1) rfl)), ip_xt7 (ip_v7_5 (List.mem_of_getElem? (l := ip_u7_5.1) (i := 2) rfl))⟩
theorem lw_p85 : lw_okq (⟨"CommonDenominatorModel", "mino\x72", "(II)J"⟩, 48) := ⟨⟨by decide +kernel, by decide +kernel⟩, ip_xt5 (ip_v5_2 (List.mem_of_getElem? (l := ip_u5_2.1) (i := 13) rfl)), ip_xt7 (ip_v7_5 (List.mem_of_getElem? (l := ip_u7_5.1) (i := 9) rfl)), ip_xt7 (ip_v7_5 (List.mem_of_getElem? (l := ip_u7_5.1) (i := 10) rfl))⟩
theorem lw_p86 : lw_okq (⟨"CommonDenominatorModel", "isNone", "(III)Z"⟩, 48) := ⟨⟨by decide +kernel, by decide +kernel⟩, ip_xt5 (ip_v5_2 (List.mem_of_getElem? (l := ip_u5_2.1) (i := 13) rfl)), ip_xt7 (ip_v7_5 (List.mem_of_getElem? (l := ip_u7_5.1) (i := 17) rfl)), ip_xt7 (ip_v7_5 (List.mem_of_getElem? (l := ip_u7_5.1) (i := 18) rfl))⟩
theorem lw_p87 : lw_okq (⟨"CommonDenominatorModel", "isPrope\x72", "()Z"⟩, 48) := ⟨⟨by decide +kernel, by decide +kernel⟩, ip_xt5 (ip_v5_2 (List.mem_of_getElem? (l := ip_u5_2.1) (i := 13) rfl)), ip_xt7 (ip_v7_6 (List.mem_of_getElem? (l := ip_u7_6.1) (i := 8) rfl)), ip_xt7 (ip_v7_6 (List.mem_of_getElem? (l := ip_u7_6.1) (i := 9) rfl))⟩
theorem lw_p88 : lw_okq (⟨"CommonDenominatorModel", "isAsStep", "(I)Z"⟩, 48) := ⟨⟨by decide +kernel, by decide +kernel⟩, ip_xt5 (ip_v5_2 (List.mem_of_getElem? (l := ip_u5_2.1) (i := 13) rfl)), ip_xt7 (ip_v7_6 (List.mem_of_getElem? (l := ip_u7_6.1) (i := 12) rfl)), ip_xt7 (ip_v7_6 (List.mem_of_getElem? (l := ip_u7_6.1) (i := 13) rfl))⟩
theorem lw_p89 : lw_okq (⟨"CommonDenominatorModel", "laysSquares", "()Z"⟩, 48) := ⟨⟨by decide +kernel, by decide +kernel⟩, ip_xt5 (ip_v5_2 (List.mem_of_getElem? (l := ip_u5_2.1) (i := 13) rfl)), ip_xt7 (ip_v7_6 (List.mem_of_getElem? (l := ip_u7_6.1) (i := 20) rfl)), ip_xt7 (ip_v7_6 (List.mem_of_getElem? (l := ip_u7_6.1) (i := 21) rfl))⟩
theorem lw_p90 : lw_okq (⟨"CommonDenominatorModel", "turnedInWord", "()I"⟩, 48) := ⟨⟨by decide +kernel, by decide +kernel⟩, ip_xt5 (ip_v5_2 (List.mem_of_getElem? (l := ip_u5_2.1) (i := 13) rfl)), ip_xt7 (ip_v7_6 (List.mem_of_getElem? (l := ip_u7_6.1) (i := 25) rfl)), ip_xt7 (ip_v7_6 (List.mem_of_getElem? (l := ip_u7_6.1) (i := 26) rfl))⟩
theorem lw_p91 : lw_okq (⟨"CommonDenominatorModel", "isSolved", "()Z"⟩, 48) := ⟨⟨by decide +kernel, by decide +kernel⟩, ip_xt5 (ip_v5_2 (List.mem_of_getElem? (l := ip_u5_2.1) (i := 13) rfl)), ip_xt7 (ip_v7_6 (List.mem_of_getElem? (l := ip_u7_6.1) (i := 29) rfl)), ip_xt7 (ip_v7_6 (List.mem_of_getElem? (l := ip_u7_6.1) (i := 30) rfl))⟩
theorem lw_p92 : lw_okq (⟨"CommonDenominatorModel", "refusesField", "(III)I"⟩, 48) := ⟨⟨by decide +kernel, by decide +kernel⟩, ip_xt5 (ip_v5_2 (List.mem_of_getElem? (l := ip_u5_2.1) (i := 13) rfl)), ip_xt7 (ip_v7_7 (List.mem_of_getElem? (l := ip_u7_7.1) (i := 1) rfl)), ip_xt7 (ip_v7_7 (List.mem_of_getElem? (l := ip_u7_7.1) (i := 2) rfl))⟩
theorem lw_p93 : lw_okq (⟨"CommonDenominatorModel", "second", "(IIII)V"⟩, 48) := ⟨⟨by decide +kernel, by decide +kernel⟩, ip_xt5 (ip_v5_2 (List.mem_of_getElem? (l := ip_u5_2.1) (i := 13) rfl)), ip_xt7 (ip_v7_7 (List.mem_of_getElem? (l := ip_u7_7.1) (i := 5) rfl)), ip_xt7 (ip_v7_7 (List.mem_of_getElem? (l := ip_u7_7.1) (i := 6) rfl))⟩
theorem lw_p94 : lw_okq (⟨"CommonDenominatorModel", "goesOn", "()I"⟩, 48) := ⟨⟨by decide +kernel, by decide +kernel⟩, ip_xt5 (ip_v5_2 (List.mem_of_getElem? (l := ip_u5_2.1) (i := 13) rfl)), ip_xt7 (ip_v7_7 (List.mem_of_getElem? (l := ip_u7_7.1) (i := 13) rfl)), ip_xt7 (ip_v7_7 (List.mem_of_getElem? (l := ip_u7_7.1) (i := 14) rfl))⟩
def lw_privs_6 : List (MethodName × Nat) := [(⟨"CommonDenominatorModel", "laysRound", "()Z"⟩, 48), (⟨"CommonDenominatorModel", "begins1", "()V"⟩, 48), (⟨"CommonDenominatorModel", "rounds", "(I)V"⟩, 48), (⟨"CommonDenominatorModel", "isUnit", "()Z"⟩, 48), (⟨"CommonDenominatorModel", "isGreat", "(II)Z"⟩, 48), (⟨"CommonDenominatorModel", "mino\x72", "(II)J"⟩, 48), (⟨"CommonDenominatorModel", "isNone", "(III)Z"⟩, 48), (⟨"CommonDenominatorModel", "isPrope\x72", "()Z"⟩, 48), (⟨"CommonDenominatorModel", "isAsStep", "(I)Z"⟩, 48), (⟨"CommonDenominatorModel", "laysSquares", "()Z"⟩, 48), (⟨"CommonDenominatorModel", "turnedInWord", "()I"⟩, 48), (⟨"CommonDenominatorModel", "isSolved", "()Z"⟩, 48), (⟨"CommonDenominatorModel", "refusesField", "(III)I"⟩, 48), (⟨"CommonDenominatorModel", "second", "(IIII)V"⟩, 48), (⟨"CommonDenominatorModel", "goesOn", "()I"⟩, 48)]
theorem lw_r6 : ∀ q ∈ lw_privs_6, lw_okq q := List.forall_mem_cons.mpr ⟨lw_p80, List.forall_mem_cons.mpr ⟨lw_p81, List.forall_mem_cons.mpr ⟨lw_p82, List.forall_mem_cons.mpr ⟨lw_p83, List.forall_mem_cons.mpr ⟨lw_p84, List.forall_mem_cons.mpr ⟨lw_p85, List.forall_mem_cons.mpr ⟨lw_p86, List.forall_mem_cons.mpr ⟨lw_p87, List.forall_mem_cons.mpr ⟨lw_p88, List.forall_mem_cons.mpr ⟨lw_p89, List.forall_mem_cons.mpr ⟨lw_p90, List.forall_mem_cons.mpr ⟨lw_p91, List.forall_mem_cons.mpr ⟨lw_p92, List.forall_mem_cons.mpr ⟨lw_p93, List.forall_mem_cons.mpr ⟨lw_p94, fun _ h => absurd h List.not_mem_nil⟩⟩⟩⟩⟩⟩⟩⟩⟩⟩⟩⟩⟩⟩⟩
def lw_privs : List (MethodName × Nat) := lw_privs_1 ++ (lw_privs_2 ++ (lw_privs_3 ++ (lw_privs_4 ++ (lw_privs_5 ++ (lw_privs_6)))))
def lw_tbl : List Cond := k2_sels lw_privs ++ tables_1
theorem lw_privs_ok : ∀ q ∈ lw_privs, lw_okq q := by
  show ∀ q ∈ lw_privs_1 ++ (lw_privs_2 ++ (lw_privs_3 ++ (lw_privs_4 ++ (lw_privs_5 ++ (lw_privs_6))))), lw_okq q
  exact List.forall_mem_append.mpr ⟨lw_r1, List.forall_mem_append.mpr ⟨lw_r2, List.forall_mem_append.mpr ⟨lw_r3, List.forall_mem_append.mpr ⟨lw_r4, List.forall_mem_append.mpr ⟨lw_r5, lw_r6⟩⟩⟩⟩⟩
end
noncomputable section
-- PART 02.names
-- names of classes, fields and methods (begun from claim/NAMES.whole.lean.txt)
def RX0 : String := "CommonDenominator$Bounds"
def TX0 : u_T := fun k => match k with
  | 0 => ("CommonDenominator$Bounds", "ends", "[J", true)
  | _ => ("CommonDenominator$Bounds", "columns", "[I", true)
def tyX0 : Nat → FieldType := fun k => match k with
  | 0 => .array .long
  | _ => .array .int
abbrev cX0_init : ByteArray := prog_2_method_1_code
def yX0_init : MethodName := ⟨RX0, "<init>", "()V"⟩
abbrev cX0_lay : ByteArray := prog_2_method_2_code
def yX0_lay : MethodName := ⟨RX0, "lay", "(LCommonDenominator$Square;)Z"⟩
abbrev cX0_layPart : ByteArray := prog_2_method_3_code
def yX0_layPart : MethodName := ⟨RX0, "layPart", "(LCommonDenominator$Square;I)V"⟩
abbrev cX0_order : ByteArray := prog_2_method_4_code
def yX0_order : MethodName := ⟨RX0, "orde\x72", "(LCommonDenominator$Square;III)I"⟩
abbrev cX0_endOf : ByteArray := prog_2_method_5_code
def yX0_endOf : MethodName := ⟨RX0, "endOf", "(II)J"⟩
abbrev cX0_column : ByteArray := prog_2_method_6_code
def yX0_column : MethodName := ⟨RX0, "column", "(II)I"⟩
abbrev cX0_isAbove : ByteArray := prog_2_method_7_code
def yX0_isAbove : MethodName := ⟨RX0, "isAbove", "(J)Z"⟩
abbrev cX0_simplestOf : ByteArray := prog_2_method_8_code
def yX0_simplestOf : MethodName := ⟨RX0, "simplestOf", "(II)J"⟩
abbrev cX0_sharedBy : ByteArray := prog_2_method_9_code
def yX0_sharedBy : MethodName := ⟨RX0, "sharedBy", "(I)J"⟩
abbrev cX0_leastWhole : ByteArray := prog_2_method_10_code
def yX0_leastWhole : MethodName := ⟨RX0, "leastWhole", "(II)J"⟩
def RX1 : String := "CommonDenominator$Course"
def TX1 : u_T := fun k => match k with
  | 0 => ("CommonDenominator$Course", "states", "[I", true)
  | 1 => ("CommonDenominator$Course", "turns", "[B", true)
  | 2 => ("CommonDenominator$Course", "product", "LCommonDenominator$Square;", true)
  | 3 => ("CommonDenominator$Course", "way", "I", false)
  | 4 => ("CommonDenominator$Course", "steps", "I", false)
  | 5 => ("CommonDenominator$Course", "start", "I", false)
  | 6 => ("CommonDenominator$Course", "span", "I", false)
  | 7 => ("CommonDenominator$Course", "next", "LCommonDenominator$Square;", true)
  | 8 => ("CommonDenominator$Course", "f", "LCommonDenominator$Value;", true)
  | 9 => ("CommonDenominator$Course", "g", "LCommonDenominator$Value;", true)
  | 10 => ("CommonDenominator$Course", "u", "LCommonDenominator$Value;", true)
  | 11 => ("CommonDenominator$Course", "v", "LCommonDenominator$Value;", true)
  | 12 => ("CommonDenominator$Course", "floorU", "I", false)
  | 13 => ("CommonDenominator$Course", "floorV", "I", false)
  | _ => ("CommonDenominator$Course", "turned", "Z", false)
def tyX1 : Nat → FieldType := fun k => match k with
  | 0 => .array .int
  | 1 => .array .byte
  | 2 => .object "CommonDenominator$Square"
  | 3 => .int
  | 4 => .int
  | 5 => .int
  | 6 => .int
  | 7 => .object "CommonDenominator$Square"
  | 8 => .object "CommonDenominator$Value"
  | 9 => .object "CommonDenominator$Value"
  | 10 => .object "CommonDenominator$Value"
  | 11 => .object "CommonDenominator$Value"
  | 12 => .int
  | 13 => .int
  | _ => .boolean
abbrev cX1_init : ByteArray := prog_3_method_1_code
def yX1_init : MethodName := ⟨RX1, "<init>", "()V"⟩
abbrev cX1_isOn : ByteArray := prog_3_method_2_code
def yX1_isOn : MethodName := ⟨RX1, "isOn", "()Z"⟩
abbrev cX1_hasPeriod : ByteArray := prog_3_method_3_code
def yX1_hasPeriod : MethodName := ⟨RX1, "hasPeriod", "()Z"⟩
abbrev cX1_hasState : ByteArray := prog_3_method_4_code
def yX1_hasState : MethodName := ⟨RX1, "hasState", "(I)Z"⟩
abbrev cX1_number : ByteArray := prog_3_method_5_code
def yX1_number : MethodName := ⟨RX1, "numbe\x72", "(III)I"⟩
abbrev cX1_floorAt : ByteArray := prog_3_method_6_code
def yX1_floorAt : MethodName := ⟨RX1, "floorAt", "(II)I"⟩
abbrev cX1_lay : ByteArray := prog_3_method_7_code
def yX1_lay : MethodName := ⟨RX1, "lay", "(IILCommonDenominator$Value;)V"⟩
abbrev cX1_digitOf : ByteArray := prog_3_method_8_code
def yX1_digitOf : MethodName := ⟨RX1, "digitOf", "(II)I"⟩
abbrev cX1_canOpen : ByteArray := prog_3_method_9_code
def yX1_canOpen : MethodName := ⟨RX1, "canOpen", "(LCommonDenominator$Field;LCommonDenominator$Value;LCommonDenominator$Value;)Z"⟩
abbrev cX1_isFit : ByteArray := prog_3_method_10_code
def yX1_isFit : MethodName := ⟨RX1, "isFit", "(LCommonDenominator$Field;LCommonDenominator$Value;)Z"⟩
abbrev cX1_open : ByteArray := prog_3_method_11_code
def yX1_open : MethodName := ⟨RX1, "open", "(LCommonDenominator$Field;LCommonDenominator$Value;LCommonDenominator$Value;I)V"⟩
abbrev cX1_close : ByteArray := prog_3_method_12_code
def yX1_close : MethodName := ⟨RX1, "close", "()V"⟩
abbrev cX1_reopen : ByteArray := prog_3_method_13_code
def yX1_reopen : MethodName := ⟨RX1, "reopen", "(LCommonDenominator$Field;[III)V"⟩
abbrev cX1_ends : ByteArray := prog_3_method_14_code
def yX1_ends : MethodName := ⟨RX1, "ends", "()Z"⟩
abbrev cX1_isWhole : ByteArray := prog_3_method_15_code
def yX1_isWhole : MethodName := ⟨RX1, "isWhole", "(I)Z"⟩
abbrev cX1_prepare : ByteArray := prog_3_method_16_code
def yX1_prepare : MethodName := ⟨RX1, "prepare", "(LCommonDenominator$Field;)I"⟩
abbrev cX1_layRests : ByteArray := prog_3_method_17_code
def yX1_layRests : MethodName := ⟨RX1, "layRests", "(LCommonDenominator$Field;)V"⟩
abbrev cX1_take : ByteArray := prog_3_method_18_code
def yX1_take : MethodName := ⟨RX1, "take", "()V"⟩
abbrev cX1_saveState : ByteArray := prog_3_method_19_code
def yX1_saveState : MethodName := ⟨RX1, "saveState", "()V"⟩
abbrev cX1_findPeriod : ByteArray := prog_3_method_20_code
def yX1_findPeriod : MethodName := ⟨RX1, "findPeriod", "()V"⟩
abbrev cX1_isLikeLast : ByteArray := prog_3_method_21_code
def yX1_isLikeLast : MethodName := ⟨RX1, "isLikeLast", "(I)Z"⟩
abbrev cX1_runOut : ByteArray := prog_3_method_22_code
def yX1_runOut : MethodName := ⟨RX1, "runOut", "(LCommonDenominator$Field;)I"⟩
abbrev cX1_countOf : ByteArray := prog_3_method_23_code
def yX1_countOf : MethodName := ⟨RX1, "countOf", "(I)I"⟩
abbrev cX1_layRound : ByteArray := prog_3_method_24_code
def yX1_layRound : MethodName := ⟨RX1, "layRound", "(LCommonDenominator$Square;)V"⟩
abbrev cX1_layUnit : ByteArray := prog_3_method_25_code
def yX1_layUnit : MethodName := ⟨RX1, "layUnit", "(LCommonDenominator$Square;LCommonDenominator$Value;)Z"⟩
abbrev cX1_together : ByteArray := prog_3_method_26_code
def yX1_together : MethodName := ⟨RX1, "togethe\x72", "(LCommonDenominator$Square;JJJ)J"⟩
abbrev cX1_thirdOf : ByteArray := prog_3_method_27_code
def yX1_thirdOf : MethodName := ⟨RX1, "thirdOf", "(II)I"⟩
abbrev cX1_relates : ByteArray := prog_3_method_28_code
def yX1_relates : MethodName := ⟨RX1, "relates", "(III)Z"⟩
def RX2 : String := "CommonDenominator$Field"
def TX2 : u_T := fun k => match k with
  | 0 => ("CommonDenominator$Field", "p", "I", false)
  | 1 => ("CommonDenominator$Field", "q", "I", false)
  | 2 => ("CommonDenominator$Field", "\x72", "I", false)
  | 3 => ("CommonDenominator$Field", "rows", "LCommonDenominator$Square;", true)
  | _ => ("CommonDenominator$Field", "below", "LCommonDenominator$Value;", true)
def tyX2 : Nat → FieldType := fun k => match k with
  | 0 => .int
  | 1 => .int
  | 2 => .int
  | 3 => .object "CommonDenominator$Square"
  | _ => .object "CommonDenominator$Value"
abbrev cX2_init : ByteArray := prog_4_method_1_code
def yX2_init : MethodName := ⟨RX2, "<init>", "()V"⟩
abbrev cX2_inRange : ByteArray := prog_4_method_2_code
def yX2_inRange : MethodName := ⟨RX2, "inRange", "(JJJ)Z"⟩
abbrev cX2_canBe : ByteArray := prog_4_method_3_code
def yX2_canBe : MethodName := ⟨RX2, "canBe", "(JJJ)Z"⟩
abbrev cX2_discriminantOf : ByteArray := prog_4_method_4_code
def yX2_discriminantOf : MethodName := ⟨RX2, "discriminantOf", "(JJJ)J"⟩
abbrev cX2_put : ByteArray := prog_4_method_5_code
def yX2_put : MethodName := ⟨RX2, "put", "(III)V"⟩
abbrev cX2_discriminant : ByteArray := prog_4_method_6_code
def yX2_discriminant : MethodName := ⟨RX2, "discriminant", "()I"⟩
abbrev cX2_layRows : ByteArray := prog_4_method_7_code
def yX2_layRows : MethodName := ⟨RX2, "layRows", "(JJJ)V"⟩
abbrev cX2_signOf : ByteArray := prog_4_method_8_code
def yX2_signOf : MethodName := ⟨RX2, "signOf", "(JJJ)I"⟩
abbrev cX2_sign : ByteArray := prog_4_method_9_code
def yX2_sign : MethodName := ⟨RX2, "sign", "(LCommonDenominator$Value;)I"⟩
abbrev cX2_signLess : ByteArray := prog_4_method_10_code
def yX2_signLess : MethodName := ⟨RX2, "signLess", "(LCommonDenominator$Value;JJ)I"⟩
abbrev cX2_signOfDifference : ByteArray := prog_4_method_11_code
def yX2_signOfDifference : MethodName := ⟨RX2, "signOfDifference", "(LCommonDenominator$Value;LCommonDenominator$Value;)I"⟩
abbrev cX2_floor : ByteArray := prog_4_method_12_code
def yX2_floor : MethodName := ⟨RX2, "floo\x72", "(LCommonDenominator$Value;)I"⟩
abbrev cX2_add : ByteArray := prog_4_method_13_code
def yX2_add : MethodName := ⟨RX2, "add", "(LCommonDenominator$Value;LCommonDenominator$Value;ILCommonDenominator$Value;)V"⟩
abbrev cX2_multiply : ByteArray := prog_4_method_14_code
def yX2_multiply : MethodName := ⟨RX2, "multiply", "(LCommonDenominator$Value;LCommonDenominator$Value;LCommonDenominator$Value;)V"⟩
abbrev cX2_divide : ByteArray := prog_4_method_15_code
def yX2_divide : MethodName := ⟨RX2, "divide", "(LCommonDenominator$Value;LCommonDenominator$Value;LCommonDenominator$Value;)V"⟩
abbrev cX2_layRatios : ByteArray := prog_4_method_16_code
def yX2_layRatios : MethodName := ⟨RX2, "layRatios", "(LCommonDenominator$Square;LCommonDenominator$Value;LCommonDenominator$Value;)Z"⟩
def RX3 : String := "CommonDenominator$Past"
def TX3 : u_T := fun k => match k with
  | 0 => ("CommonDenominator$Past", "ahead", "[LCommonDenominator$Stand;", true)
  | 1 => ("CommonDenominator$Past", "acts", "[I", true)
  | 2 => ("CommonDenominator$Past", "images", "[LCommonDenominator$Stand;", true)
  | 3 => ("CommonDenominator$Past", "kept", "[Z", true)
  | 4 => ("CommonDenominator$Past", "oldest", "I", false)
  | _ => ("CommonDenominator$Past", "count", "I", false)
def tyX3 : Nat → FieldType := fun k => match k with
  | 0 => .array (.object "CommonDenominator$Stand")
  | 1 => .array .int
  | 2 => .array (.object "CommonDenominator$Stand")
  | 3 => .array .boolean
  | 4 => .int
  | _ => .int
abbrev cX3_init : ByteArray := prog_5_method_1_code
def yX3_init : MethodName := ⟨RX3, "<init>", "()V"⟩
abbrev cX3_add : ByteArray := prog_5_method_2_code
def yX3_add : MethodName := ⟨RX3, "add", "(I)LCommonDenominator$Stand;"⟩
abbrev cX3_newest : ByteArray := prog_5_method_3_code
def yX3_newest : MethodName := ⟨RX3, "newest", "()LCommonDenominator$Stand;"⟩
abbrev cX3_drop : ByteArray := prog_5_method_4_code
def yX3_drop : MethodName := ⟨RX3, "drop", "()I"⟩
abbrev cX3_forget : ByteArray := prog_5_method_5_code
def yX3_forget : MethodName := ⟨RX3, "forget", "()V"⟩
abbrev cX3_place : ByteArray := prog_5_method_6_code
def yX3_place : MethodName := ⟨RX3, "place", "()I"⟩
def RX4 : String := "CommonDenominator$Square"
def TX4 : u_T := fun k => match k with
  | _ => ("CommonDenominator$Square", "cells", "[J", true)
def tyX4 : Nat → FieldType := fun k => match k with
  | _ => .array .long
abbrev cX4_init : ByteArray := prog_6_method_1_code
def yX4_init : MethodName := ⟨RX4, "<init>", "()V"⟩
abbrev cX4_has : ByteArray := prog_6_method_2_code
def yX4_has : MethodName := ⟨RX4, "has", "(II)Z"⟩
abbrev cX4_cell : ByteArray := prog_6_method_3_code
def yX4_cell : MethodName := ⟨RX4, "cell", "(II)J"⟩
abbrev cX4_layRow : ByteArray := prog_6_method_4_code
def yX4_layRow : MethodName := ⟨RX4, "layRow", "(IJJJ)V"⟩
abbrev cX4_layOne : ByteArray := prog_6_method_5_code
def yX4_layOne : MethodName := ⟨RX4, "layOne", "()V"⟩
abbrev cX4_copy : ByteArray := prog_6_method_6_code
def yX4_copy : MethodName := ⟨RX4, "copy", "(LCommonDenominator$Square;)V"⟩
abbrev cX4_follow : ByteArray := prog_6_method_7_code
def yX4_follow : MethodName := ⟨RX4, "follow", "(IIZ)V"⟩
abbrev cX4_plus : ByteArray := prog_6_method_8_code
def yX4_plus : MethodName := ⟨RX4, "plus", "(JJ)J"⟩
abbrev cX4_times : ByteArray := prog_6_method_9_code
def yX4_times : MethodName := ⟨RX4, "times", "(IJ)J"⟩
abbrev cX4_isBeyond : ByteArray := prog_6_method_10_code
def yX4_isBeyond : MethodName := ⟨RX4, "isBeyond", "()Z"⟩
abbrev cX4_isAbove : ByteArray := prog_6_method_11_code
def yX4_isAbove : MethodName := ⟨RX4, "isAbove", "(J)Z"⟩
abbrev cX4_cofactor : ByteArray := prog_6_method_12_code
def yX4_cofactor : MethodName := ⟨RX4, "cofacto\x72", "(II)J"⟩
abbrev cX4_equate : ByteArray := prog_6_method_13_code
def yX4_equate : MethodName := ⟨RX4, "equate", "(I)J"⟩
abbrev cX4_under : ByteArray := prog_6_method_14_code
def yX4_under : MethodName := ⟨RX4, "unde\x72", "(LCommonDenominator$Value;I)J"⟩
def RX5 : String := "CommonDenominator$Stand"
def TX5 : u_T := fun k => match k with
  | 0 => ("CommonDenominator$Stand", "p", "I", false)
  | 1 => ("CommonDenominator$Stand", "q", "I", false)
  | 2 => ("CommonDenominator$Stand", "\x72", "I", false)
  | 3 => ("CommonDenominator$Stand", "values", "[I", true)
  | 4 => ("CommonDenominator$Stand", "letters", "LCommonDenominator$Word;", true)
  | 5 => ("CommonDenominator$Stand", "opening", "[I", true)
  | 6 => ("CommonDenominator$Stand", "way", "I", false)
  | _ => ("CommonDenominator$Stand", "steps", "I", false)
def tyX5 : Nat → FieldType := fun k => match k with
  | 0 => .int
  | 1 => .int
  | 2 => .int
  | 3 => .array .int
  | 4 => .object "CommonDenominator$Word"
  | 5 => .array .int
  | 6 => .int
  | _ => .int
abbrev cX5_init : ByteArray := prog_7_method_1_code
def yX5_init : MethodName := ⟨RX5, "<init>", "()V"⟩
abbrev cX5_take : ByteArray := prog_7_method_2_code
def yX5_take : MethodName := ⟨RX5, "take", "(LCommonDenominator$Field;[LCommonDenominator$Value;LCommonDenominator$Word;LCommonDenominator$Course;)V"⟩
abbrev cX5_restore : ByteArray := prog_7_method_3_code
def yX5_restore : MethodName := ⟨RX5, "restore", "(LCommonDenominator$Field;[LCommonDenominator$Value;LCommonDenominator$Word;LCommonDenominator$Course;)V"⟩
def RX6 : String := "CommonDenominator$Tape"
def TX6 : u_T := fun k => match k with
  | 0 => ("CommonDenominator$Tape", "bytes", "[B", true)
  | 1 => ("CommonDenominator$Tape", "draft", "LCommonDenominator$Word;", true)
  | 2 => ("CommonDenominator$Tape", "length", "I", false)
  | 3 => ("CommonDenominator$Tape", "at", "I", false)
  | _ => ("CommonDenominator$Tape", "fault", "I", false)
def tyX6 : Nat → FieldType := fun k => match k with
  | 0 => .array .byte
  | 1 => .object "CommonDenominator$Word"
  | 2 => .int
  | 3 => .int
  | _ => .int
abbrev cX6_init : ByteArray := prog_8_method_1_code
def yX6_init : MethodName := ⟨RX6, "<init>", "()V"⟩
abbrev cX6_hasRoom : ByteArray := prog_8_method_2_code
def yX6_hasRoom : MethodName := ⟨RX6, "hasRoom", "(I)Z"⟩
abbrev cX6_add : ByteArray := prog_8_method_3_code
def yX6_add : MethodName := ⟨RX6, "add", "(I)V"⟩
abbrev cX6_cut : ByteArray := prog_8_method_4_code
def yX6_cut : MethodName := ⟨RX6, "cut", "(I)Z"⟩
abbrev cX6_parse : ByteArray := prog_8_method_5_code
def yX6_parse : MethodName := ⟨RX6, "parse", "()Z"⟩
abbrev cX6_hasText : ByteArray := prog_8_method_6_code
def yX6_hasText : MethodName := ⟨RX6, "hasText", "()Z"⟩
abbrev cX6_wholeNumber : ByteArray := prog_8_method_7_code
def yX6_wholeNumber : MethodName := ⟨RX6, "wholeNumbe\x72", "()I"⟩
abbrev cX6_takes : ByteArray := prog_8_method_8_code
def yX6_takes : MethodName := ⟨RX6, "takes", "(C)Z"⟩
abbrev cX6_skipBlanks : ByteArray := prog_8_method_9_code
def yX6_skipBlanks : MethodName := ⟨RX6, "skipBlanks", "()V"⟩
abbrev cX6_nextIsDigit : ByteArray := prog_8_method_10_code
def yX6_nextIsDigit : MethodName := ⟨RX6, "nextIsDigit", "()Z"⟩
abbrev cX6_byteAt : ByteArray := prog_8_method_11_code
def yX6_byteAt : MethodName := ⟨RX6, "byteAt", "()I"⟩
def RX7 : String := "CommonDenominator$Told"
def TX7 : u_T := fun k => match k with
  | 0 => ("CommonDenominator$Told", "counts", "[I", true)
  | _ => ("CommonDenominator$Told", "latest", "I", false)
def tyX7 : Nat → FieldType := fun k => match k with
  | 0 => .array .int
  | _ => .int
abbrev cX7_init : ByteArray := prog_9_method_1_code
def yX7_init : MethodName := ⟨RX7, "<init>", "()V"⟩
abbrev cX7_refuse : ByteArray := prog_9_method_2_code
def yX7_refuse : MethodName := ⟨RX7, "refuse", "(I)I"⟩
abbrev cX7_pass : ByteArray := prog_9_method_3_code
def yX7_pass : MethodName := ⟨RX7, "pass", "(I)I"⟩
abbrev cX7_refusals : ByteArray := prog_9_method_4_code
def yX7_refusals : MethodName := ⟨RX7, "refusals", "(I)I"⟩
def RX8 : String := "CommonDenominator$Value"
def TX8 : u_T := fun k => match k with
  | 0 => ("CommonDenominator$Value", "a", "J", false)
  | 1 => ("CommonDenominator$Value", "b", "J", false)
  | 2 => ("CommonDenominator$Value", "c", "J", false)
  | _ => ("CommonDenominator$Value", "d", "J", false)
def tyX8 : Nat → FieldType := fun k => match k with
  | 0 => .long
  | 1 => .long
  | 2 => .long
  | _ => .long
abbrev cX8_init : ByteArray := prog_10_method_1_code
def yX8_init : MethodName := ⟨RX8, "<init>", "()V"⟩
abbrev cX8_put : ByteArray := prog_10_method_2_code
def yX8_put : MethodName := ⟨RX8, "put", "(JJJJ)V"⟩
abbrev cX8_putDouble : ByteArray := prog_10_method_3_code
def yX8_putDouble : MethodName := ⟨RX8, "putDouble", "(J)Z"⟩
abbrev cX8_copy : ByteArray := prog_10_method_4_code
def yX8_copy : MethodName := ⟨RX8, "copy", "(LCommonDenominator$Value;)V"⟩
abbrev cX8_load : ByteArray := prog_10_method_5_code
def yX8_load : MethodName := ⟨RX8, "load", "([II)V"⟩
abbrev cX8_save : ByteArray := prog_10_method_6_code
def yX8_save : MethodName := ⟨RX8, "save", "([II)V"⟩
abbrev cX8_takeOff : ByteArray := prog_10_method_7_code
def yX8_takeOff : MethodName := ⟨RX8, "takeOff", "(J)V"⟩
abbrev cX8_canBe : ByteArray := prog_10_method_8_code
def yX8_canBe : MethodName := ⟨RX8, "canBe", "()Z"⟩
abbrev cX8_isSmall : ByteArray := prog_10_method_9_code
def yX8_isSmall : MethodName := ⟨RX8, "isSmall", "(J)Z"⟩
abbrev cX8_isZero : ByteArray := prog_10_method_10_code
def yX8_isZero : MethodName := ⟨RX8, "isZero", "()Z"⟩
abbrev cX8_number : ByteArray := prog_10_method_11_code
def yX8_number : MethodName := ⟨RX8, "numbe\x72", "(I)I"⟩
def RX9 : String := "CommonDenominator$Word"
def TX9 : u_T := fun k => match k with
  | 0 => ("CommonDenominator$Word", "parts", "[B", true)
  | _ => ("CommonDenominator$Word", "length", "I", false)
def tyX9 : Nat → FieldType := fun k => match k with
  | 0 => .array .byte
  | _ => .int
abbrev cX9_init : ByteArray := prog_11_method_1_code
def yX9_init : MethodName := ⟨RX9, "<init>", "()V"⟩
abbrev cX9_add : ByteArray := prog_11_method_2_code
def yX9_add : MethodName := ⟨RX9, "add", "(III)V"⟩
abbrev cX9_copy : ByteArray := prog_11_method_3_code
def yX9_copy : MethodName := ⟨RX9, "copy", "(LCommonDenominator$Word;)V"⟩
abbrev cX9_part : ByteArray := prog_11_method_4_code
def yX9_part : MethodName := ⟨RX9, "part", "(II)I"⟩
abbrev cX9_spell : ByteArray := prog_11_method_5_code
def yX9_spell : MethodName := ⟨RX9, "spell", "(LCommonDenominator$Square;)V"⟩
abbrev cX9_isProper : ByteArray := prog_11_method_6_code
def yX9_isProper : MethodName := ⟨RX9, "isPrope\x72", "()Z"⟩
def RX10 : String := "CommonDenominato\x72"
def TX10 : u_T := fun k => match k with
  | 0 => ("CommonDenominato\x72", "field", "LCommonDenominator$Field;", true)
  | 1 => ("CommonDenominato\x72", "store", "[LCommonDenominator$Value;", true)
  | 2 => ("CommonDenominato\x72", "course", "LCommonDenominator$Course;", true)
  | 3 => ("CommonDenominato\x72", "word", "LCommonDenominator$Word;", true)
  | 4 => ("CommonDenominato\x72", "tape", "LCommonDenominator$Tape;", true)
  | 5 => ("CommonDenominato\x72", "past", "LCommonDenominator$Past;", true)
  | 6 => ("CommonDenominato\x72", "told", "LCommonDenominator$Told;", true)
  | 7 => ("CommonDenominato\x72", "way", "I", false)
  | 8 => ("CommonDenominato\x72", "pape\x72", "LCommonDenominator$Course;", true)
  | 9 => ("CommonDenominato\x72", "drawn", "LCommonDenominator$Field;", true)
  | 10 => ("CommonDenominato\x72", "square", "LCommonDenominator$Square;", true)
  | 11 => ("CommonDenominato\x72", "between", "LCommonDenominator$Bounds;", true)
  | 12 => ("CommonDenominato\x72", "first", "LCommonDenominator$Value;", true)
  | _ => ("CommonDenominato\x72", "second", "LCommonDenominator$Value;", true)
def tyX10 : Nat → FieldType := fun k => match k with
  | 0 => .object "CommonDenominator$Field"
  | 1 => .array (.object "CommonDenominator$Value")
  | 2 => .object "CommonDenominator$Course"
  | 3 => .object "CommonDenominator$Word"
  | 4 => .object "CommonDenominator$Tape"
  | 5 => .object "CommonDenominator$Past"
  | 6 => .object "CommonDenominator$Told"
  | 7 => .int
  | 8 => .object "CommonDenominator$Course"
  | 9 => .object "CommonDenominator$Field"
  | 10 => .object "CommonDenominator$Square"
  | 11 => .object "CommonDenominator$Bounds"
  | 12 => .object "CommonDenominator$Value"
  | _ => .object "CommonDenominator$Value"
abbrev cX10_init : ByteArray := prog_1_method_1_code
def yX10_init : MethodName := ⟨RX10, "<init>", "()V"⟩
abbrev cX10_field : ByteArray := prog_1_method_2_code
def yX10_field : MethodName := ⟨RX10, "field", "(III)I"⟩
abbrev cX10_way : ByteArray := prog_1_method_3_code
def yX10_way : MethodName := ⟨RX10, "way", "(I)I"⟩
abbrev cX10_set : ByteArray := prog_1_method_4_code
def yX10_set : MethodName := ⟨RX10, "set", "(IIIII)I"⟩
abbrev cX10_measure : ByteArray := prog_1_method_5_code
def yX10_measure : MethodName := ⟨RX10, "measure", "(IJ)I"⟩
abbrev cX10_combine : ByteArray := prog_1_method_6_code
def yX10_combine : MethodName := ⟨RX10, "combine", "(IIII)I"⟩
abbrev cX10_begin : ByteArray := prog_1_method_7_code
def yX10_begin : MethodName := ⟨RX10, "begin", "(II)I"⟩
abbrev cX10_step : ByteArray := prog_1_method_8_code
def yX10_step : MethodName := ⟨RX10, "step", "()I"⟩
abbrev cX10_go : ByteArray := prog_1_method_9_code
def yX10_go : MethodName := ⟨RX10, "go", "(I)I"⟩
abbrev cX10_keep : ByteArray := prog_1_method_10_code
def yX10_keep : MethodName := ⟨RX10, "keep", "(II)I"⟩
abbrev cX10_feed : ByteArray := prog_1_method_11_code
def yX10_feed : MethodName := ⟨RX10, "feed", "(IIIII)I"⟩
abbrev cX10_end : ByteArray := prog_1_method_12_code
def yX10_end : MethodName := ⟨RX10, "end", "(I)I"⟩
abbrev cX10_read : ByteArray := prog_1_method_13_code
def yX10_read : MethodName := ⟨RX10, "read", "()I"⟩
abbrev cX10_solve : ByteArray := prog_1_method_14_code
def yX10_solve : MethodName := ⟨RX10, "solve", "()I"⟩
abbrev cX10_fault : ByteArray := prog_1_method_15_code
def yX10_fault : MethodName := ⟨RX10, "fault", "()I"⟩
abbrev cX10_undo : ByteArray := prog_1_method_16_code
def yX10_undo : MethodName := ⟨RX10, "undo", "()I"⟩
abbrev cX10_image : ByteArray := prog_1_method_17_code
def yX10_image : MethodName := ⟨RX10, "image", "(I)I"⟩
abbrev cX10_back : ByteArray := prog_1_method_18_code
def yX10_back : MethodName := ⟨RX10, "back", "(I)I"⟩
abbrev cX10_value : ByteArray := prog_1_method_19_code
def yX10_value : MethodName := ⟨RX10, "value", "(II)I"⟩
abbrev cX10_matrix : ByteArray := prog_1_method_20_code
def yX10_matrix : MethodName := ⟨RX10, "matrix", "(III)J"⟩
abbrev cX10_norm : ByteArray := prog_1_method_21_code
def yX10_norm : MethodName := ⟨RX10, "norm", "(III)J"⟩
abbrev cX10_compare : ByteArray := prog_1_method_22_code
def yX10_compare : MethodName := ⟨RX10, "compare", "(II)I"⟩
abbrev cX10_state : ByteArray := prog_1_method_23_code
def yX10_state : MethodName := ⟨RX10, "state", "(IZI)I"⟩
abbrev cX10_digit : ByteArray := prog_1_method_24_code
def yX10_digit : MethodName := ⟨RX10, "digit", "(II)I"⟩
abbrev cX10_product : ByteArray := prog_1_method_25_code
def yX10_product : MethodName := ⟨RX10, "product", "(II)J"⟩
abbrev cX10_determinant : ByteArray := prog_1_method_26_code
def yX10_determinant : MethodName := ⟨RX10, "determinant", "()I"⟩
abbrev cX10_bounds : ByteArray := prog_1_method_27_code
def yX10_bounds : MethodName := ⟨RX10, "bounds", "(ZI)J"⟩
abbrev cX10_outer : ByteArray := prog_1_method_28_code
def yX10_outer : MethodName := ⟨RX10, "oute\x72", "(ZI)I"⟩
abbrev cX10_inverse : ByteArray := prog_1_method_29_code
def yX10_inverse : MethodName := ⟨RX10, "inverse", "(II)J"⟩
abbrev cX10_side : ByteArray := prog_1_method_30_code
def yX10_side : MethodName := ⟨RX10, "side", "(ZII)I"⟩
abbrev cX10_simplest : ByteArray := prog_1_method_31_code
def yX10_simplest : MethodName := ⟨RX10, "simplest", "(ZI)J"⟩
abbrev cX10_shared : ByteArray := prog_1_method_32_code
def yX10_shared : MethodName := ⟨RX10, "shared", "(I)J"⟩
abbrev cX10_period : ByteArray := prog_1_method_33_code
def yX10_period : MethodName := ⟨RX10, "period", "(I)I"⟩
abbrev cX10_round : ByteArray := prog_1_method_34_code
def yX10_round : MethodName := ⟨RX10, "round", "(II)J"⟩
abbrev cX10_unit : ByteArray := prog_1_method_35_code
def yX10_unit : MethodName := ⟨RX10, "unit", "(I)I"⟩
abbrev cX10_equation : ByteArray := prog_1_method_36_code
def yX10_equation : MethodName := ⟨RX10, "equation", "(I)J"⟩
abbrev cX10_isRelation : ByteArray := prog_1_method_37_code
def yX10_isRelation : MethodName := ⟨RX10, "isRelation", "(III)Z"⟩
abbrev cX10_relation : ByteArray := prog_1_method_38_code
def yX10_relation : MethodName := ⟨RX10, "relation", "(II)I"⟩
abbrev cX10_word : ByteArray := prog_1_method_39_code
def yX10_word : MethodName := ⟨RX10, "word", "(II)I"⟩
abbrev cX10_spelt : ByteArray := prog_1_method_40_code
def yX10_spelt : MethodName := ⟨RX10, "spelt", "(II)J"⟩
abbrev cX10_asks : ByteArray := prog_1_method_41_code
def yX10_asks : MethodName := ⟨RX10, "asks", "(I)I"⟩
abbrev cX10_would : ByteArray := prog_1_method_42_code
def yX10_would : MethodName := ⟨RX10, "would", "(IIII)I"⟩
abbrev cX10_count : ByteArray := prog_1_method_43_code
def yX10_count : MethodName := ⟨RX10, "count", "(I)I"⟩
abbrev cX10_status : ByteArray := prog_1_method_44_code
def yX10_status : MethodName := ⟨RX10, "status", "()I"⟩
abbrev cX10_note : ByteArray := prog_1_method_45_code
def yX10_note : MethodName := ⟨RX10, "note", "(I)V"⟩
abbrev cX10_renew : ByteArray := prog_1_method_46_code
def yX10_renew : MethodName := ⟨RX10, "renew", "(III)V"⟩
abbrev cX10_isWithin : ByteArray := prog_1_method_47_code
def yX10_isWithin : MethodName := ⟨RX10, "isWithin", "(II)Z"⟩
abbrev cX10_isStored : ByteArray := prog_1_method_48_code
def yX10_isStored : MethodName := ⟨RX10, "isStored", "(I)Z"⟩
abbrev cX10_stepsOrNone : ByteArray := prog_1_method_49_code
def yX10_stepsOrNone : MethodName := ⟨RX10, "stepsOrNone", "()I"⟩
abbrev cX10_join : ByteArray := prog_1_method_50_code
def yX10_join : MethodName := ⟨RX10, "join", "(ILCommonDenominator$Value;LCommonDenominator$Value;)V"⟩
abbrev cX10_solved : ByteArray := prog_1_method_51_code
def yX10_solved : MethodName := ⟨RX10, "solved", "()Z"⟩
abbrev cX10_hasBounds : ByteArray := prog_1_method_52_code
def yX10_hasBounds : MethodName := ⟨RX10, "hasBounds", "()Z"⟩
abbrev cX10_leastRelation : ByteArray := prog_1_method_53_code
def yX10_leastRelation : MethodName := ⟨RX10, "leastRelation", "(II)I"⟩
abbrev cX10_likeDigits : ByteArray := prog_1_method_54_code
def yX10_likeDigits : MethodName := ⟨RX10, "likeDigits", "()I"⟩
abbrev cX10_gcd : ByteArray := prog_1_method_55_code
def yX10_gcd : MethodName := ⟨RX10, "gcd", "(JJ)J"⟩
abbrev cX10_lowest : ByteArray := prog_1_method_56_code
def yX10_lowest : MethodName := ⟨RX10, "lowest", "(JJI)J"⟩
def RX11 : String := "CommonDenominatorModel"
def TX11 : u_T := fun k => match k with
  | 0 => ("CommonDenominatorModel", "thrown", "I", false)
  | 1 => ("CommonDenominatorModel", "now", "[I", true)
  | 2 => ("CommonDenominatorModel", "product", "[J", true)
  | 3 => ("CommonDenominatorModel", "way", "I", false)
  | 4 => ("CommonDenominatorModel", "status", "I", false)
  | 5 => ("CommonDenominatorModel", "refused", "[I", true)
  | 6 => ("CommonDenominatorModel", "kept", "[I", true)
  | 7 => ("CommonDenominatorModel", "keptWhat", "[I", true)
  | 8 => ("CommonDenominatorModel", "image", "[I", true)
  | 9 => ("CommonDenominatorModel", "keptProduct", "[J", true)
  | 10 => ("CommonDenominatorModel", "imageProduct", "[J", true)
  | 11 => ("CommonDenominatorModel", "isKept", "[Z", true)
  | 12 => ("CommonDenominatorModel", "keptMany", "I", false)
  | 13 => ("CommonDenominatorModel", "xa", "J", false)
  | 14 => ("CommonDenominatorModel", "xb", "J", false)
  | 15 => ("CommonDenominatorModel", "xc", "J", false)
  | 16 => ("CommonDenominatorModel", "xd", "J", false)
  | 17 => ("CommonDenominatorModel", "fu", "I", false)
  | 18 => ("CommonDenominatorModel", "fv", "I", false)
  | 19 => ("CommonDenominatorModel", "fa", "J", false)
  | 20 => ("CommonDenominatorModel", "fb", "J", false)
  | 21 => ("CommonDenominatorModel", "fc", "J", false)
  | 22 => ("CommonDenominatorModel", "fd", "J", false)
  | 23 => ("CommonDenominatorModel", "ga", "J", false)
  | 24 => ("CommonDenominatorModel", "gb", "J", false)
  | 25 => ("CommonDenominatorModel", "gc", "J", false)
  | 26 => ("CommonDenominatorModel", "gd", "J", false)
  | 27 => ("CommonDenominatorModel", "isTurned", "Z", false)
  | 28 => ("CommonDenominatorModel", "next", "[J", true)
  | 29 => ("CommonDenominatorModel", "isBeyond", "Z", false)
  | 30 => ("CommonDenominatorModel", "comes", "[I", true)
  | 31 => ("CommonDenominatorModel", "tape", "[I", true)
  | 32 => ("CommonDenominatorModel", "taped", "I", false)
  | 33 => ("CommonDenominatorModel", "fault", "I", false)
  | 34 => ("CommonDenominatorModel", "place", "I", false)
  | 35 => ("CommonDenominatorModel", "begin", "I", false)
  | 36 => ("CommonDenominatorModel", "fa\x72", "I", false)
  | 37 => ("CommonDenominatorModel", "token", "I", false)
  | 38 => ("CommonDenominatorModel", "byteOf", "I", false)
  | 39 => ("CommonDenominatorModel", "readDigits", "[I", true)
  | 40 => ("CommonDenominatorModel", "up", "J", false)
  | 41 => ("CommonDenominatorModel", "down", "J", false)
  | 42 => ("CommonDenominatorModel", "wholes", "[J", true)
  | 43 => ("CommonDenominatorModel", "round", "[J", true)
  | 44 => ("CommonDenominatorModel", "first", "[I", true)
  | 45 => ("CommonDenominatorModel", "lastOne", "[I", true)
  | 46 => ("CommonDenominatorModel", "aside", "[I", true)
  | _ => ("CommonDenominatorModel", "asideProduct", "[J", true)
def tyX11 : Nat → FieldType := fun k => match k with
  | 0 => .int
  | 1 => .array .int
  | 2 => .array .long
  | 3 => .int
  | 4 => .int
  | 5 => .array .int
  | 6 => .array .int
  | 7 => .array .int
  | 8 => .array .int
  | 9 => .array .long
  | 10 => .array .long
  | 11 => .array .boolean
  | 12 => .int
  | 13 => .long
  | 14 => .long
  | 15 => .long
  | 16 => .long
  | 17 => .int
  | 18 => .int
  | 19 => .long
  | 20 => .long
  | 21 => .long
  | 22 => .long
  | 23 => .long
  | 24 => .long
  | 25 => .long
  | 26 => .long
  | 27 => .boolean
  | 28 => .array .long
  | 29 => .boolean
  | 30 => .array .int
  | 31 => .array .int
  | 32 => .int
  | 33 => .int
  | 34 => .int
  | 35 => .int
  | 36 => .int
  | 37 => .int
  | 38 => .int
  | 39 => .array .int
  | 40 => .long
  | 41 => .long
  | 42 => .array .long
  | 43 => .array .long
  | 44 => .array .int
  | 45 => .array .int
  | 46 => .array .int
  | _ => .array .long
abbrev cX11_init : ByteArray := prog_13_method_1_code
def yX11_init : MethodName := ⟨RX11, "<init>", "()V"⟩
abbrev cX11_in : ByteArray := prog_13_method_3_code
def yX11_in : MethodName := ⟨RX11, "in", "(III)Z"⟩
abbrev cX11_no : ByteArray := prog_13_method_4_code
def yX11_no : MethodName := ⟨RX11, "no", "(I)I"⟩
abbrev cX11_yes : ByteArray := prog_13_method_5_code
def yX11_yes : MethodName := ⟨RX11, "yes", "(I)I"⟩
abbrev cX11_clears : ByteArray := prog_13_method_6_code
def yX11_clears : MethodName := ⟨RX11, "clears", "(III)V"⟩
abbrev cX11_keeps : ByteArray := prog_13_method_7_code
def yX11_keeps : MethodName := ⟨RX11, "keeps", "(I)V"⟩
abbrev cX11_comesBack : ByteArray := prog_13_method_8_code
def yX11_comesBack : MethodName := ⟨RX11, "comesBack", "()V"⟩
abbrev cX11_undo : ByteArray := prog_13_method_9_code
def yX11_undo : MethodName := ⟨RX11, "undo", "()I"⟩
abbrev cX11_stepsOrNone : ByteArray := prog_13_method_10_code
def yX11_stepsOrNone : MethodName := ⟨RX11, "stepsOrNone", "()I"⟩
abbrev cX11_image : ByteArray := prog_13_method_11_code
def yX11_image : MethodName := ⟨RX11, "image", "(I)I"⟩
abbrev cX11_back : ByteArray := prog_13_method_12_code
def yX11_back : MethodName := ⟨RX11, "back", "(I)I"⟩
abbrev cX11_e1 : ByteArray := prog_13_method_13_code
def yX11_e1 : MethodName := ⟨RX11, "e1", "()J"⟩
abbrev cX11_e2 : ByteArray := prog_13_method_14_code
def yX11_e2 : MethodName := ⟨RX11, "e2", "()J"⟩
abbrev cX11_e3 : ByteArray := prog_13_method_15_code
def yX11_e3 : MethodName := ⟨RX11, "e3", "()J"⟩
abbrev cX11_squares : ByteArray := prog_13_method_16_code
def yX11_squares : MethodName := ⟨RX11, "squares", "()J"⟩
abbrev cX11_mixed : ByteArray := prog_13_method_17_code
def yX11_mixed : MethodName := ⟨RX11, "mixed", "()J"⟩
abbrev cX11_pairs : ByteArray := prog_13_method_18_code
def yX11_pairs : MethodName := ⟨RX11, "pairs", "()J"⟩
abbrev cX11_traceOf : ByteArray := prog_13_method_19_code
def yX11_traceOf : MethodName := ⟨RX11, "traceOf", "(JJJ)J"⟩
abbrev cX11_secondOf : ByteArray := prog_13_method_20_code
def yX11_secondOf : MethodName := ⟨RX11, "secondOf", "(JJJ)J"⟩
abbrev cX11_normOf : ByteArray := prog_13_method_21_code
def yX11_normOf : MethodName := ⟨RX11, "normOf", "(JJJ)J"⟩
abbrev cX11_signOf : ByteArray := prog_13_method_22_code
def yX11_signOf : MethodName := ⟨RX11, "signOf", "(JJJ)I"⟩
abbrev cX11_floorOf : ByteArray := prog_13_method_23_code
def yX11_floorOf : MethodName := ⟨RX11, "floorOf", "(JJJJ)I"⟩
abbrev cX11_common : ByteArray := prog_13_method_24_code
def yX11_common : MethodName := ⟨RX11, "common", "(JJ)J"⟩
abbrev cX11_is : ByteArray := prog_13_method_25_code
def yX11_is : MethodName := ⟨RX11, "is", "(JJJJ)V"⟩
abbrev cX11_isSmall : ByteArray := prog_13_method_26_code
def yX11_isSmall : MethodName := ⟨RX11, "isSmall", "(J)Z"⟩
abbrev cX11_canBe : ByteArray := prog_13_method_27_code
def yX11_canBe : MethodName := ⟨RX11, "canBe", "()Z"⟩
abbrev cX11_multiplies : ByteArray := prog_13_method_28_code
def yX11_multiplies : MethodName := ⟨RX11, "multiplies", "(JJJJJJJ)V"⟩
abbrev cX11_divides : ByteArray := prog_13_method_29_code
def yX11_divides : MethodName := ⟨RX11, "divides", "(JJJJJJJJ)V"⟩
abbrev cX11_xaAll : ByteArray := prog_13_method_30_code
def yX11_xaAll : MethodName := ⟨RX11, "xaAll", "(J)J"⟩
abbrev cX11_xbAll : ByteArray := prog_13_method_31_code
def yX11_xbAll : MethodName := ⟨RX11, "xbAll", "(J)J"⟩
abbrev cX11_xcAll : ByteArray := prog_13_method_32_code
def yX11_xcAll : MethodName := ⟨RX11, "xcAll", "(J)J"⟩
abbrev cX11_isStore : ByteArray := prog_13_method_33_code
def yX11_isStore : MethodName := ⟨RX11, "isStore", "(I)Z"⟩
abbrev cX11_at : ByteArray := prog_13_method_34_code
def yX11_at : MethodName := ⟨RX11, "at", "(II)I"⟩
abbrev cX11_lays : ByteArray := prog_13_method_35_code
def yX11_lays : MethodName := ⟨RX11, "lays", "(I)I"⟩
abbrev cX11_discriminantOf : ByteArray := prog_13_method_36_code
def yX11_discriminantOf : MethodName := ⟨RX11, "discriminantOf", "(III)I"⟩
abbrev cX11_isField : ByteArray := prog_13_method_37_code
def yX11_isField : MethodName := ⟨RX11, "isField", "(III)Z"⟩
abbrev cX11_field : ByteArray := prog_13_method_38_code
def yX11_field : MethodName := ⟨RX11, "field", "(III)I"⟩
abbrev cX11_way : ByteArray := prog_13_method_39_code
def yX11_way : MethodName := ⟨RX11, "way", "(I)I"⟩
abbrev cX11_set : ByteArray := prog_13_method_40_code
def yX11_set : MethodName := ⟨RX11, "set", "(IIIII)I"⟩
abbrev cX11_measure : ByteArray := prog_13_method_41_code
def yX11_measure : MethodName := ⟨RX11, "measure", "(IJ)I"⟩
abbrev cX11_combines : ByteArray := prog_13_method_42_code
def yX11_combines : MethodName := ⟨RX11, "combines", "(III)V"⟩
abbrev cX11_isNought : ByteArray := prog_13_method_43_code
def yX11_isNought : MethodName := ⟨RX11, "isNought", "(I)Z"⟩
abbrev cX11_combine : ByteArray := prog_13_method_44_code
def yX11_combine : MethodName := ⟨RX11, "combine", "(IIII)I"⟩
abbrev cX11_stateAt : ByteArray := prog_13_method_45_code
def yX11_stateAt : MethodName := ⟨RX11, "stateAt", "(II)I"⟩
abbrev cX11_floorAt : ByteArray := prog_13_method_46_code
def yX11_floorAt : MethodName := ⟨RX11, "floorAt", "(II)I"⟩
abbrev cX11_canBegin : ByteArray := prog_13_method_47_code
def yX11_canBegin : MethodName := ⟨RX11, "canBegin", "(II)Z"⟩
abbrev cX11_begins : ByteArray := prog_13_method_48_code
def yX11_begins : MethodName := ⟨RX11, "begins", "(III)V"⟩
abbrev cX11_begin : ByteArray := prog_13_method_49_code
def yX11_begin : MethodName := ⟨RX11, "begin", "(II)I"⟩
abbrev cX11_parts : ByteArray := prog_13_method_50_code
def yX11_parts : MethodName := ⟨RX11, "parts", "()V"⟩
abbrev cX11_ends : ByteArray := prog_13_method_51_code
def yX11_ends : MethodName := ⟨RX11, "ends", "()Z"⟩
abbrev cX11_plus : ByteArray := prog_13_method_52_code
def yX11_plus : MethodName := ⟨RX11, "plus", "(JJ)J"⟩
abbrev cX11_times : ByteArray := prog_13_method_53_code
def yX11_times : MethodName := ⟨RX11, "times", "(JJ)J"⟩
abbrev cX11_squared : ByteArray := prog_13_method_54_code
def yX11_squared : MethodName := ⟨RX11, "squared", "([JIII)V"⟩
abbrev cX11_isNext : ByteArray := prog_13_method_55_code
def yX11_isNext : MethodName := ⟨RX11, "isNext", "(I)Z"⟩
abbrev cX11_tries : ByteArray := prog_13_method_56_code
def yX11_tries : MethodName := ⟨RX11, "tries", "()Z"⟩
abbrev cX11_does : ByteArray := prog_13_method_57_code
def yX11_does : MethodName := ⟨RX11, "does", "()V"⟩
abbrev cX11_areAlike : ByteArray := prog_13_method_58_code
def yX11_areAlike : MethodName := ⟨RX11, "areAlike", "(II)Z"⟩
abbrev cX11_looksBack : ByteArray := prog_13_method_59_code
def yX11_looksBack : MethodName := ⟨RX11, "looksBack", "()V"⟩
abbrev cX11_step : ByteArray := prog_13_method_60_code
def yX11_step : MethodName := ⟨RX11, "step", "()I"⟩
abbrev cX11_go : ByteArray := prog_13_method_61_code
def yX11_go : MethodName := ⟨RX11, "go", "(I)I"⟩
abbrev cX11_keep : ByteArray := prog_13_method_62_code
def yX11_keep : MethodName := ⟨RX11, "keep", "(II)I"⟩
abbrev cX11_lays4 : ByteArray := prog_13_method_63_code
def yX11_lays4 : MethodName := ⟨RX11, "lays4", "(I)V"⟩
abbrev cX11_feed : ByteArray := prog_13_method_64_code
def yX11_feed : MethodName := ⟨RX11, "feed", "(IIIII)I"⟩
abbrev cX11_end : ByteArray := prog_13_method_65_code
def yX11_end : MethodName := ⟨RX11, "end", "(I)I"⟩
abbrev cX11_isFigure : ByteArray := prog_13_method_66_code
def yX11_isFigure : MethodName := ⟨RX11, "isFigure", "()Z"⟩
abbrev cX11_reads : ByteArray := prog_13_method_67_code
def yX11_reads : MethodName := ⟨RX11, "reads", "()V"⟩
abbrev cX11_isWhole : ByteArray := prog_13_method_68_code
def yX11_isWhole : MethodName := ⟨RX11, "isWhole", "()Z"⟩
abbrev cX11_readsOne : ByteArray := prog_13_method_69_code
def yX11_readsOne : MethodName := ⟨RX11, "readsOne", "(I)Z"⟩
abbrev cX11_readsAll : ByteArray := prog_13_method_70_code
def yX11_readsAll : MethodName := ⟨RX11, "readsAll", "()I"⟩
abbrev cX11_read : ByteArray := prog_13_method_71_code
def yX11_read : MethodName := ⟨RX11, "read", "()I"⟩
abbrev cX11_fault : ByteArray := prog_13_method_72_code
def yX11_fault : MethodName := ⟨RX11, "fault", "()I"⟩
abbrev cX11_value : ByteArray := prog_13_method_73_code
def yX11_value : MethodName := ⟨RX11, "value", "(II)I"⟩
abbrev cX11_matrix : ByteArray := prog_13_method_74_code
def yX11_matrix : MethodName := ⟨RX11, "matrix", "(III)J"⟩
abbrev cX11_norm : ByteArray := prog_13_method_75_code
def yX11_norm : MethodName := ⟨RX11, "norm", "(III)J"⟩
abbrev cX11_compare : ByteArray := prog_13_method_76_code
def yX11_compare : MethodName := ⟨RX11, "compare", "(II)I"⟩
abbrev cX11_state : ByteArray := prog_13_method_77_code
def yX11_state : MethodName := ⟨RX11, "state", "(IZI)I"⟩
abbrev cX11_digit : ByteArray := prog_13_method_78_code
def yX11_digit : MethodName := ⟨RX11, "digit", "(II)I"⟩
abbrev cX11_product : ByteArray := prog_13_method_79_code
def yX11_product : MethodName := ⟨RX11, "product", "(II)J"⟩
abbrev cX11_turnedIn : ByteArray := prog_13_method_80_code
def yX11_turnedIn : MethodName := ⟨RX11, "turnedIn", "(II)I"⟩
abbrev cX11_evenOrOdd : ByteArray := prog_13_method_81_code
def yX11_evenOrOdd : MethodName := ⟨RX11, "evenOrOdd", "(I)I"⟩
abbrev cX11_determinant : ByteArray := prog_13_method_82_code
def yX11_determinant : MethodName := ⟨RX11, "determinant", "()I"⟩
abbrev cX11_areBounds : ByteArray := prog_13_method_83_code
def yX11_areBounds : MethodName := ⟨RX11, "areBounds", "()Z"⟩
abbrev cX11_isBelow : ByteArray := prog_13_method_84_code
def yX11_isBelow : MethodName := ⟨RX11, "isBelow", "(JJJJ)Z"⟩
abbrev cX11_outerOf : ByteArray := prog_13_method_85_code
def yX11_outerOf : MethodName := ⟨RX11, "outerOf", "(II)I"⟩
abbrev cX11_bounds : ByteArray := prog_13_method_86_code
def yX11_bounds : MethodName := ⟨RX11, "bounds", "(ZI)J"⟩
abbrev cX11_outer : ByteArray := prog_13_method_87_code
def yX11_outer : MethodName := ⟨RX11, "oute\x72", "(ZI)I"⟩
abbrev cX11_isWithinBillion : ByteArray := prog_13_method_88_code
def yX11_isWithinBillion : MethodName := ⟨RX11, "isWithinBillion", "()Z"⟩
abbrev cX11_other : ByteArray := prog_13_method_89_code
def yX11_other : MethodName := ⟨RX11, "othe\x72", "(II)J"⟩
abbrev cX11_inverse : ByteArray := prog_13_method_90_code
def yX11_inverse : MethodName := ⟨RX11, "inverse", "(II)J"⟩
abbrev cX11_side : ByteArray := prog_13_method_91_code
def yX11_side : MethodName := ⟨RX11, "side", "(ZII)I"⟩
abbrev cX11_laysSimplest : ByteArray := prog_13_method_92_code
def yX11_laysSimplest : MethodName := ⟨RX11, "laysSimplest", "(I)V"⟩
abbrev cX11_simplest : ByteArray := prog_13_method_93_code
def yX11_simplest : MethodName := ⟨RX11, "simplest", "(ZI)J"⟩
abbrev cX11_areSmall : ByteArray := prog_13_method_94_code
def yX11_areSmall : MethodName := ⟨RX11, "areSmall", "(I)Z"⟩
abbrev cX11_wholeBy : ByteArray := prog_13_method_95_code
def yX11_wholeBy : MethodName := ⟨RX11, "wholeBy", "(IJ)J"⟩
abbrev cX11_shared : ByteArray := prog_13_method_96_code
def yX11_shared : MethodName := ⟨RX11, "shared", "(I)J"⟩
abbrev cX11_isPeriod : ByteArray := prog_13_method_97_code
def yX11_isPeriod : MethodName := ⟨RX11, "isPeriod", "()Z"⟩
abbrev cX11_period : ByteArray := prog_13_method_98_code
def yX11_period : MethodName := ⟨RX11, "period", "(I)I"⟩
abbrev cX11_begins1 : ByteArray := prog_13_method_99_code
def yX11_begins1 : MethodName := ⟨RX11, "begins1", "()V"⟩
abbrev cX11_rounds : ByteArray := prog_13_method_100_code
def yX11_rounds : MethodName := ⟨RX11, "rounds", "(I)V"⟩
abbrev cX11_laysRound : ByteArray := prog_13_method_101_code
def yX11_laysRound : MethodName := ⟨RX11, "laysRound", "()Z"⟩
abbrev cX11_round : ByteArray := prog_13_method_102_code
def yX11_round : MethodName := ⟨RX11, "round", "(II)J"⟩
abbrev cX11_isGreat : ByteArray := prog_13_method_103_code
def yX11_isGreat : MethodName := ⟨RX11, "isGreat", "(II)Z"⟩
abbrev cX11_isUnit : ByteArray := prog_13_method_104_code
def yX11_isUnit : MethodName := ⟨RX11, "isUnit", "()Z"⟩
abbrev cX11_unit : ByteArray := prog_13_method_105_code
def yX11_unit : MethodName := ⟨RX11, "unit", "(I)I"⟩
abbrev cX11_minor : ByteArray := prog_13_method_106_code
def yX11_minor : MethodName := ⟨RX11, "mino\x72", "(II)J"⟩
abbrev cX11_equation : ByteArray := prog_13_method_107_code
def yX11_equation : MethodName := ⟨RX11, "equation", "(I)J"⟩
abbrev cX11_isNone : ByteArray := prog_13_method_108_code
def yX11_isNone : MethodName := ⟨RX11, "isNone", "(III)Z"⟩
abbrev cX11_isRelation : ByteArray := prog_13_method_109_code
def yX11_isRelation : MethodName := ⟨RX11, "isRelation", "(III)Z"⟩
abbrev cX11_size : ByteArray := prog_13_method_110_code
def yX11_size : MethodName := ⟨RX11, "size", "(I)I"⟩
abbrev cX11_relation : ByteArray := prog_13_method_111_code
def yX11_relation : MethodName := ⟨RX11, "relation", "(II)I"⟩
abbrev cX11_word : ByteArray := prog_13_method_112_code
def yX11_word : MethodName := ⟨RX11, "word", "(II)I"⟩
abbrev cX11_spelt : ByteArray := prog_13_method_113_code
def yX11_spelt : MethodName := ⟨RX11, "spelt", "(II)J"⟩
abbrev cX11_isProper : ByteArray := prog_13_method_114_code
def yX11_isProper : MethodName := ⟨RX11, "isPrope\x72", "()Z"⟩
abbrev cX11_isAsStep : ByteArray := prog_13_method_115_code
def yX11_isAsStep : MethodName := ⟨RX11, "isAsStep", "(I)Z"⟩
abbrev cX11_asks : ByteArray := prog_13_method_116_code
def yX11_asks : MethodName := ⟨RX11, "asks", "(I)I"⟩
abbrev cX11_refusesField : ByteArray := prog_13_method_117_code
def yX11_refusesField : MethodName := ⟨RX11, "refusesField", "(III)I"⟩
abbrev cX11_isSolved : ByteArray := prog_13_method_118_code
def yX11_isSolved : MethodName := ⟨RX11, "isSolved", "()Z"⟩
abbrev cX11_laysSquares : ByteArray := prog_13_method_119_code
def yX11_laysSquares : MethodName := ⟨RX11, "laysSquares", "()Z"⟩
abbrev cX11_turnedInWord : ByteArray := prog_13_method_120_code
def yX11_turnedInWord : MethodName := ⟨RX11, "turnedInWord", "()I"⟩
abbrev cX11_solve : ByteArray := prog_13_method_121_code
def yX11_solve : MethodName := ⟨RX11, "solve", "()I"⟩
abbrev cX11_second : ByteArray := prog_13_method_122_code
def yX11_second : MethodName := ⟨RX11, "second", "(IIII)V"⟩
abbrev cX11_goesOn : ByteArray := prog_13_method_123_code
def yX11_goesOn : MethodName := ⟨RX11, "goesOn", "()I"⟩
abbrev cX11_would : ByteArray := prog_13_method_124_code
def yX11_would : MethodName := ⟨RX11, "would", "(IIII)I"⟩
abbrev cX11_count : ByteArray := prog_13_method_125_code
def yX11_count : MethodName := ⟨RX11, "count", "(I)I"⟩
abbrev cX11_status : ByteArray := prog_13_method_126_code
def yX11_status : MethodName := ⟨RX11, "status", "()I"⟩
def RJ9 : String := "java/lang/Math"
abbrev cJ9_floorDiv_f86c9 : ByteArray := prog_14_method_49_code
def yJ9_floorDiv_f86c9 : MethodName := ⟨RJ9, "floorDiv", "(JJ)J"⟩
abbrev cJ9_floorMod_7cf53 : ByteArray := prog_14_method_50_code
def yJ9_floorMod_7cf53 : MethodName := ⟨RJ9, "floorMod", "(II)I"⟩
abbrev cJ9_floorMod_f86c9 : ByteArray := prog_14_method_52_code
def yJ9_floorMod_f86c9 : MethodName := ⟨RJ9, "floorMod", "(JJ)J"⟩
abbrev cJ9_abs_0f7a4 : ByteArray := prog_14_method_59_code
def yJ9_abs_0f7a4 : MethodName := ⟨RJ9, "abs", "(I)I"⟩
abbrev cJ9_min_7cf53 : ByteArray := prog_14_method_69_code
def yJ9_min_7cf53 : MethodName := ⟨RJ9, "min", "(II)I"⟩
def RJ10 : String := "java/lang/System"
def RL : String := "CommonDenominatorLaw"
abbrev cL_law : ByteArray := code
def yL_law : MethodName := ⟨RL, "law", "([I)Z"⟩
end
noncomputable section
-- PART 03.code
abbrev ip_E : Type := Instr × Nat × Nat × Nat × Nat × Nat × Value × List Nat
abbrev ip_cl : List vw_C := [(RX0, TX0, 2), (RX1, TX1, 15), (RX2, TX2, 5), (RX3, TX3, 6), (RX4, TX4, 1), (RX5, TX5, 8), (RX6, TX6, 5), (RX7, TX7, 2), (RX8, TX8, 4), (RX9, TX9, 2), (RX10, TX10, 14), (RX11, TX11, 48)]
def ip_tys : List (Nat → FieldType) := [tyX0, tyX1, tyX2, tyX3, tyX4, tyX5, tyX6, tyX7, tyX8, tyX9, tyX10, tyX11]
def ip_own : List String := [RX0, RX1, RX2, RX3, RX4, RX5, RX6, RX7, RX8, RX9, RX10, RX11, RJ9, RJ10, RL]
abbrev ip_n4 (pc : Nat) (i : Instr) (nx x : Nat) : Nat × ip_E := (pc, i, nx, x, 0, 0, 0, .null, [])
abbrev ip_n7 (pc : Nat) (i : Instr) (nx x k t w : Nat) : Nat × ip_E := (pc, i, nx, x, k, t, w, .null, [])
abbrev ip_n9 (pc : Nat) (i : Instr) (nx x k t w : Nat) (v : Value) (ts : List Nat) : Nat × ip_E := (pc, i, nx, x, k, t, w, v, ts)
set_option maxRecDepth 100000 in
noncomputable def ip_c0 : List (Nat × ip_E) := [ip_n4 0 (.aload_n 0) 1 0, ip_n7 1 (.invokespecial 3) 4 0 0 6 3, ip_n4 4 (.aload_n 0) 5 0, ip_n9 5 (.bipush 8) 7 0 0 0 0 (.int 8) [], ip_n4 7 (.newarray .long) 9 1, ip_n7 9 (.putfield 9) 12 0 0 2 0, ip_n4 12 (.aload_n 0) 13 0, ip_n9 13 (.iconst 4) 14 0 0 0 0 (.int 4) [], ip_n4 14 (.newarray .int) 16 0, ip_n7 16 (.putfield 15) 19 0 1 2 1, ip_n4 19 .return_ 20 0]
set_option maxRecDepth 100000 in
noncomputable def ip_c1 : List (Nat × ip_E) := [ip_n9 0 (.iconst 0) 1 0 0 0 0 (.int 0) [], ip_n4 1 (.istore_n 2) 2 2, ip_n4 2 (.iload_n 2) 3 2, ip_n9 3 (.iconst 3) 4 0 0 0 0 (.int 3) [], ip_n4 4 (.if_icmp .ge 22) 7 26, ip_n4 7 (.aload_n 1) 8 1, ip_n9 8 (.iconst 0) 9 0 0 0 0 (.int 0) [], ip_n4 9 (.iload_n 2) 10 2, ip_n7 10 (.invokevirtual 19) 13 62 3 1 0, ip_n9 13 (.lconst 0) 14 0 0 0 0 (.long 0) [], ip_n4 14 .lcmp 15 0, ip_n4 15 (.ifCond .gt 5) 18 20, ip_n9 18 (.iconst 0) 19 0 0 0 0 (.int 0) [], ip_n7 19 .ireturn 20 0 0 3 0, ip_n9 20 (.iinc 2 1) 23 2 0 0 0 (.int 1) [], ip_n4 23 (.goto (-21)) 26 2, ip_n4 26 (.aload_n 0) 27 0, ip_n4 27 (.aload_n 1) 28 1, ip_n9 28 (.iconst 0) 29 0 0 0 0 (.int 0) [], ip_n7 29 (.invokevirtual 25) 32 2 3 1 1, ip_n4 32 (.aload_n 0) 33 0, ip_n4 33 (.aload_n 1) 34 1, ip_n9 34 (.iconst 1) 35 0 0 0 0 (.int 1) [], ip_n7 35 (.invokevirtual 25) 38 2 3 1 1, ip_n9 38 (.iconst 1) 39 0 0 0 0 (.int 1) [], ip_n7 39 .ireturn 40 0 0 3 0]
set_option maxRecDepth 100000 in
noncomputable def ip_c2 : List (Nat × ip_E) := [ip_n4 0 (.iload_n 2) 1 2, ip_n9 1 (.iconst 1) 2 0 0 0 0 (.int 1) [], ip_n4 2 .iadd 3 0, ip_n4 3 (.istore_n 3) 4 3, ip_n9 4 (.iconst 0) 5 0 0 0 0 (.int 0) [], ip_n4 5 (.istore 4) 7 4, ip_n9 7 (.iconst 0) 8 0 0 0 0 (.int 0) [], ip_n4 8 (.istore 5) 10 5, ip_n9 10 (.iconst 1) 11 0 0 0 0 (.int 1) [], ip_n4 11 (.istore 6) 13 6, ip_n4 13 (.iload 6) 15 6, ip_n9 15 (.iconst 3) 16 0 0 0 0 (.int 3) [], ip_n4 16 (.if_icmp .ge 41) 19 57, ip_n4 19 (.aload_n 1) 20 1, ip_n4 20 (.iload_n 3) 21 3, ip_n4 21 (.iload 6) 23 6, ip_n4 23 (.iload 4) 25 4, ip_n7 25 (.invokestatic 29) 28 3 4 0 2, ip_n4 28 (.ifCond .ge 7) 31 35, ip_n4 31 (.iload 6) 33 6, ip_n4 33 (.istore 4) 35 4, ip_n4 35 (.aload_n 1) 36 1, ip_n4 36 (.iload_n 3) 37 3, ip_n4 37 (.iload 6) 39 6, ip_n4 39 (.iload 5) 41 5, ip_n7 41 (.invokestatic 29) 44 3 4 0 2, ip_n4 44 (.ifCond .le 7) 47 51, ip_n4 47 (.iload 6) 49 6, ip_n4 49 (.istore 5) 51 5, ip_n9 51 (.iinc 6 1) 54 6 0 0 0 (.int 1) [], ip_n4 54 (.goto (-41)) 57 13, ip_n4 57 (.aload_n 0) 58 0, ip_n7 58 (.getfield 15) 61 0 1 2 1, ip_n9 61 (.iconst 2) 62 0 0 0 0 (.int 2) [], ip_n4 62 (.iload_n 2) 63 2, ip_n4 63 .imul 64 0, ip_n4 64 (.iload 4) 66 4, ip_n4 66 .iastore 67 0, ip_n4 67 (.aload_n 0) 68 0, ip_n7 68 (.getfield 15) 71 0 1 2 1, ip_n9 71 (.iconst 2) 72 0 0 0 0 (.int 2) [], ip_n4 72 (.iload_n 2) 73 2, ip_n4 73 .imul 74 0, ip_n9 74 (.iconst 1) 75 0 0 0 0 (.int 1) [], ip_n4 75 .iadd 76 0, ip_n4 76 (.iload 5) 78 5, ip_n4 78 .iastore 79 0, ip_n9 79 (.iconst 0) 80 0 0 0 0 (.int 0) [], ip_n4 80 (.istore 6) 82 6, ip_n4 82 (.iload 6) 84 6, ip_n9 84 (.iconst 2) 85 0 0 0 0 (.int 2) [], ip_n4 85 (.if_icmp .ge 86) 88 171, ip_n4 88 (.aload_n 0) 89 0, ip_n7 89 (.getfield 15) 92 0 1 2 1, ip_n9 92 (.iconst 2) 93 0 0 0 0 (.int 2) [], ip_n4 93 (.iload_n 2) 94 2, ip_n4 94 .imul 95 0, ip_n4 95 (.iload 6) 97 6, ip_n4 97 .iadd 98 0, ip_n4 98 .iaload 99 0, ip_n4 99 (.istore 7) 101 7, ip_n4 101 (.aload_n 0) 102 0, ip_n7 102 (.getfield 9) 105 0 0 2 0, ip_n9 105 (.iconst 4) 106 0 0 0 0 (.int 4) [], ip_n4 106 (.iload_n 2) 107 2, ip_n4 107 .imul 108 0, ip_n9 108 (.iconst 2) 109 0 0 0 0 (.int 2) [], ip_n4 109 (.iload 6) 111 6, ip_n4 111 .imul 112 0, ip_n4 112 .iadd 113 0, ip_n4 113 (.aload_n 1) 114 1, ip_n4 114 (.iload_n 3) 115 3, ip_n4 115 (.iload 7) 117 7, ip_n7 117 (.invokevirtual 19) 120 62 3 1 0, ip_n4 120 (.aload_n 1) 121 1, ip_n9 121 (.iconst 0) 122 0 0 0 0 (.int 0) [], ip_n4 122 (.iload 7) 124 7, ip_n7 124 (.invokevirtual 19) 127 62 3 1 0, ip_n9 127 (.iconst 0) 128 0 0 0 0 (.int 0) [], ip_n7 128 (.invokestatic 33) 131 164 3 3 3, ip_n4 131 .lastore 132 0, ip_n4 132 (.aload_n 0) 133 0, ip_n7 133 (.getfield 9) 136 0 0 2 0, ip_n9 136 (.iconst 4) 137 0 0 0 0 (.int 4) [], ip_n4 137 (.iload_n 2) 138 2, ip_n4 138 .imul 139 0, ip_n9 139 (.iconst 2) 140 0 0 0 0 (.int 2) [], ip_n4 140 (.iload 6) 142 6, ip_n4 142 .imul 143 0, ip_n4 143 .iadd 144 0, ip_n9 144 (.iconst 1) 145 0 0 0 0 (.int 1) [], ip_n4 145 .iadd 146 0, ip_n4 146 (.aload_n 1) 147 1, ip_n4 147 (.iload_n 3) 148 3, ip_n4 148 (.iload 7) 150 7, ip_n7 150 (.invokevirtual 19) 153 62 3 1 0, ip_n4 153 (.aload_n 1) 154 1, ip_n9 154 (.iconst 0) 155 0 0 0 0 (.int 0) [], ip_n4 155 (.iload 7) 157 7, ip_n7 157 (.invokevirtual 19) 160 62 3 1 0, ip_n9 160 (.iconst 1) 161 0 0 0 0 (.int 1) [], ip_n7 161 (.invokestatic 33) 164 164 3 3 3, ip_n4 164 .lastore 165 0, ip_n9 165 (.iinc 6 1) 168 6 0 0 0 (.int 1) [], ip_n4 168 (.goto (-86)) 171 82, ip_n4 171 .return_ 172 0]
set_option maxRecDepth 100000 in
noncomputable def ip_c3 : List (Nat × ip_E) := [ip_n4 0 (.aload_n 0) 1 0, ip_n4 1 (.iload_n 1) 2 1, ip_n4 2 (.iload_n 2) 3 2, ip_n7 3 (.invokevirtual 19) 6 62 3 1 0, ip_n4 6 (.lstore 4) 8 4, ip_n4 8 (.aload_n 0) 9 0, ip_n9 9 (.iconst 0) 10 0 0 0 0 (.int 0) [], ip_n4 10 (.iload_n 2) 11 2, ip_n7 11 (.invokevirtual 19) 14 62 3 1 0, ip_n4 14 (.lstore 6) 16 6, ip_n4 16 (.aload_n 0) 17 0, ip_n4 17 (.iload_n 1) 18 1, ip_n4 18 (.iload_n 3) 19 3, ip_n7 19 (.invokevirtual 19) 22 62 3 1 0, ip_n4 22 (.lstore 8) 24 8, ip_n4 24 (.aload_n 0) 25 0, ip_n9 25 (.iconst 0) 26 0 0 0 0 (.int 0) [], ip_n4 26 (.iload_n 3) 27 3, ip_n7 27 (.invokevirtual 19) 30 62 3 1 0, ip_n4 30 (.lstore 10) 32 10, ip_n9 32 (.iconst 1) 33 0 0 0 0 (.int 1) [], ip_n4 33 (.istore 12) 35 12, ip_n9 35 (.iconst 0) 36 0 0 0 0 (.int 0) [], ip_n4 36 (.istore 13) 38 13, ip_n4 38 (.iload 13) 40 13, ip_n9 40 (.sipush 200) 43 0 0 0 0 (.int 200) [], ip_n4 43 (.if_icmp .ge 137) 46 180, ip_n4 46 (.lload 6) 48 6, ip_n9 48 (.lconst 0) 49 0 0 0 0 (.long 0) [], ip_n4 49 .lcmp 50 0, ip_n4 50 (.ifCond .le 130) 53 180, ip_n4 53 (.lload 10) 55 10, ip_n9 55 (.lconst 0) 56 0 0 0 0 (.long 0) [], ip_n4 56 .lcmp 57 0, ip_n4 57 (.ifCond .le 123) 60 180, ip_n4 60 (.lload 4) 62 4, ip_n4 62 (.lload 6) 64 6, ip_n4 64 .ldiv 65 0, ip_n4 65 (.lload 8) 67 8, ip_n4 67 (.lload 10) 69 10, ip_n4 69 .ldiv 70 0, ip_n4 70 .lcmp 71 0, ip_n4 71 (.ifCond .eq 26) 74 97, ip_n4 74 (.lload 4) 76 4, ip_n4 76 (.lload 6) 78 6, ip_n4 78 .ldiv 79 0, ip_n4 79 (.lload 8) 81 8, ip_n4 81 (.lload 10) 83 10, ip_n4 83 .ldiv 84 0, ip_n4 84 .lcmp 85 0, ip_n4 85 (.ifCond .le 8) 88 93, ip_n4 88 (.iload 12) 90 12, ip_n4 90 (.goto 6) 93 96, ip_n4 93 (.iload 12) 95 12, ip_n4 95 .ineg 96 0, ip_n4 96 .ireturn 97 0, ip_n4 97 (.lload 4) 99 4, ip_n4 99 (.lload 6) 101 6, ip_n4 101 .lrem 102 0, ip_n4 102 (.lstore 14) 104 14, ip_n4 104 (.lload 8) 106 8, ip_n4 106 (.lload 10) 108 10, ip_n4 108 .lrem 109 0, ip_n4 109 (.lstore 16) 111 16, ip_n4 111 (.lload 14) 113 14, ip_n9 113 (.lconst 0) 114 0 0 0 0 (.long 0) [], ip_n4 114 .lcmp 115 0, ip_n4 115 (.ifCond .eq 10) 118 125, ip_n4 118 (.lload 16) 120 16, ip_n9 120 (.lconst 0) 121 0 0 0 0 (.long 0) [], ip_n4 121 .lcmp 122 0, ip_n4 122 (.ifCond .ne 31) 125 153, ip_n4 125 (.lload 14) 127 14, ip_n4 127 (.lload 16) 129 16, ip_n4 129 .lcmp 130 0, ip_n4 130 (.ifCond .ne 7) 133 137, ip_n9 133 (.iconst 0) 134 0 0 0 0 (.int 0) [], ip_n4 134 (.goto 18) 137 152, ip_n4 137 (.lload 14) 139 14, ip_n9 139 (.lconst 0) 140 0 0 0 0 (.long 0) [], ip_n4 140 .lcmp 141 0, ip_n4 141 (.ifCond .ne 9) 144 150, ip_n4 144 (.iload 12) 146 12, ip_n4 146 .ineg 147 0, ip_n4 147 (.goto 5) 150 152, ip_n4 150 (.iload 12) 152 12, ip_n4 152 .ireturn 153 0, ip_n4 153 (.lload 6) 155 6, ip_n4 155 (.lstore 4) 157 4, ip_n4 157 (.lload 14) 159 14, ip_n4 159 (.lstore 6) 161 6, ip_n4 161 (.lload 10) 163 10, ip_n4 163 (.lstore 8) 165 8, ip_n4 165 (.lload 16) 167 16, ip_n4 167 (.lstore 10) 169 10, ip_n4 169 (.iload 12) 171 12, ip_n4 171 .ineg 172 0, ip_n4 172 (.istore 12) 174 12, ip_n9 174 (.iinc 13 1) 177 13 0 0 0 (.int 1) [], ip_n4 177 (.goto (-139)) 180 38, ip_n9 180 (.iconst 0) 181 0 0 0 0 (.int 0) [], ip_n4 181 .ireturn 182 0]
set_option maxRecDepth 100000 in
noncomputable def ip_c4 : List (Nat × ip_E) := [ip_n9 0 (.iconst 4) 1 0 0 0 0 (.int 4) [], ip_n4 1 (.iload_n 1) 2 1, ip_n4 2 .imul 3 0, ip_n4 3 (.iload_n 2) 4 2, ip_n4 4 .iadd 5 0, ip_n4 5 (.istore_n 3) 6 3, ip_n4 6 (.iload_n 3) 7 3, ip_n4 7 (.ifCond .lt 21) 10 28, ip_n4 10 (.iload_n 3) 11 3, ip_n4 11 (.aload_n 0) 12 0, ip_n7 12 (.getfield 9) 15 0 0 2 0, ip_n4 15 .arraylength 16 0, ip_n4 16 (.if_icmp .ge 12) 19 28, ip_n4 19 (.aload_n 0) 20 0, ip_n7 20 (.getfield 9) 23 0 0 2 0, ip_n4 23 (.iload_n 3) 24 3, ip_n4 24 .laload 25 0, ip_n4 25 (.goto 6) 28 31, ip_n9 28 (.ldc2_w 37) 31 0 0 0 975 (.long (-9223372036854775808)) [], ip_n4 31 .lreturn 32 0]
set_option maxRecDepth 100000 in
noncomputable def ip_c5 : List (Nat × ip_E) := [ip_n9 0 (.iconst 2) 1 0 0 0 0 (.int 2) [], ip_n4 1 (.iload_n 1) 2 1, ip_n4 2 .imul 3 0, ip_n4 3 (.iload_n 2) 4 2, ip_n4 4 .iadd 5 0, ip_n4 5 (.istore_n 3) 6 3, ip_n4 6 (.iload_n 3) 7 3, ip_n4 7 (.ifCond .lt 21) 10 28, ip_n4 10 (.iload_n 3) 11 3, ip_n4 11 (.aload_n 0) 12 0, ip_n7 12 (.getfield 15) 15 0 1 2 1, ip_n4 15 .arraylength 16 0, ip_n4 16 (.if_icmp .ge 12) 19 28, ip_n4 19 (.aload_n 0) 20 0, ip_n7 20 (.getfield 15) 23 0 1 2 1, ip_n4 23 (.iload_n 3) 24 3, ip_n4 24 .iaload 25 0, ip_n4 25 (.goto 4) 28 29, ip_n9 28 (.iconst (-1)) 29 0 0 0 0 (.int (-1)) [], ip_n4 29 .ireturn 30 0]
set_option maxRecDepth 100000 in
noncomputable def ip_c6 : List (Nat × ip_E) := [ip_n9 0 (.iconst 0) 1 0 0 0 0 (.int 0) [], ip_n4 1 (.istore_n 3) 2 3, ip_n4 2 (.iload_n 3) 3 3, ip_n9 3 (.bipush 8) 5 0 0 0 0 (.int 8) [], ip_n4 5 (.if_icmp .ge 22) 8 27, ip_n4 8 (.aload_n 0) 9 0, ip_n7 9 (.getfield 9) 12 0 0 2 0, ip_n4 12 (.iload_n 3) 13 3, ip_n4 13 .laload 14 0, ip_n4 14 (.lload_n 1) 15 1, ip_n4 15 .lcmp 16 0, ip_n4 16 (.ifCond .le 5) 19 21, ip_n9 19 (.iconst 1) 20 0 0 0 0 (.int 1) [], ip_n7 20 .ireturn 21 0 0 3 0, ip_n9 21 (.iinc 3 1) 24 3 0 0 0 (.int 1) [], ip_n4 24 (.goto (-22)) 27 2, ip_n9 27 (.iconst 0) 28 0 0 0 0 (.int 0) [], ip_n7 28 .ireturn 29 0 0 3 0]
set_option maxRecDepth 100000 in
noncomputable def ip_c7 : List (Nat × ip_E) := [ip_n4 0 (.aload_n 0) 1 0, ip_n4 1 (.iload_n 1) 2 1, ip_n9 2 (.iconst 0) 3 0 0 0 0 (.int 0) [], ip_n7 3 (.invokevirtual 39) 6 4 3 1 4, ip_n4 6 (.lstore_n 3) 7 3, ip_n4 7 (.aload_n 0) 8 0, ip_n4 8 (.iload_n 1) 9 1, ip_n9 9 (.iconst 1) 10 0 0 0 0 (.int 1) [], ip_n7 10 (.invokevirtual 39) 13 4 3 1 4, ip_n4 13 (.lstore 5) 15 5, ip_n4 15 (.aload_n 0) 16 0, ip_n4 16 (.iload_n 1) 17 1, ip_n9 17 (.iconst 2) 18 0 0 0 0 (.int 2) [], ip_n7 18 (.invokevirtual 39) 21 4 3 1 4, ip_n4 21 (.lstore 7) 23 7, ip_n4 23 (.aload_n 0) 24 0, ip_n4 24 (.iload_n 1) 25 1, ip_n9 25 (.iconst 3) 26 0 0 0 0 (.int 3) [], ip_n7 26 (.invokevirtual 39) 29 4 3 1 4, ip_n4 29 (.lstore 9) 31 9, ip_n4 31 (.iload_n 2) 32 2, ip_n4 32 (.ifCond .ne 7) 35 39, ip_n9 35 (.lconst 1) 36 0 0 0 0 (.long 1) [], ip_n4 36 (.goto 4) 39 40, ip_n9 39 (.lconst 0) 40 0 0 0 0 (.long 0) [], ip_n4 40 (.lstore 11) 42 11, ip_n9 42 (.lconst 1) 43 0 0 0 0 (.long 1) [], ip_n4 43 (.lload 11) 45 11, ip_n4 45 .lsub 46 0, ip_n4 46 (.lstore 13) 48 13, ip_n9 48 (.iconst 0) 49 0 0 0 0 (.int 0) [], ip_n4 49 (.istore 15) 51 15, ip_n4 51 (.iload 15) 53 15, ip_n9 53 (.sipush 200) 56 0 0 0 0 (.int 200) [], ip_n4 56 (.if_icmp .ge 115) 59 171, ip_n4 59 (.lload 5) 61 5, ip_n9 61 (.lconst 0) 62 0 0 0 0 (.long 0) [], ip_n4 62 .lcmp 63 0, ip_n4 63 (.ifCond .le 108) 66 171, ip_n4 66 (.lload 9) 68 9, ip_n9 68 (.lconst 0) 69 0 0 0 0 (.long 0) [], ip_n4 69 .lcmp 70 0, ip_n4 70 (.ifCond .le 101) 73 171, ip_n4 73 (.lload_n 3) 74 3, ip_n4 74 (.lload 5) 76 5, ip_n4 76 .ldiv 77 0, ip_n4 77 (.lstore 16) 79 16, ip_n4 79 (.lload_n 3) 80 3, ip_n4 80 (.lload 5) 82 5, ip_n4 82 .lrem 83 0, ip_n9 83 (.lconst 0) 84 0 0 0 0 (.long 0) [], ip_n4 84 .lcmp 85 0, ip_n4 85 (.ifCond .ne 12) 88 97, ip_n4 88 (.lload 16) 90 16, ip_n4 90 (.lload 11) 92 11, ip_n4 92 .lmul 93 0, ip_n4 93 (.lload 13) 95 13, ip_n4 95 .ladd 96 0, ip_n4 96 .lreturn 97 0, ip_n4 97 (.lload 7) 99 7, ip_n4 99 (.lload 9) 101 9, ip_n4 101 .ldiv 102 0, ip_n4 102 (.lload 16) 104 16, ip_n4 104 .lcmp 105 0, ip_n4 105 (.ifCond .le 14) 108 119, ip_n4 108 (.lload 16) 110 16, ip_n9 110 (.lconst 1) 111 0 0 0 0 (.long 1) [], ip_n4 111 .ladd 112 0, ip_n4 112 (.lload 11) 114 11, ip_n4 114 .lmul 115 0, ip_n4 115 (.lload 13) 117 13, ip_n4 117 .ladd 118 0, ip_n4 118 .lreturn 119 0, ip_n4 119 (.lload 16) 121 16, ip_n4 121 (.lload 11) 123 11, ip_n4 123 .lmul 124 0, ip_n4 124 (.lload 13) 126 13, ip_n4 126 .ladd 127 0, ip_n4 127 (.lstore 18) 129 18, ip_n4 129 (.lload 11) 131 11, ip_n4 131 (.lstore 13) 133 13, ip_n4 133 (.lload 18) 135 18, ip_n4 135 (.lstore 11) 137 11, ip_n4 137 (.lload_n 3) 138 3, ip_n4 138 (.lload 5) 140 5, ip_n4 140 .lrem 141 0, ip_n4 141 (.lstore 20) 143 20, ip_n4 143 (.lload 7) 145 7, ip_n4 145 (.lload 9) 147 9, ip_n4 147 .lrem 148 0, ip_n4 148 (.lstore 22) 150 22, ip_n4 150 (.lload 9) 152 9, ip_n4 152 (.lstore_n 3) 153 3, ip_n4 153 (.lload 5) 155 5, ip_n4 155 (.lstore 7) 157 7, ip_n4 157 (.lload 22) 159 22, ip_n4 159 (.lstore 5) 161 5, ip_n4 161 (.lload 20) 163 20, ip_n4 163 (.lstore 9) 165 9, ip_n9 165 (.iinc 15 1) 168 15 0 0 0 (.int 1) [], ip_n4 168 (.goto (-117)) 171 51, ip_n9 171 (.ldc2_w 37) 174 0 0 0 975 (.long (-9223372036854775808)) [], ip_n4 174 .lreturn 175 0]
set_option maxRecDepth 100000 in
noncomputable def ip_c8 : List (Nat × ip_E) := [ip_n9 0 (.iconst 1) 1 0 0 0 0 (.int 1) [], ip_n4 1 (.istore_n 2) 2 2, ip_n4 2 (.iload_n 2) 3 2, ip_n9 3 (.sipush 9999) 6 0 0 0 0 (.int 9999) [], ip_n4 6 (.if_icmp .gt 66) 9 72, ip_n4 9 (.aload_n 0) 10 0, ip_n4 10 (.iload_n 2) 11 2, ip_n9 11 (.iconst 0) 12 0 0 0 0 (.int 0) [], ip_n7 12 (.invokevirtual 42) 15 9 3 1 5, ip_n4 15 (.lstore_n 3) 16 3, ip_n4 16 (.lload_n 3) 17 3, ip_n9 17 (.ldc2_w 37) 20 0 0 0 975 (.long (-9223372036854775808)) [], ip_n4 20 .lcmp 21 0, ip_n4 21 (.ifCond .ne 6) 24 27, ip_n4 24 (.goto 42) 27 66, ip_n4 27 (.aload_n 0) 28 0, ip_n4 28 (.iload_n 2) 29 2, ip_n9 29 (.iconst 1) 30 0 0 0 0 (.int 1) [], ip_n7 30 (.invokevirtual 42) 33 9 3 1 5, ip_n4 33 (.lstore 5) 35 5, ip_n4 35 (.lload 5) 37 5, ip_n9 37 (.ldc2_w 37) 40 0 0 0 975 (.long (-9223372036854775808)) [], ip_n4 40 .lcmp 41 0, ip_n4 41 (.ifCond .ne 6) 44 47, ip_n4 44 (.goto 22) 47 66, ip_n4 47 (.iload_n 1) 48 1, ip_n4 48 (.ifCond .ne 6) 51 54, ip_n4 51 (.iload_n 2) 52 2, ip_n4 52 .i2l 53 0, ip_n4 53 .lreturn 54 0, ip_n4 54 (.iload_n 1) 55 1, ip_n9 55 (.iconst 1) 56 0 0 0 0 (.int 1) [], ip_n4 56 (.if_icmp .ne 7) 59 63, ip_n4 59 (.lload_n 3) 60 3, ip_n4 60 (.goto 5) 63 65, ip_n4 63 (.lload 5) 65 5, ip_n4 65 .lreturn 66 0, ip_n9 66 (.iinc 2 1) 69 2 0 0 0 (.int 1) [], ip_n4 69 (.goto (-67)) 72 2, ip_n9 72 (.ldc2_w 37) 75 0 0 0 975 (.long (-9223372036854775808)) [], ip_n4 75 .lreturn 76 0]
set_option maxRecDepth 100000 in
noncomputable def ip_c9 : List (Nat × ip_E) := [ip_n4 0 (.aload_n 0) 1 0, ip_n4 1 (.iload_n 2) 2 2, ip_n9 2 (.iconst 1) 3 0 0 0 0 (.int 1) [], ip_n7 3 (.invokevirtual 39) 6 4 3 1 4, ip_n4 6 (.lstore_n 3) 7 3, ip_n4 7 (.aload_n 0) 8 0, ip_n4 8 (.iload_n 2) 9 2, ip_n9 9 (.iconst 3) 10 0 0 0 0 (.int 3) [], ip_n7 10 (.invokevirtual 39) 13 4 3 1 4, ip_n4 13 (.lstore 5) 15 5, ip_n4 15 (.lload_n 3) 16 3, ip_n9 16 (.lconst 0) 17 0 0 0 0 (.long 0) [], ip_n4 17 .lcmp 18 0, ip_n4 18 (.ifCond .le 10) 21 28, ip_n4 21 (.lload 5) 23 5, ip_n9 23 (.lconst 0) 24 0 0 0 0 (.long 0) [], ip_n4 24 .lcmp 25 0, ip_n4 25 (.ifCond .gt 7) 28 32, ip_n9 28 (.ldc2_w 37) 31 0 0 0 975 (.long (-9223372036854775808)) [], ip_n4 31 .lreturn 32 0, ip_n4 32 (.iload_n 1) 33 1, ip_n4 33 .i2l 34 0, ip_n4 34 (.aload_n 0) 35 0, ip_n4 35 (.iload_n 2) 36 2, ip_n9 36 (.iconst 0) 37 0 0 0 0 (.int 0) [], ip_n7 37 (.invokevirtual 39) 40 4 3 1 4, ip_n4 40 .lmul 41 0, ip_n4 41 (.lload_n 3) 42 3, ip_n4 42 .ladd 43 0, ip_n9 43 (.lconst 1) 44 0 0 0 0 (.long 1) [], ip_n4 44 .lsub 45 0, ip_n4 45 (.lload_n 3) 46 3, ip_n4 46 .ldiv 47 0, ip_n4 47 (.lstore 7) 49 7, ip_n4 49 (.lload 7) 51 7, ip_n4 51 (.iload_n 1) 52 1, ip_n4 52 .i2l 53 0, ip_n4 53 (.aload_n 0) 54 0, ip_n4 54 (.iload_n 2) 55 2, ip_n9 55 (.iconst 2) 56 0 0 0 0 (.int 2) [], ip_n7 56 (.invokevirtual 39) 59 4 3 1 4, ip_n4 59 .lmul 60 0, ip_n4 60 (.lload 5) 62 5, ip_n4 62 .ldiv 63 0, ip_n4 63 .lcmp 64 0, ip_n4 64 (.ifCond .gt 8) 67 72, ip_n4 67 (.lload 7) 69 7, ip_n4 69 (.goto 6) 72 75, ip_n9 72 (.ldc2_w 37) 75 0 0 0 975 (.long (-9223372036854775808)) [], ip_n4 75 .lreturn 76 0]
set_option maxRecDepth 100000 in
noncomputable def ip_c10 : List (Nat × ip_E) := [ip_n4 0 (.aload_n 0) 1 0, ip_n7 1 (.invokespecial 3) 4 0 0 6 3, ip_n4 4 (.aload_n 0) 5 0, ip_n9 5 (.sipush 610) 8 0 0 0 0 (.int 610) [], ip_n4 8 (.newarray .int) 10 0, ip_n7 10 (.putfield 9) 13 1 0 2 2, ip_n4 13 (.aload_n 0) 14 0, ip_n9 14 (.bipush 61) 16 0 0 0 0 (.int 61) [], ip_n4 16 (.newarray .byte) 18 2, ip_n7 18 (.putfield 15) 21 1 1 2 3, ip_n4 21 (.aload_n 0) 22 0, ip_n7 22 (.new 19) 25 4 1 0 0, ip_n4 25 .dup 26 0, ip_n7 26 (.invokespecial 21) 29 60 1 5 6, ip_n7 29 (.putfield 22) 32 1 2 2 4, ip_n4 32 (.aload_n 0) 33 0, ip_n9 33 (.iconst (-1)) 34 0 0 0 0 (.int (-1)) [], ip_n7 34 (.putfield 26) 37 1 3 0 5, ip_n4 37 (.aload_n 0) 38 0, ip_n9 38 (.iconst 0) 39 0 0 0 0 (.int 0) [], ip_n7 39 (.putfield 30) 42 1 4 0 6, ip_n4 42 (.aload_n 0) 43 0, ip_n9 43 (.iconst (-1)) 44 0 0 0 0 (.int (-1)) [], ip_n7 44 (.putfield 33) 47 1 5 0 7, ip_n4 47 (.aload_n 0) 48 0, ip_n9 48 (.iconst (-1)) 49 0 0 0 0 (.int (-1)) [], ip_n7 49 (.putfield 36) 52 1 6 0 8, ip_n4 52 (.aload_n 0) 53 0, ip_n7 53 (.new 19) 56 4 1 0 0, ip_n4 56 .dup 57 0, ip_n7 57 (.invokespecial 21) 60 60 1 5 6, ip_n7 60 (.putfield 39) 63 1 7 2 9, ip_n4 63 (.aload_n 0) 64 0, ip_n7 64 (.new 42) 67 8 4 0 0, ip_n4 67 .dup 68 0, ip_n7 68 (.invokespecial 44) 71 92 1 5 7, ip_n7 71 (.putfield 45) 74 1 8 2 10, ip_n4 74 (.aload_n 0) 75 0, ip_n7 75 (.new 42) 78 8 4 0 0, ip_n4 78 .dup 79 0, ip_n7 79 (.invokespecial 44) 82 92 1 5 7, ip_n7 82 (.putfield 49) 85 1 9 2 11, ip_n4 85 (.aload_n 0) 86 0, ip_n7 86 (.new 42) 89 8 4 0 0, ip_n4 89 .dup 90 0, ip_n7 90 (.invokespecial 44) 93 92 1 5 7, ip_n7 93 (.putfield 52) 96 1 10 2 12, ip_n4 96 (.aload_n 0) 97 0, ip_n7 97 (.new 42) 100 8 4 0 0, ip_n4 100 .dup 101 0, ip_n7 101 (.invokespecial 44) 104 92 1 5 7, ip_n7 104 (.putfield 55) 107 1 11 2 13, ip_n4 107 (.aload_n 0) 108 0, ip_n9 108 (.iconst 0) 109 0 0 0 0 (.int 0) [], ip_n7 109 (.putfield 58) 112 1 12 0 14, ip_n4 112 (.aload_n 0) 113 0, ip_n9 113 (.iconst 0) 114 0 0 0 0 (.int 0) [], ip_n7 114 (.putfield 61) 117 1 13 0 15, ip_n4 117 (.aload_n 0) 118 0, ip_n9 118 (.iconst 0) 119 0 0 0 0 (.int 0) [], ip_n7 119 (.putfield 64) 122 1 14 3 16, ip_n4 122 .return_ 123 0]
set_option maxRecDepth 100000 in
noncomputable def ip_c11 : List (Nat × ip_E) := [ip_n4 0 (.aload_n 0) 1 0, ip_n7 1 (.getfield 26) 4 1 3 0 5, ip_n9 4 (.iconst (-1)) 5 0 0 0 0 (.int (-1)) [], ip_n4 5 (.if_icmp .eq 7) 8 12, ip_n9 8 (.iconst 1) 9 0 0 0 0 (.int 1) [], ip_n4 9 (.goto 4) 12 13, ip_n9 12 (.iconst 0) 13 0 0 0 0 (.int 0) [], ip_n7 13 .ireturn 14 0 0 3 0]
set_option maxRecDepth 100000 in
noncomputable def ip_c12 : List (Nat × ip_E) := [ip_n4 0 (.aload_n 0) 1 0, ip_n7 1 (.invokevirtual 68) 4 11 1 1 8, ip_n4 4 (.ifCond .eq 15) 7 19, ip_n4 7 (.aload_n 0) 8 0, ip_n7 8 (.getfield 33) 11 1 5 0 7, ip_n9 11 (.iconst (-1)) 12 0 0 0 0 (.int (-1)) [], ip_n4 12 (.if_icmp .eq 7) 15 19, ip_n9 15 (.iconst 1) 16 0 0 0 0 (.int 1) [], ip_n4 16 (.goto 4) 19 20, ip_n9 19 (.iconst 0) 20 0 0 0 0 (.int 0) [], ip_n7 20 .ireturn 21 0 0 3 0]
set_option maxRecDepth 100000 in
noncomputable def ip_c13 : List (Nat × ip_E) := [ip_n4 0 (.aload_n 0) 1 0, ip_n7 1 (.invokevirtual 68) 4 11 1 1 8, ip_n4 4 (.ifCond .eq 19) 7 23, ip_n4 7 (.iload_n 1) 8 1, ip_n4 8 (.ifCond .lt 15) 11 23, ip_n4 11 (.iload_n 1) 12 1, ip_n4 12 (.aload_n 0) 13 0, ip_n7 13 (.getfield 30) 16 1 4 0 6, ip_n4 16 (.if_icmp .gt 7) 19 23, ip_n9 19 (.iconst 1) 20 0 0 0 0 (.int 1) [], ip_n4 20 (.goto 4) 23 24, ip_n9 23 (.iconst 0) 24 0 0 0 0 (.int 0) [], ip_n7 24 .ireturn 25 0 0 3 0]
set_option maxRecDepth 100000 in
noncomputable def ip_c14 : List (Nat × ip_E) := [ip_n9 0 (.bipush 10) 2 0 0 0 0 (.int 10) [], ip_n4 2 (.iload_n 1) 3 1, ip_n4 3 .imul 4 0, ip_n9 4 (.iconst 5) 5 0 0 0 0 (.int 5) [], ip_n4 5 (.iload_n 2) 6 2, ip_n4 6 .imul 7 0, ip_n4 7 .iadd 8 0, ip_n4 8 (.iload_n 3) 9 3, ip_n4 9 .iadd 10 0, ip_n4 10 (.istore 4) 12 4, ip_n4 12 (.iload_n 1) 13 1, ip_n4 13 (.ifCond .lt 28) 16 41, ip_n4 16 (.iload 4) 18 4, ip_n4 18 (.ifCond .lt 23) 21 41, ip_n4 21 (.iload 4) 23 4, ip_n4 23 (.aload_n 0) 24 0, ip_n7 24 (.getfield 9) 27 1 0 2 2, ip_n4 27 .arraylength 28 0, ip_n4 28 (.if_icmp .ge 13) 31 41, ip_n4 31 (.aload_n 0) 32 0, ip_n7 32 (.getfield 9) 35 1 0 2 2, ip_n4 35 (.iload 4) 37 4, ip_n4 37 .iaload 38 0, ip_n4 38 (.goto 5) 41 43, ip_n9 41 (.ldc 72) 43 0 0 0 661 (.int (-2147483648)) [], ip_n4 43 .ireturn 44 0]
set_option maxRecDepth 100000 in
noncomputable def ip_c15 : List (Nat × ip_E) := [ip_n4 0 (.aload_n 0) 1 0, ip_n4 1 (.iload_n 1) 2 1, ip_n4 2 (.iload_n 2) 3 2, ip_n9 3 (.iconst 4) 4 0 0 0 0 (.int 4) [], ip_n7 4 (.invokevirtual 73) 7 14 4 1 9, ip_n4 7 .ireturn 8 0]
set_option maxRecDepth 100000 in
noncomputable def ip_c16 : List (Nat × ip_E) := [ip_n4 0 (.aload_n 3) 1 3, ip_n4 1 (.aload_n 0) 2 0, ip_n7 2 (.getfield 9) 5 1 0 2 2, ip_n9 5 (.bipush 10) 7 0 0 0 0 (.int 10) [], ip_n4 7 (.iload_n 1) 8 1, ip_n4 8 .imul 9 0, ip_n9 9 (.iconst 5) 10 0 0 0 0 (.int 5) [], ip_n4 10 (.iload_n 2) 11 2, ip_n4 11 .imul 12 0, ip_n4 12 .iadd 13 0, ip_n7 13 (.invokevirtual 77) 16 96 3 1 10, ip_n4 16 .return_ 17 0]
set_option maxRecDepth 100000 in
noncomputable def ip_c17 : List (Nat × ip_E) := [ip_n4 0 (.iload_n 2) 1 2, ip_n4 1 (.ifCond .eq 8) 4 9, ip_n4 4 (.iload_n 2) 5 2, ip_n9 5 (.iconst 1) 6 0 0 0 0 (.int 1) [], ip_n4 6 (.if_icmp .ne 12) 9 18, ip_n4 9 (.aload_n 0) 10 0, ip_n4 10 (.iload_n 1) 11 1, ip_n9 11 (.iconst 1) 12 0 0 0 0 (.int 1) [], ip_n4 12 .isub 13 0, ip_n4 13 (.iload_n 2) 14 2, ip_n7 14 (.invokevirtual 81) 17 15 3 1 11, ip_n4 17 .ireturn 18 0, ip_n4 18 (.iload_n 2) 19 2, ip_n9 19 (.iconst 2) 20 0 0 0 0 (.int 2) [], ip_n4 20 (.if_icmp .ne 26) 23 46, ip_n4 23 (.iload_n 1) 24 1, ip_n9 24 (.iconst 1) 25 0 0 0 0 (.int 1) [], ip_n4 25 (.if_icmp .lt 21) 28 46, ip_n4 28 (.iload_n 1) 29 1, ip_n4 29 (.aload_n 0) 30 0, ip_n7 30 (.getfield 15) 33 1 1 2 3, ip_n4 33 .arraylength 34 0, ip_n4 34 (.if_icmp .ge 12) 37 46, ip_n4 37 (.aload_n 0) 38 0, ip_n7 38 (.getfield 15) 41 1 1 2 3, ip_n4 41 (.iload_n 1) 42 1, ip_n4 42 .baload 43 0, ip_n4 43 (.goto 4) 46 47, ip_n9 46 (.iconst (-1)) 47 0 0 0 0 (.int (-1)) [], ip_n4 47 .ireturn 48 0]
set_option maxRecDepth 100000 in
noncomputable def ip_c18 : List (Nat × ip_E) := [ip_n4 0 (.aload_n 0) 1 0, ip_n4 1 (.aload_n 1) 2 1, ip_n7 2 (.invokestatic 85) 5 19 2 0 12, ip_n4 5 (.ifCond .eq 15) 8 20, ip_n4 8 (.aload_n 0) 9 0, ip_n4 9 (.aload_n 2) 10 2, ip_n7 10 (.invokestatic 85) 13 19 2 0 12, ip_n4 13 (.ifCond .eq 7) 16 20, ip_n9 16 (.iconst 1) 17 0 0 0 0 (.int 1) [], ip_n4 17 (.goto 4) 20 21, ip_n9 20 (.iconst 0) 21 0 0 0 0 (.int 0) [], ip_n7 21 .ireturn 22 0 0 3 0]
set_option maxRecDepth 100000 in
noncomputable def ip_c19 : List (Nat × ip_E) := [ip_n4 0 (.aload_n 0) 1 0, ip_n4 1 (.aload_n 1) 2 1, ip_n7 2 (.invokevirtual 89) 5 46 2 1 13, ip_n4 5 (.ifCond .le 17) 8 22, ip_n4 8 (.aload_n 0) 9 0, ip_n4 9 (.aload_n 1) 10 1, ip_n7 10 (.invokevirtual 95) 13 49 2 1 14, ip_n9 13 (.bipush 99) 15 0 0 0 0 (.int 99) [], ip_n4 15 (.if_icmp .gt 7) 18 22, ip_n9 18 (.iconst 1) 19 0 0 0 0 (.int 1) [], ip_n4 19 (.goto 4) 22 23, ip_n9 22 (.iconst 0) 23 0 0 0 0 (.int 0) [], ip_n7 23 .ireturn 24 0 0 3 0]
set_option maxRecDepth 100000 in
noncomputable def ip_c20 : List (Nat × ip_E) := [ip_n4 0 (.aload_n 0) 1 0, ip_n7 1 (.invokevirtual 98) 4 21 1 1 15, ip_n4 4 (.aload_n 0) 5 0, ip_n4 5 (.iload 4) 7 4, ip_n7 7 (.putfield 26) 10 1 3 0 5, ip_n4 10 (.aload_n 0) 11 0, ip_n7 11 (.getfield 52) 14 1 10 2 12, ip_n4 14 (.aload_n 2) 15 2, ip_n7 15 (.invokevirtual 101) 18 95 2 1 16, ip_n4 18 (.aload_n 0) 19 0, ip_n7 19 (.getfield 55) 22 1 11 2 13, ip_n4 22 (.aload_n 3) 23 3, ip_n7 23 (.invokevirtual 101) 26 95 2 1 16, ip_n4 26 (.aload_n 0) 27 0, ip_n4 27 (.aload_n 1) 28 1, ip_n4 28 (.aload_n 2) 29 2, ip_n7 29 (.invokevirtual 95) 32 49 2 1 14, ip_n7 32 (.putfield 58) 35 1 12 0 14, ip_n4 35 (.aload_n 0) 36 0, ip_n4 36 (.aload_n 1) 37 1, ip_n4 37 (.aload_n 3) 38 3, ip_n7 38 (.invokevirtual 95) 41 49 2 1 14, ip_n7 41 (.putfield 61) 44 1 13 0 15, ip_n4 44 (.aload_n 0) 45 0, ip_n7 45 (.invokevirtual 105) 48 28 1 1 17, ip_n4 48 (.aload_n 0) 49 0, ip_n7 49 (.getfield 22) 52 1 2 2 4, ip_n7 52 (.invokevirtual 108) 55 64 1 1 18, ip_n4 55 .return_ 56 0]
set_option maxRecDepth 100000 in
noncomputable def ip_c21 : List (Nat × ip_E) := [ip_n4 0 (.aload_n 0) 1 0, ip_n9 1 (.iconst (-1)) 2 0 0 0 0 (.int (-1)) [], ip_n7 2 (.putfield 26) 5 1 3 0 5, ip_n4 5 (.aload_n 0) 6 0, ip_n9 6 (.iconst 0) 7 0 0 0 0 (.int 0) [], ip_n7 7 (.putfield 30) 10 1 4 0 6, ip_n4 10 (.aload_n 0) 11 0, ip_n9 11 (.iconst (-1)) 12 0 0 0 0 (.int (-1)) [], ip_n7 12 (.putfield 33) 15 1 5 0 7, ip_n4 15 (.aload_n 0) 16 0, ip_n9 16 (.iconst (-1)) 17 0 0 0 0 (.int (-1)) [], ip_n7 17 (.putfield 36) 20 1 6 0 8, ip_n4 20 .return_ 21 0]
set_option maxRecDepth 100000 in
noncomputable def ip_d22_0 : List (Nat × ip_E) := [ip_n4 0 (.aload_n 0) 1 0, ip_n7 1 (.getfield 52) 4 1 10 2 12, ip_n4 4 (.aload_n 2) 5 2, ip_n9 5 (.iconst 0) 6 0 0 0 0 (.int 0) [], ip_n7 6 (.invokevirtual 77) 9 96 3 1 10, ip_n4 9 (.aload_n 0) 10 0, ip_n7 10 (.getfield 55) 13 1 11 2 13, ip_n4 13 (.aload_n 2) 14 2, ip_n9 14 (.iconst 4) 15 0 0 0 0 (.int 4) [], ip_n7 15 (.invokevirtual 77) 18 96 3 1 10, ip_n4 18 (.aload_n 0) 19 0, ip_n4 19 (.aload_n 1) 20 1, ip_n4 20 (.aload_n 0) 21 0, ip_n7 21 (.getfield 52) 24 1 10 2 12, ip_n4 24 (.aload_n 0) 25 0, ip_n7 25 (.getfield 55) 28 1 11 2 13, ip_n4 28 (.iload_n 3) 29 3, ip_n7 29 (.invokevirtual 111) 32 20 5 1 19, ip_n9 32 (.iconst 0) 33 0 0 0 0 (.int 0) [], ip_n4 33 (.istore 5) 35 5, ip_n4 35 (.iload 5) 37 5, ip_n4 37 (.iload 4) 39 4, ip_n4 39 (.if_icmp .ge 28) 42 67, ip_n4 42 (.iload 5) 44 5]
set_option maxRecDepth 100000 in
noncomputable def ip_d22_1 : List (Nat × ip_E) := [ip_n9 44 (.bipush 60) 46 0 0 0 0 (.int 60) [], ip_n4 46 (.if_icmp .ge 21) 49 67, ip_n4 49 (.aload_n 0) 50 0, ip_n4 50 (.aload_n 1) 51 1, ip_n7 51 (.invokevirtual 115) 54 25 2 1 20, ip_n4 54 (.ifCond .ne 7) 57 61, ip_n4 57 (.aload_n 0) 58 0, ip_n7 58 (.invokevirtual 119) 61 27 1 1 21, ip_n9 61 (.iinc 5 1) 64 5 0 0 0 (.int 1) [], ip_n4 64 (.goto (-29)) 67 35, ip_n4 67 .return_ 68 0]
set_option maxRecDepth 100000 in
noncomputable def ip_c22 : List (Nat × ip_E) := ip_d22_0 ++ (ip_d22_1)
set_option maxRecDepth 100000 in
noncomputable def ip_c23 : List (Nat × ip_E) := [ip_n4 0 (.aload_n 0) 1 0, ip_n9 1 (.iconst 0) 2 0 0 0 0 (.int 0) [], ip_n7 2 (.invokevirtual 122) 5 24 2 1 22, ip_n4 5 (.ifCond .eq 22) 8 27, ip_n4 8 (.aload_n 0) 9 0, ip_n7 9 (.getfield 26) 12 1 3 0 5, ip_n4 12 (.ifCond .eq 11) 15 23, ip_n4 15 (.aload_n 0) 16 0, ip_n9 16 (.iconst 1) 17 0 0 0 0 (.int 1) [], ip_n7 17 (.invokevirtual 122) 20 24 2 1 22, ip_n4 20 (.ifCond .eq 7) 23 27, ip_n9 23 (.iconst 1) 24 0 0 0 0 (.int 1) [], ip_n4 24 (.goto 4) 27 28, ip_n9 27 (.iconst 0) 28 0 0 0 0 (.int 0) [], ip_n7 28 .ireturn 29 0 0 3 0]
set_option maxRecDepth 100000 in
noncomputable def ip_c24 : List (Nat × ip_E) := [ip_n4 0 (.aload_n 0) 1 0, ip_n4 1 (.aload_n 0) 2 0, ip_n7 2 (.getfield 30) 5 1 4 0 6, ip_n4 5 (.iload_n 1) 6 1, ip_n9 6 (.iconst 1) 7 0 0 0 0 (.int 1) [], ip_n7 7 (.invokevirtual 73) 10 14 4 1 9, ip_n4 10 (.ifCond .ne 34) 13 44, ip_n4 13 (.aload_n 0) 14 0, ip_n4 14 (.aload_n 0) 15 0, ip_n7 15 (.getfield 30) 18 1 4 0 6, ip_n4 18 (.iload_n 1) 19 1, ip_n9 19 (.iconst 2) 20 0 0 0 0 (.int 2) [], ip_n7 20 (.invokevirtual 73) 23 14 4 1 9, ip_n4 23 (.ifCond .ne 21) 26 44, ip_n4 26 (.aload_n 0) 27 0, ip_n4 27 (.aload_n 0) 28 0, ip_n7 28 (.getfield 30) 31 1 4 0 6, ip_n4 31 (.iload_n 1) 32 1, ip_n9 32 (.iconst 3) 33 0 0 0 0 (.int 3) [], ip_n7 33 (.invokevirtual 73) 36 14 4 1 9, ip_n9 36 (.iconst 1) 37 0 0 0 0 (.int 1) [], ip_n4 37 (.if_icmp .ne 7) 40 44, ip_n9 40 (.iconst 1) 41 0 0 0 0 (.int 1) [], ip_n4 41 (.goto 4) 44 45, ip_n9 44 (.iconst 0) 45 0 0 0 0 (.int 0) [], ip_n7 45 .ireturn 46 0 0 3 0]
set_option maxRecDepth 100000 in
noncomputable def ip_d25_0 : List (Nat × ip_E) := [ip_n4 0 (.aload_n 0) 1 0, ip_n7 1 (.invokevirtual 68) 4 11 1 1 8, ip_n4 4 (.ifCond .eq 10) 7 14, ip_n4 7 (.aload_n 0) 8 0, ip_n7 8 (.invokevirtual 126) 11 23 1 1 23, ip_n4 11 (.ifCond .eq 6) 14 17, ip_n9 14 (.bipush (-3)) 16 0 0 0 0 (.int (-3)) [], ip_n4 16 .ireturn 17 0, ip_n4 17 (.aload_n 0) 18 0, ip_n7 18 (.getfield 30) 21 1 4 0 6, ip_n9 21 (.bipush 60) 23 0 0 0 0 (.int 60) [], ip_n4 23 (.if_icmp .lt 6) 26 29, ip_n9 26 (.bipush (-5)) 28 0 0 0 0 (.int (-5)) [], ip_n4 28 .ireturn 29 0, ip_n4 29 (.aload_n 0) 30 0, ip_n4 30 (.aload_n 1) 31 1, ip_n7 31 (.invokevirtual 129) 34 26 2 1 24, ip_n4 34 (.aload_n 0) 35 0, ip_n7 35 (.getfield 45) 38 1 8 2 10, ip_n7 38 (.invokevirtual 133) 41 101 1 1 25, ip_n4 41 (.ifCond .eq 6) 44 47, ip_n9 44 (.bipush (-3)) 46 0 0 0 0 (.int (-3)) [], ip_n4 46 .ireturn 47 0, ip_n4 47 (.aload_n 1) 48 1]
set_option maxRecDepth 100000 in
noncomputable def ip_d25_1 : List (Nat × ip_E) := [ip_n4 48 (.aload_n 0) 49 0, ip_n7 49 (.getfield 49) 52 1 9 2 11, ip_n4 52 (.aload_n 0) 53 0, ip_n7 53 (.getfield 45) 56 1 8 2 10, ip_n4 56 (.aload_n 0) 57 0, ip_n7 57 (.getfield 52) 60 1 10 2 12, ip_n7 60 (.invokevirtual 136) 63 52 4 1 26, ip_n4 63 (.aload_n 0) 64 0, ip_n7 64 (.getfield 55) 67 1 11 2 13, ip_n9 67 (.lconst 1) 68 0 0 0 0 (.long 1) [], ip_n9 68 (.lconst 0) 69 0 0 0 0 (.long 0) [], ip_n9 69 (.lconst 0) 70 0 0 0 0 (.long 0) [], ip_n9 70 (.lconst 1) 71 0 0 0 0 (.long 1) [], ip_n7 71 (.invokevirtual 140) 74 93 5 1 27, ip_n4 74 (.aload_n 1) 75 1, ip_n4 75 (.aload_n 0) 76 0, ip_n7 76 (.getfield 55) 79 1 11 2 13, ip_n4 79 (.aload_n 0) 80 0, ip_n7 80 (.getfield 45) 83 1 8 2 10, ip_n4 83 (.aload_n 0) 84 0, ip_n7 84 (.getfield 55) 87 1 11 2 13, ip_n7 87 (.invokevirtual 136) 90 52 4 1 26, ip_n4 90 (.aload_n 0) 91 0, ip_n7 91 (.getfield 52) 94 1 10 2 12]
set_option maxRecDepth 100000 in
noncomputable def ip_d25_2 : List (Nat × ip_E) := [ip_n7 94 (.invokevirtual 144) 97 99 1 1 28, ip_n4 97 (.ifCond .eq 13) 100 110, ip_n4 100 (.aload_n 0) 101 0, ip_n7 101 (.getfield 55) 104 1 11 2 13, ip_n7 104 (.invokevirtual 144) 107 99 1 1 28, ip_n4 107 (.ifCond .ne 6) 110 113, ip_n9 110 (.bipush (-5)) 112 0 0 0 0 (.int (-5)) [], ip_n4 112 .ireturn 113 0, ip_n4 113 (.aload_n 0) 114 0, ip_n4 114 (.aload_n 1) 115 1, ip_n4 115 (.aload_n 0) 116 0, ip_n7 116 (.getfield 52) 119 1 10 2 12, ip_n7 119 (.invokevirtual 95) 122 49 2 1 14, ip_n7 122 (.putfield 58) 125 1 12 0 14, ip_n4 125 (.aload_n 0) 126 0, ip_n4 126 (.aload_n 1) 127 1, ip_n4 127 (.aload_n 0) 128 0, ip_n7 128 (.getfield 55) 131 1 11 2 13, ip_n7 131 (.invokevirtual 95) 134 49 2 1 14, ip_n7 134 (.putfield 61) 137 1 13 0 15, ip_n4 137 (.aload_n 0) 138 0, ip_n7 138 (.getfield 58) 141 1 12 0 14, ip_n9 141 (.bipush 99) 143 0 0 0 0 (.int 99) [], ip_n4 143 (.if_icmp .gt 12) 146 155]
set_option maxRecDepth 100000 in
noncomputable def ip_d25_3 : List (Nat × ip_E) := [ip_n4 146 (.aload_n 0) 147 0, ip_n7 147 (.getfield 61) 150 1 13 0 15, ip_n9 150 (.bipush 99) 152 0 0 0 0 (.int 99) [], ip_n4 152 (.if_icmp .le 6) 155 158, ip_n9 155 (.bipush (-5)) 157 0 0 0 0 (.int (-5)) [], ip_n4 157 .ireturn 158 0, ip_n4 158 (.aload_n 0) 159 0, ip_n7 159 (.getfield 39) 162 1 7 2 9, ip_n4 162 (.aload_n 0) 163 0, ip_n7 163 (.getfield 22) 166 1 2 2 4, ip_n7 166 (.invokevirtual 147) 169 65 2 1 29, ip_n4 169 (.aload_n 0) 170 0, ip_n7 170 (.getfield 39) 173 1 7 2 9, ip_n4 173 (.aload_n 0) 174 0, ip_n4 174 (.aload_n 0) 175 0, ip_n7 175 (.getfield 30) 178 1 4 0 6, ip_n9 178 (.iconst 0) 179 0 0 0 0 (.int 0) [], ip_n7 179 (.invokevirtual 81) 182 15 3 1 11, ip_n4 182 (.aload_n 0) 183 0, ip_n4 183 (.aload_n 0) 184 0, ip_n7 184 (.getfield 30) 187 1 4 0 6, ip_n9 187 (.iconst 1) 188 0 0 0 0 (.int 1) [], ip_n7 188 (.invokevirtual 81) 191 15 3 1 11, ip_n4 191 (.aload_n 0) 192 0]
set_option maxRecDepth 100000 in
noncomputable def ip_d25_4 : List (Nat × ip_E) := [ip_n7 192 (.getfield 64) 195 1 14 3 16, ip_n7 195 (.invokevirtual 150) 198 66 4 1 30, ip_n4 198 (.aload_n 0) 199 0, ip_n7 199 (.getfield 39) 202 1 7 2 9, ip_n7 202 (.invokevirtual 154) 205 69 1 1 31, ip_n4 205 (.ifCond .eq 8) 208 213, ip_n9 208 (.bipush (-5)) 210 0 0 0 0 (.int (-5)) [], ip_n4 210 (.goto 4) 213 214, ip_n9 213 (.iconst 0) 214 0 0 0 0 (.int 0) [], ip_n4 214 .ireturn 215 0]
set_option maxRecDepth 100000 in
noncomputable def ip_c25 : List (Nat × ip_E) := ip_d25_0 ++ (ip_d25_1 ++ (ip_d25_2 ++ (ip_d25_3 ++ (ip_d25_4))))
set_option maxRecDepth 100000 in
noncomputable def ip_d26_0 : List (Nat × ip_E) := [ip_n4 0 (.aload_n 0) 1 0, ip_n4 1 (.aload_n 0) 2 0, ip_n7 2 (.getfield 30) 5 1 4 0 6, ip_n9 5 (.iconst 0) 6 0 0 0 0 (.int 0) [], ip_n4 6 (.aload_n 0) 7 0, ip_n7 7 (.getfield 45) 10 1 8 2 10, ip_n7 10 (.invokevirtual 157) 13 16 4 1 32, ip_n4 13 (.aload_n 0) 14 0, ip_n4 14 (.aload_n 0) 15 0, ip_n7 15 (.getfield 30) 18 1 4 0 6, ip_n9 18 (.iconst 1) 19 0 0 0 0 (.int 1) [], ip_n4 19 (.aload_n 0) 20 0, ip_n7 20 (.getfield 49) 23 1 9 2 11, ip_n7 23 (.invokevirtual 157) 26 16 4 1 32, ip_n4 26 (.aload_n 0) 27 0, ip_n7 27 (.getfield 45) 30 1 8 2 10, ip_n4 30 (.aload_n 0) 31 0, ip_n4 31 (.aload_n 0) 32 0, ip_n7 32 (.getfield 30) 35 1 4 0 6, ip_n9 35 (.iconst 0) 36 0 0 0 0 (.int 0) [], ip_n7 36 (.invokevirtual 81) 39 15 3 1 11, ip_n4 39 .i2l 40 0, ip_n7 40 (.invokevirtual 161) 43 98 2 1 33, ip_n4 43 (.aload_n 0) 44 0]
set_option maxRecDepth 100000 in
noncomputable def ip_d26_1 : List (Nat × ip_E) := [ip_n7 44 (.getfield 49) 47 1 9 2 11, ip_n4 47 (.aload_n 0) 48 0, ip_n4 48 (.aload_n 0) 49 0, ip_n7 49 (.getfield 30) 52 1 4 0 6, ip_n9 52 (.iconst 1) 53 0 0 0 0 (.int 1) [], ip_n7 53 (.invokevirtual 81) 56 15 3 1 11, ip_n4 56 .i2l 57 0, ip_n7 57 (.invokevirtual 161) 60 98 2 1 33, ip_n4 60 (.aload_n 0) 61 0, ip_n4 61 (.aload_n 0) 62 0, ip_n7 62 (.getfield 26) 65 1 3 0 5, ip_n9 65 (.iconst 1) 66 0 0 0 0 (.int 1) [], ip_n4 66 (.if_icmp .ne 22) 69 88, ip_n4 69 (.aload_n 1) 70 1, ip_n4 70 (.aload_n 0) 71 0, ip_n7 71 (.getfield 45) 74 1 8 2 10, ip_n4 74 (.aload_n 0) 75 0, ip_n7 75 (.getfield 49) 78 1 9 2 11, ip_n7 78 (.invokevirtual 165) 81 48 3 1 34, ip_n4 81 (.ifCond .ge 7) 84 88, ip_n9 84 (.iconst 1) 85 0 0 0 0 (.int 1) [], ip_n4 85 (.goto 4) 88 89, ip_n9 88 (.iconst 0) 89 0 0 0 0 (.int 0) [], ip_n7 89 (.putfield 64) 92 1 14 3 16]
set_option maxRecDepth 100000 in
noncomputable def ip_d26_2 : List (Nat × ip_E) := [ip_n4 92 (.aload_n 0) 93 0, ip_n7 93 (.getfield 64) 96 1 14 3 16, ip_n4 96 (.ifCond .ne 4) 99 100, ip_n4 99 .return_ 100 0, ip_n4 100 (.aload_n 0) 101 0, ip_n7 101 (.getfield 52) 104 1 10 2 12, ip_n4 104 (.aload_n 0) 105 0, ip_n7 105 (.getfield 45) 108 1 8 2 10, ip_n7 108 (.invokevirtual 101) 111 95 2 1 16, ip_n4 111 (.aload_n 0) 112 0, ip_n7 112 (.getfield 45) 115 1 8 2 10, ip_n4 115 (.aload_n 0) 116 0, ip_n7 116 (.getfield 49) 119 1 9 2 11, ip_n7 119 (.invokevirtual 101) 122 95 2 1 16, ip_n4 122 (.aload_n 0) 123 0, ip_n7 123 (.getfield 49) 126 1 9 2 11, ip_n4 126 (.aload_n 0) 127 0, ip_n7 127 (.getfield 52) 130 1 10 2 12, ip_n7 130 (.invokevirtual 101) 133 95 2 1 16, ip_n4 133 .return_ 134 0]
set_option maxRecDepth 100000 in
noncomputable def ip_c26 : List (Nat × ip_E) := ip_d26_0 ++ (ip_d26_1 ++ (ip_d26_2))
set_option maxRecDepth 100000 in
noncomputable def ip_d27_0 : List (Nat × ip_E) := [ip_n4 0 (.aload_n 0) 1 0, ip_n7 1 (.getfield 30) 4 1 4 0 6, ip_n9 4 (.bipush 60) 6 0 0 0 0 (.int 60) [], ip_n4 6 (.if_icmp .lt 4) 9 10, ip_n4 9 .return_ 10 0, ip_n4 10 (.aload_n 0) 11 0, ip_n4 11 .dup 12 0, ip_n7 12 (.getfield 30) 15 1 4 0 6, ip_n9 15 (.iconst 1) 16 0 0 0 0 (.int 1) [], ip_n4 16 .iadd 17 0, ip_n7 17 (.putfield 30) 20 1 4 0 6, ip_n4 20 (.aload_n 0) 21 0, ip_n7 21 (.getfield 15) 24 1 1 2 3, ip_n4 24 (.aload_n 0) 25 0, ip_n7 25 (.getfield 30) 28 1 4 0 6, ip_n4 28 (.aload_n 0) 29 0, ip_n7 29 (.getfield 64) 32 1 14 3 16, ip_n4 32 (.ifCond .eq 7) 35 39, ip_n9 35 (.iconst 1) 36 0 0 0 0 (.int 1) [], ip_n4 36 (.goto 4) 39 40, ip_n9 39 (.iconst 0) 40 0 0 0 0 (.int 0) [], ip_n4 40 .i2b 41 0, ip_n4 41 .bastore 42 0, ip_n4 42 (.aload_n 0) 43 0]
set_option maxRecDepth 100000 in
noncomputable def ip_d27_1 : List (Nat × ip_E) := [ip_n7 43 (.invokevirtual 105) 46 28 1 1 17, ip_n4 46 (.aload_n 0) 47 0, ip_n7 47 (.getfield 22) 50 1 2 2 4, ip_n4 50 (.aload_n 0) 51 0, ip_n7 51 (.getfield 39) 54 1 7 2 9, ip_n7 54 (.invokevirtual 147) 57 65 2 1 29, ip_n4 57 (.aload_n 0) 58 0, ip_n7 58 (.getfield 33) 61 1 5 0 7, ip_n9 61 (.iconst (-1)) 62 0 0 0 0 (.int (-1)) [], ip_n4 62 (.if_icmp .ne 7) 65 69, ip_n4 65 (.aload_n 0) 66 0, ip_n7 66 (.invokevirtual 169) 69 29 1 1 35, ip_n4 69 .return_ 70 0]
set_option maxRecDepth 100000 in
noncomputable def ip_c27 : List (Nat × ip_E) := ip_d27_0 ++ (ip_d27_1)
set_option maxRecDepth 100000 in
noncomputable def ip_d28_0 : List (Nat × ip_E) := [ip_n9 0 (.bipush 10) 2 0 0 0 0 (.int 10) [], ip_n4 2 (.aload_n 0) 3 0, ip_n7 3 (.getfield 30) 6 1 4 0 6, ip_n4 6 .imul 7 0, ip_n4 7 (.istore_n 1) 8 1, ip_n4 8 (.iload_n 1) 9 1, ip_n4 9 (.ifCond .lt 15) 12 24, ip_n4 12 (.iload_n 1) 13 1, ip_n4 13 (.aload_n 0) 14 0, ip_n7 14 (.getfield 9) 17 1 0 2 2, ip_n4 17 .arraylength 18 0, ip_n9 18 (.bipush 10) 20 0 0 0 0 (.int 10) [], ip_n4 20 .isub 21 0, ip_n4 21 (.if_icmp .le 4) 24 25, ip_n4 24 .return_ 25 0, ip_n4 25 (.aload_n 0) 26 0, ip_n7 26 (.getfield 52) 29 1 10 2 12, ip_n4 29 (.aload_n 0) 30 0, ip_n7 30 (.getfield 9) 33 1 0 2 2, ip_n4 33 (.iload_n 1) 34 1, ip_n7 34 (.invokevirtual 172) 37 97 3 1 36, ip_n4 37 (.aload_n 0) 38 0, ip_n7 38 (.getfield 9) 41 1 0 2 2, ip_n4 41 (.iload_n 1) 42 1]
set_option maxRecDepth 100000 in
noncomputable def ip_d28_1 : List (Nat × ip_E) := [ip_n9 42 (.iconst 4) 43 0 0 0 0 (.int 4) [], ip_n4 43 .iadd 44 0, ip_n4 44 (.aload_n 0) 45 0, ip_n7 45 (.getfield 58) 48 1 12 0 14, ip_n4 48 .iastore 49 0, ip_n4 49 (.aload_n 0) 50 0, ip_n7 50 (.getfield 55) 53 1 11 2 13, ip_n4 53 (.aload_n 0) 54 0, ip_n7 54 (.getfield 9) 57 1 0 2 2, ip_n4 57 (.iload_n 1) 58 1, ip_n9 58 (.iconst 5) 59 0 0 0 0 (.int 5) [], ip_n4 59 .iadd 60 0, ip_n7 60 (.invokevirtual 172) 63 97 3 1 36, ip_n4 63 (.aload_n 0) 64 0, ip_n7 64 (.getfield 9) 67 1 0 2 2, ip_n4 67 (.iload_n 1) 68 1, ip_n9 68 (.bipush 9) 70 0 0 0 0 (.int 9) [], ip_n4 70 .iadd 71 0, ip_n4 71 (.aload_n 0) 72 0, ip_n7 72 (.getfield 61) 75 1 13 0 15, ip_n4 75 .iastore 76 0, ip_n4 76 .return_ 77 0]
set_option maxRecDepth 100000 in
noncomputable def ip_c28 : List (Nat × ip_E) := ip_d28_0 ++ (ip_d28_1)
set_option maxRecDepth 100000 in
noncomputable def ip_c29 : List (Nat × ip_E) := [ip_n9 0 (.iconst 0) 1 0 0 0 0 (.int 0) [], ip_n4 1 (.istore_n 1) 2 1, ip_n4 2 (.iload_n 1) 3 1, ip_n4 3 (.aload_n 0) 4 0, ip_n7 4 (.getfield 30) 7 1 4 0 6, ip_n4 7 (.if_icmp .ge 36) 10 43, ip_n4 10 (.aload_n 0) 11 0, ip_n4 11 (.iload_n 1) 12 1, ip_n7 12 (.invokevirtual 175) 15 30 2 1 37, ip_n4 15 (.ifCond .ne 6) 18 21, ip_n4 18 (.goto 19) 21 37, ip_n4 21 (.aload_n 0) 22 0, ip_n4 22 (.iload_n 1) 23 1, ip_n7 23 (.putfield 33) 26 1 5 0 7, ip_n4 26 (.aload_n 0) 27 0, ip_n4 27 (.aload_n 0) 28 0, ip_n7 28 (.getfield 30) 31 1 4 0 6, ip_n4 31 (.iload_n 1) 32 1, ip_n4 32 .isub 33 0, ip_n7 33 (.putfield 36) 36 1 6 0 8, ip_n4 36 .return_ 37 0, ip_n9 37 (.iinc 1 1) 40 1 0 0 0 (.int 1) [], ip_n4 40 (.goto (-38)) 43 2, ip_n4 43 .return_ 44 0]
set_option maxRecDepth 100000 in
noncomputable def ip_c30 : List (Nat × ip_E) := [ip_n9 0 (.iconst 0) 1 0 0 0 0 (.int 0) [], ip_n4 1 (.istore_n 2) 2 2, ip_n4 2 (.iload_n 2) 3 2, ip_n9 3 (.bipush 10) 5 0 0 0 0 (.int 10) [], ip_n4 5 (.if_icmp .ge 31) 8 36, ip_n4 8 (.aload_n 0) 9 0, ip_n4 9 (.iload_n 1) 10 1, ip_n9 10 (.iconst 0) 11 0 0 0 0 (.int 0) [], ip_n4 11 (.iload_n 2) 12 2, ip_n7 12 (.invokevirtual 73) 15 14 4 1 9, ip_n4 15 (.aload_n 0) 16 0, ip_n4 16 (.aload_n 0) 17 0, ip_n7 17 (.getfield 30) 20 1 4 0 6, ip_n9 20 (.iconst 0) 21 0 0 0 0 (.int 0) [], ip_n4 21 (.iload_n 2) 22 2, ip_n7 22 (.invokevirtual 73) 25 14 4 1 9, ip_n4 25 (.if_icmp .eq 5) 28 30, ip_n9 28 (.iconst 0) 29 0 0 0 0 (.int 0) [], ip_n7 29 .ireturn 30 0 0 3 0, ip_n9 30 (.iinc 2 1) 33 2 0 0 0 (.int 1) [], ip_n4 33 (.goto (-31)) 36 2, ip_n9 36 (.iconst 1) 37 0 0 0 0 (.int 1) [], ip_n7 37 .ireturn 38 0 0 3 0]
set_option maxRecDepth 100000 in
noncomputable def ip_c31 : List (Nat × ip_E) := [ip_n9 0 (.iconst 0) 1 0 0 0 0 (.int 0) [], ip_n4 1 (.istore_n 2) 2 2, ip_n4 2 (.iload_n 2) 3 2, ip_n9 3 (.bipush 60) 5 0 0 0 0 (.int 60) [], ip_n4 5 (.if_icmp .gt 52) 8 57, ip_n4 8 (.aload_n 0) 9 0, ip_n7 9 (.invokevirtual 126) 12 23 1 1 23, ip_n4 12 (.ifCond .eq 5) 15 17, ip_n9 15 (.iconst 1) 16 0 0 0 0 (.int 1) [], ip_n4 16 .ireturn 17 0, ip_n4 17 (.aload_n 0) 18 0, ip_n7 18 (.getfield 30) 21 1 4 0 6, ip_n9 21 (.bipush 60) 23 0 0 0 0 (.int 60) [], ip_n4 23 (.if_icmp .lt 5) 26 28, ip_n9 26 (.iconst 0) 27 0 0 0 0 (.int 0) [], ip_n4 27 .ireturn 28 0, ip_n4 28 (.aload_n 0) 29 0, ip_n4 29 (.aload_n 1) 30 1, ip_n7 30 (.invokevirtual 115) 33 25 2 1 20, ip_n4 33 (.ifCond .eq 5) 36 38, ip_n9 36 (.iconst 3) 37 0 0 0 0 (.int 3) [], ip_n4 37 .ireturn 38 0, ip_n4 38 (.aload_n 0) 39 0, ip_n7 39 (.invokevirtual 119) 42 27 1 1 21, ip_n4 42 (.aload_n 0) 43 0, ip_n7 43 (.invokevirtual 178) 46 12 1 1 38, ip_n4 46 (.ifCond .eq 5) 49 51, ip_n9 49 (.iconst 2) 50 0 0 0 0 (.int 2) [], ip_n4 50 .ireturn 51 0, ip_n9 51 (.iinc 2 1) 54 2 0 0 0 (.int 1) [], ip_n4 54 (.goto (-52)) 57 2, ip_n9 57 (.iconst 0) 58 0 0 0 0 (.int 0) [], ip_n4 58 .ireturn 59 0]
set_option maxRecDepth 100000 in
noncomputable def ip_c32 : List (Nat × ip_E) := [ip_n4 0 (.iload_n 1) 1 1, ip_n9 1 (.iconst 5) 2 0 0 0 0 (.int 5) [], ip_n4 2 (.if_icmp .ne 5) 5 7, ip_n9 5 (.iconst 1) 6 0 0 0 0 (.int 1) [], ip_n4 6 .ireturn 7 0, ip_n4 7 (.iload_n 1) 8 1, ip_n9 8 (.bipush 6) 10 0 0 0 0 (.int 6) [], ip_n4 10 (.if_icmp .ne 8) 13 18, ip_n4 13 (.aload_n 0) 14 0, ip_n7 14 (.getfield 26) 17 1 3 0 5, ip_n4 17 .ireturn 18 0, ip_n4 18 (.iload_n 1) 19 1, ip_n9 19 (.bipush 7) 21 0 0 0 0 (.int 7) [], ip_n4 21 (.if_icmp .ne 8) 24 29, ip_n4 24 (.aload_n 0) 25 0, ip_n7 25 (.getfield 30) 28 1 4 0 6, ip_n4 28 .ireturn 29 0, ip_n4 29 (.iload_n 1) 30 1, ip_n9 30 (.bipush 8) 32 0 0 0 0 (.int 8) [], ip_n4 32 (.if_icmp .ne 16) 35 48, ip_n4 35 (.aload_n 0) 36 0, ip_n7 36 (.invokevirtual 126) 39 23 1 1 23, ip_n4 39 (.ifCond .eq 7) 42 46, ip_n9 42 (.iconst 1) 43 0 0 0 0 (.int 1) [], ip_n4 43 (.goto 4) 46 47, ip_n9 46 (.iconst 0) 47 0 0 0 0 (.int 0) [], ip_n4 47 .ireturn 48 0, ip_n9 48 (.iconst 0) 49 0 0 0 0 (.int 0) [], ip_n4 49 (.istore_n 2) 50 2, ip_n9 50 (.iconst 1) 51 0 0 0 0 (.int 1) [], ip_n4 51 (.istore_n 3) 52 3, ip_n4 52 (.iload_n 3) 53 3, ip_n4 53 (.aload_n 0) 54 0, ip_n7 54 (.getfield 30) 57 1 4 0 6, ip_n4 57 (.if_icmp .gt 27) 60 84, ip_n4 60 (.iload_n 3) 61 3, ip_n4 61 (.aload_n 0) 62 0, ip_n7 62 (.getfield 15) 65 1 1 2 3, ip_n4 65 .arraylength 66 0, ip_n4 66 (.if_icmp .ge 18) 69 84, ip_n4 69 (.iload_n 2) 70 2, ip_n4 70 (.aload_n 0) 71 0, ip_n7 71 (.getfield 15) 74 1 1 2 3, ip_n4 74 (.iload_n 3) 75 3, ip_n4 75 .baload 76 0, ip_n4 76 .iadd 77 0, ip_n4 77 (.istore_n 2) 78 2, ip_n9 78 (.iinc 3 1) 81 3 0 0 0 (.int 1) [], ip_n4 81 (.goto (-29)) 84 52, ip_n4 84 (.iload_n 2) 85 2, ip_n4 85 .ireturn 86 0]
set_option maxRecDepth 100000 in
noncomputable def ip_c33 : List (Nat × ip_E) := [ip_n4 0 (.aload_n 1) 1 1, ip_n7 1 (.invokevirtual 108) 4 64 1 1 18, ip_n4 4 (.aload_n 0) 5 0, ip_n7 5 (.getfield 33) 8 1 5 0 7, ip_n9 8 (.iconst 1) 9 0 0 0 0 (.int 1) [], ip_n4 9 .iadd 10 0, ip_n4 10 (.istore_n 2) 11 2, ip_n4 11 (.iload_n 2) 12 2, ip_n4 12 (.aload_n 0) 13 0, ip_n7 13 (.getfield 33) 16 1 5 0 7, ip_n4 16 (.aload_n 0) 17 0, ip_n7 17 (.getfield 36) 20 1 6 0 8, ip_n4 20 .iadd 21 0, ip_n4 21 (.if_icmp .gt 49) 24 70, ip_n4 24 (.iload_n 2) 25 2, ip_n4 25 (.aload_n 0) 26 0, ip_n7 26 (.getfield 15) 29 1 1 2 3, ip_n4 29 .arraylength 30 0, ip_n4 30 (.if_icmp .ge 40) 33 70, ip_n4 33 (.aload_n 1) 34 1, ip_n4 34 (.aload_n 0) 35 0, ip_n4 35 (.iload_n 2) 36 2, ip_n9 36 (.iconst 0) 37 0 0 0 0 (.int 0) [], ip_n7 37 (.invokevirtual 181) 40 17 3 1 39, ip_n4 40 (.aload_n 0) 41 0, ip_n4 41 (.iload_n 2) 42 2, ip_n9 42 (.iconst 1) 43 0 0 0 0 (.int 1) [], ip_n7 43 (.invokevirtual 181) 46 17 3 1 39, ip_n4 46 (.aload_n 0) 47 0, ip_n4 47 (.iload_n 2) 48 2, ip_n9 48 (.iconst 2) 49 0 0 0 0 (.int 2) [], ip_n7 49 (.invokevirtual 181) 52 17 3 1 39, ip_n9 52 (.iconst 1) 53 0 0 0 0 (.int 1) [], ip_n4 53 (.if_icmp .ne 7) 56 60, ip_n9 56 (.iconst 1) 57 0 0 0 0 (.int 1) [], ip_n4 57 (.goto 4) 60 61, ip_n9 60 (.iconst 0) 61 0 0 0 0 (.int 0) [], ip_n7 61 (.invokevirtual 150) 64 66 4 1 30, ip_n9 64 (.iinc 2 1) 67 2 0 0 0 (.int 1) [], ip_n4 67 (.goto (-56)) 70 11, ip_n4 70 .return_ 71 0]
set_option maxRecDepth 100000 in
noncomputable def ip_c34 : List (Nat × ip_E) := [ip_n4 0 (.aload_n 0) 1 0, ip_n4 1 (.aload_n 0) 2 0, ip_n7 2 (.getfield 33) 5 1 5 0 7, ip_n9 5 (.iconst 0) 6 0 0 0 0 (.int 0) [], ip_n4 6 (.aload_n 0) 7 0, ip_n7 7 (.getfield 52) 10 1 10 2 12, ip_n7 10 (.invokevirtual 157) 13 16 4 1 32, ip_n4 13 (.aload_n 0) 14 0, ip_n4 14 (.aload_n 0) 15 0, ip_n7 15 (.getfield 33) 18 1 5 0 7, ip_n9 18 (.iconst 1) 19 0 0 0 0 (.int 1) [], ip_n4 19 (.aload_n 0) 20 0, ip_n7 20 (.getfield 55) 23 1 11 2 13, ip_n7 23 (.invokevirtual 157) 26 16 4 1 32, ip_n4 26 (.aload_n 1) 27 1, ip_n4 27 (.aload_n 0) 28 0, ip_n7 28 (.getfield 52) 31 1 10 2 12, ip_n7 31 (.getfield 184) 34 8 3 1 17, ip_n4 34 (.aload_n 0) 35 0, ip_n7 35 (.getfield 55) 38 1 11 2 13, ip_n7 38 (.getfield 184) 41 8 3 1 17, ip_n4 41 .lmul 42 0, ip_n4 42 (.aload_n 0) 43 0, ip_n7 43 (.getfield 55) 46 1 11 2 13, ip_n7 46 (.getfield 184) 49 8 3 1 17, ip_n4 49 (.aload_n 0) 50 0, ip_n7 50 (.getfield 52) 53 1 10 2 12, ip_n7 53 (.getfield 188) 56 8 0 1 18, ip_n4 56 .lmul 57 0, ip_n4 57 (.aload_n 0) 58 0, ip_n7 58 (.getfield 52) 61 1 10 2 12, ip_n7 61 (.getfield 184) 64 8 3 1 17, ip_n4 64 (.aload_n 0) 65 0, ip_n7 65 (.getfield 55) 68 1 11 2 13, ip_n7 68 (.getfield 188) 71 8 0 1 18, ip_n4 71 .lmul 72 0, ip_n7 72 (.invokestatic 191) 75 35 4 0 40, ip_n4 75 (.lstore_n 3) 76 3, ip_n4 76 (.aload_n 1) 77 1, ip_n9 77 (.lconst 0) 78 0 0 0 0 (.long 0) [], ip_n4 78 (.aload_n 0) 79 0, ip_n7 79 (.getfield 55) 82 1 11 2 13, ip_n7 82 (.getfield 184) 85 8 3 1 17, ip_n4 85 (.aload_n 0) 86 0, ip_n7 86 (.getfield 52) 89 1 10 2 12, ip_n7 89 (.getfield 195) 92 8 1 1 19, ip_n4 92 .lmul 93 0, ip_n4 93 (.aload_n 0) 94 0, ip_n7 94 (.getfield 52) 97 1 10 2 12, ip_n7 97 (.getfield 184) 100 8 3 1 17, ip_n4 100 (.aload_n 0) 101 0, ip_n7 101 (.getfield 55) 104 1 11 2 13, ip_n7 104 (.getfield 195) 107 8 1 1 19, ip_n4 107 .lmul 108 0, ip_n7 108 (.invokestatic 191) 111 35 4 0 40, ip_n4 111 (.lstore 5) 113 5, ip_n4 113 (.aload_n 1) 114 1, ip_n9 114 (.lconst 0) 115 0 0 0 0 (.long 0) [], ip_n4 115 (.aload_n 0) 116 0, ip_n7 116 (.getfield 55) 119 1 11 2 13, ip_n7 119 (.getfield 184) 122 8 3 1 17, ip_n4 122 (.aload_n 0) 123 0, ip_n7 123 (.getfield 52) 126 1 10 2 12, ip_n7 126 (.getfield 198) 129 8 2 1 20, ip_n4 129 .lmul 130 0, ip_n4 130 (.aload_n 0) 131 0, ip_n7 131 (.getfield 52) 134 1 10 2 12, ip_n7 134 (.getfield 184) 137 8 3 1 17, ip_n4 137 (.aload_n 0) 138 0, ip_n7 138 (.getfield 55) 141 1 11 2 13, ip_n7 141 (.getfield 198) 144 8 2 1 20, ip_n4 144 .lmul 145 0, ip_n7 145 (.invokestatic 191) 148 35 4 0 40, ip_n4 148 (.lstore 7) 150 7, ip_n4 150 (.lload_n 3) 151 3, ip_n9 151 (.ldc2_w 201) 154 0 0 0 1054 (.long (-9223372036854775808)) [], ip_n4 154 .lcmp 155 0, ip_n4 155 (.ifCond .eq 21) 158 176, ip_n4 158 (.lload 5) 160 5, ip_n9 160 (.ldc2_w 201) 163 0 0 0 1054 (.long (-9223372036854775808)) [], ip_n4 163 .lcmp 164 0, ip_n4 164 (.ifCond .eq 12) 167 176, ip_n4 167 (.lload 7) 169 7, ip_n9 169 (.ldc2_w 201) 172 0 0 0 1054 (.long (-9223372036854775808)) [], ip_n4 172 .lcmp 173 0, ip_n4 173 (.ifCond .ne 5) 176 178, ip_n9 176 (.iconst 0) 177 0 0 0 0 (.int 0) [], ip_n7 177 .ireturn 178 0 0 3 0, ip_n4 178 (.aload_n 2) 179 2, ip_n4 179 (.lload_n 3) 180 3, ip_n4 180 (.lload 5) 182 5, ip_n4 182 (.lload 7) 184 7, ip_n4 184 (.aload_n 0) 185 0, ip_n7 185 (.getfield 52) 188 1 10 2 12, ip_n7 188 (.getfield 184) 191 8 3 1 17, ip_n4 191 (.aload_n 0) 192 0, ip_n7 192 (.getfield 55) 195 1 11 2 13, ip_n7 195 (.getfield 184) 198 8 3 1 17, ip_n4 198 .lmul 199 0, ip_n7 199 (.invokevirtual 140) 202 93 5 1 27, ip_n4 202 (.aload_n 2) 203 2, ip_n7 203 (.invokevirtual 144) 206 99 1 1 28, ip_n7 206 .ireturn 207 0 0 3 0]
set_option maxRecDepth 100000 in
noncomputable def ip_c35 : List (Nat × ip_E) := [ip_n9 0 (.ldc2_w 203) 3 0 0 0 1045 (.long 2147483648) [], ip_n4 3 (.lstore 7) 5 7, ip_n4 5 (.aload_n 0) 6 0, ip_n9 6 (.iconst 0) 7 0 0 0 0 (.int 0) [], ip_n9 7 (.iconst 0) 8 0 0 0 0 (.int 0) [], ip_n7 8 (.invokevirtual 205) 11 62 3 1 41, ip_n4 11 (.lstore 9) 13 9, ip_n4 13 (.aload_n 0) 14 0, ip_n9 14 (.iconst 0) 15 0 0 0 0 (.int 0) [], ip_n9 15 (.iconst 1) 16 0 0 0 0 (.int 1) [], ip_n7 16 (.invokevirtual 205) 19 62 3 1 41, ip_n4 19 (.lstore 11) 21 11, ip_n4 21 (.aload_n 0) 22 0, ip_n9 22 (.iconst 0) 23 0 0 0 0 (.int 0) [], ip_n9 23 (.iconst 2) 24 0 0 0 0 (.int 2) [], ip_n7 24 (.invokevirtual 205) 27 62 3 1 41, ip_n4 27 (.lstore 13) 29 13, ip_n4 29 (.lload 9) 31 9, ip_n4 31 (.lload 7) 33 7, ip_n4 33 .lrem 34 0, ip_n4 34 (.lload_n 1) 35 1, ip_n4 35 .lmul 36 0, ip_n4 36 (.lload 11) 38 11, ip_n4 38 (.lload 7) 40 7, ip_n4 40 .lrem 41 0, ip_n4 41 (.lload_n 3) 42 3, ip_n4 42 .lmul 43 0, ip_n4 43 .ladd 44 0, ip_n4 44 (.lload 13) 46 13, ip_n4 46 (.lload 7) 48 7, ip_n4 48 .lrem 49 0, ip_n4 49 (.lload 5) 51 5, ip_n4 51 .lmul 52 0, ip_n4 52 .ladd 53 0, ip_n4 53 (.lstore 15) 55 15, ip_n4 55 (.lload 9) 57 9, ip_n4 57 (.lload 7) 59 7, ip_n4 59 .ldiv 60 0, ip_n4 60 (.lload_n 1) 61 1, ip_n4 61 .lmul 62 0, ip_n4 62 (.lload 11) 64 11, ip_n4 64 (.lload 7) 66 7, ip_n4 66 .ldiv 67 0, ip_n4 67 (.lload_n 3) 68 3, ip_n4 68 .lmul 69 0, ip_n4 69 .ladd 70 0, ip_n4 70 (.lload 13) 72 13, ip_n4 72 (.lload 7) 74 7, ip_n4 74 .ldiv 75 0, ip_n4 75 (.lload 5) 77 5, ip_n4 77 .lmul 78 0, ip_n4 78 .ladd 79 0, ip_n4 79 (.lload 15) 81 15, ip_n4 81 (.lload 7) 83 7, ip_n7 83 (.invokestatic 209) 86 290 2 0 42, ip_n4 86 .ladd 87 0, ip_n4 87 (.lstore 17) 89 17, ip_n4 89 (.lload 15) 91 15, ip_n4 91 (.lload 7) 93 7, ip_n7 93 (.invokestatic 215) 96 292 2 0 43, ip_n4 96 (.lstore 15) 98 15, ip_n4 98 (.lload 17) 100 17, ip_n9 100 (.lconst 0) 101 0 0 0 0 (.long 0) [], ip_n4 101 .lcmp 102 0, ip_n4 102 (.ifCond .ne 6) 105 108, ip_n4 105 (.lload 15) 107 15, ip_n4 107 .lreturn 108 0, ip_n4 108 (.lload 17) 110 17, ip_n9 110 (.ldc2_w 218) 113 0 0 0 1053 (.long (-1)) [], ip_n4 113 .lcmp 114 0, ip_n4 114 (.ifCond .ne 11) 117 125, ip_n4 117 (.lload 15) 119 15, ip_n4 119 (.lload 7) 121 7, ip_n4 121 .lsub 122 0, ip_n4 122 (.goto 6) 125 128, ip_n9 125 (.ldc2_w 201) 128 0 0 0 1054 (.long (-9223372036854775808)) [], ip_n4 128 .lreturn 129 0]
set_option maxRecDepth 100000 in
noncomputable def ip_c36 : List (Nat × ip_E) := [ip_n4 0 (.aload_n 0) 1 0, ip_n7 1 (.getfield 9) 4 1 0 2 2, ip_n9 4 (.iconst 3) 5 0 0 0 0 (.int 3) [], ip_n4 5 .iaload 6 0, ip_n4 6 (.istore_n 3) 7 3, ip_n4 7 (.aload_n 0) 8 0, ip_n7 8 (.getfield 9) 11 1 0 2 2, ip_n9 11 (.bipush 8) 13 0 0 0 0 (.int 8) [], ip_n4 13 .iaload 14 0, ip_n4 14 (.istore 4) 16 4, ip_n4 16 (.aload_n 0) 17 0, ip_n7 17 (.getfield 9) 20 1 0 2 2, ip_n9 20 (.bipush 7) 22 0 0 0 0 (.int 7) [], ip_n4 22 .iaload 23 0, ip_n4 23 (.ifCond .eq 7) 26 30, ip_n9 26 (.iconst 2) 27 0 0 0 0 (.int 2) [], ip_n4 27 (.goto 18) 30 45, ip_n4 30 (.aload_n 0) 31 0, ip_n7 31 (.getfield 9) 34 1 0 2 2, ip_n9 34 (.bipush 6) 36 0 0 0 0 (.int 6) [], ip_n4 36 .iaload 37 0, ip_n4 37 (.ifCond .eq 7) 40 44, ip_n9 40 (.iconst 1) 41 0 0 0 0 (.int 1) [], ip_n4 41 (.goto 4) 44 45, ip_n9 44 (.iconst 0) 45 0 0 0 0 (.int 0) [], ip_n4 45 (.istore 5) 47 5, ip_n4 47 (.iload_n 3) 48 3, ip_n4 48 (.aload_n 0) 49 0, ip_n7 49 (.getfield 9) 52 1 0 2 2, ip_n9 52 (.iconst 5) 53 0 0 0 0 (.int 5) [], ip_n4 53 (.iload 5) 55 5, ip_n4 55 .iadd 56 0, ip_n4 56 .iaload 57 0, ip_n4 57 .imul 58 0, ip_n4 58 (.istore 6) 60 6, ip_n4 60 (.iload_n 2) 61 2, ip_n4 61 .ineg 62 0, ip_n4 62 (.iload 4) 64 4, ip_n4 64 .imul 65 0, ip_n4 65 (.aload_n 0) 66 0, ip_n7 66 (.getfield 9) 69 1 0 2 2, ip_n4 69 (.iload 5) 71 5, ip_n4 71 .iaload 72 0, ip_n4 72 .imul 73 0, ip_n4 73 (.istore 7) 75 7, ip_n4 75 (.iload 5) 77 5, ip_n4 77 (.ifCond .ne 14) 80 91, ip_n4 80 (.iload 7) 82 7, ip_n4 82 (.iload_n 1) 83 1, ip_n4 83 (.iload_n 3) 84 3, ip_n4 84 .imul 85 0, ip_n4 85 (.iload 4) 87 4, ip_n4 87 .imul 88 0, ip_n4 88 .isub 89 0, ip_n4 89 (.istore 7) 91 7, ip_n4 91 (.iload 6) 93 6, ip_n4 93 (.ifCond .eq 11) 96 104, ip_n4 96 (.iload 7) 98 7, ip_n4 98 (.iload 6) 100 6, ip_n4 100 .irem 101 0, ip_n4 101 (.ifCond .eq 6) 104 107, ip_n9 104 (.ldc 72) 106 0 0 0 661 (.int (-2147483648)) [], ip_n4 106 .ireturn 107 0, ip_n4 107 (.iload 7) 109 7, ip_n4 109 (.iload 6) 111 6, ip_n4 111 .idiv 112 0, ip_n4 112 (.istore 8) 114 8, ip_n4 114 (.aload_n 0) 115 0, ip_n4 115 (.iload_n 1) 116 1, ip_n4 116 (.iload_n 2) 117 2, ip_n4 117 (.iload 8) 119 8, ip_n7 119 (.invokevirtual 220) 122 37 4 1 44, ip_n4 122 (.ifCond .eq 8) 125 130, ip_n4 125 (.iload 8) 127 8, ip_n4 127 (.goto 5) 130 132, ip_n9 130 (.ldc 72) 132 0 0 0 661 (.int (-2147483648)) [], ip_n4 132 .ireturn 133 0]
set_option maxRecDepth 100000 in
noncomputable def ip_c37 : List (Nat × ip_E) := [ip_n4 0 (.aload_n 0) 1 0, ip_n7 1 (.getfield 9) 4 1 0 2 2, ip_n9 4 (.iconst 3) 5 0 0 0 0 (.int 3) [], ip_n4 5 .iaload 6 0, ip_n4 6 (.istore 4) 8 4, ip_n4 8 (.aload_n 0) 9 0, ip_n7 9 (.getfield 9) 12 1 0 2 2, ip_n9 12 (.bipush 8) 14 0 0 0 0 (.int 8) [], ip_n4 14 .iaload 15 0, ip_n4 15 (.istore 5) 17 5, ip_n9 17 (.iconst 2) 18 0 0 0 0 (.int 2) [], ip_n4 18 (.istore 6) 20 6, ip_n4 20 (.iload 6) 22 6, ip_n4 22 (.ifCond .lt 62) 25 84, ip_n4 25 (.iload_n 2) 26 2, ip_n4 26 (.iload 5) 28 5, ip_n4 28 .imul 29 0, ip_n4 29 (.aload_n 0) 30 0, ip_n7 30 (.getfield 9) 33 1 0 2 2, ip_n4 33 (.iload 6) 35 6, ip_n4 35 .iaload 36 0, ip_n4 36 .imul 37 0, ip_n4 37 (.iload_n 3) 38 3, ip_n4 38 (.iload 4) 40 4, ip_n4 40 .imul 41 0, ip_n4 41 (.aload_n 0) 42 0, ip_n7 42 (.getfield 9) 45 1 0 2 2, ip_n9 45 (.iconst 5) 46 0 0 0 0 (.int 5) [], ip_n4 46 (.iload 6) 48 6, ip_n4 48 .iadd 49 0, ip_n4 49 .iaload 50 0, ip_n4 50 .imul 51 0, ip_n4 51 .iadd 52 0, ip_n4 52 (.istore 7) 54 7, ip_n4 54 (.iload 6) 56 6, ip_n4 56 (.ifCond .ne 15) 59 71, ip_n4 59 (.iload 7) 61 7, ip_n4 61 (.iload_n 1) 62 1, ip_n4 62 (.iload 4) 64 4, ip_n4 64 .imul 65 0, ip_n4 65 (.iload 5) 67 5, ip_n4 67 .imul 68 0, ip_n4 68 .iadd 69 0, ip_n4 69 (.istore 7) 71 7, ip_n4 71 (.iload 7) 73 7, ip_n4 73 (.ifCond .eq 5) 76 78, ip_n9 76 (.iconst 0) 77 0 0 0 0 (.int 0) [], ip_n7 77 .ireturn 78 0 0 3 0, ip_n9 78 (.iinc 6 (-1)) 81 6 0 0 0 (.int (-1)) [], ip_n4 81 (.goto (-61)) 84 20, ip_n9 84 (.iconst 1) 85 0 0 0 0 (.int 1) [], ip_n7 85 .ireturn 86 0 0 3 0]
set_option maxRecDepth 100000 in
noncomputable def ip_c38 : List (Nat × ip_E) := [ip_n4 0 (.aload_n 0) 1 0, ip_n7 1 (.invokespecial 1) 4 0 0 6 1, ip_n4 4 (.aload_n 0) 5 0, ip_n9 5 (.iconst 0) 6 0 0 0 0 (.int 0) [], ip_n7 6 (.putfield 7) 9 2 0 0 21, ip_n4 9 (.aload_n 0) 10 0, ip_n9 10 (.iconst 0) 11 0 0 0 0 (.int 0) [], ip_n7 11 (.putfield 13) 14 2 1 0 22, ip_n4 14 (.aload_n 0) 15 0, ip_n9 15 (.iconst 2) 16 0 0 0 0 (.int 2) [], ip_n7 16 (.putfield 16) 19 2 2 0 23, ip_n4 19 (.aload_n 0) 20 0, ip_n7 20 (.new 19) 23 4 1 0 0, ip_n4 23 .dup 24 0, ip_n7 24 (.invokespecial 21) 27 60 1 5 45, ip_n7 27 (.putfield 22) 30 2 3 2 24, ip_n4 30 (.aload_n 0) 31 0, ip_n7 31 (.new 26) 34 8 4 0 0, ip_n4 34 .dup 35 0, ip_n7 35 (.invokespecial 28) 38 92 1 5 46, ip_n7 38 (.putfield 29) 41 2 4 2 25, ip_n4 41 .return_ 42 0]
set_option maxRecDepth 100000 in
noncomputable def ip_c39 : List (Nat × ip_E) := [ip_n4 0 (.lload_n 0) 1 0, ip_n9 1 (.ldc2_w 33) 4 0 0 0 444 (.long (-3)) [], ip_n4 4 .lcmp 5 0, ip_n4 5 (.ifCond .lt 49) 8 54, ip_n4 8 (.lload_n 0) 9 0, ip_n9 9 (.ldc2_w 35) 12 0 0 0 445 (.long 3) [], ip_n4 12 .lcmp 13 0, ip_n4 13 (.ifCond .gt 41) 16 54, ip_n4 16 (.lload_n 2) 17 2, ip_n9 17 (.ldc2_w 33) 20 0 0 0 444 (.long (-3)) [], ip_n4 20 .lcmp 21 0, ip_n4 21 (.ifCond .lt 33) 24 54, ip_n4 24 (.lload_n 2) 25 2, ip_n9 25 (.ldc2_w 35) 28 0 0 0 445 (.long 3) [], ip_n4 28 .lcmp 29 0, ip_n4 29 (.ifCond .gt 25) 32 54, ip_n4 32 (.lload 4) 34 4, ip_n9 34 (.ldc2_w 33) 37 0 0 0 444 (.long (-3)) [], ip_n4 37 .lcmp 38 0, ip_n4 38 (.ifCond .lt 16) 41 54, ip_n4 41 (.lload 4) 43 4, ip_n9 43 (.ldc2_w 35) 46 0 0 0 445 (.long 3) [], ip_n4 46 .lcmp 47 0, ip_n4 47 (.ifCond .gt 7) 50 54, ip_n9 50 (.iconst 1) 51 0 0 0 0 (.int 1) [], ip_n4 51 (.goto 4) 54 55, ip_n9 54 (.iconst 0) 55 0 0 0 0 (.int 0) [], ip_n7 55 .ireturn 56 0 0 3 0]
set_option maxRecDepth 100000 in
noncomputable def ip_d40_0 : List (Nat × ip_E) := [ip_n9 0 (.bipush (-3)) 2 0 0 0 0 (.int (-3)) [], ip_n4 2 (.istore 6) 4 6, ip_n4 4 (.iload 6) 6 6, ip_n9 6 (.iconst 3) 7 0 0 0 0 (.int 3) [], ip_n4 7 (.if_icmp .gt 42) 10 49, ip_n4 10 (.iload 6) 12 6, ip_n4 12 (.iload 6) 14 6, ip_n4 14 .imul 15 0, ip_n4 15 (.iload 6) 17 6, ip_n4 17 .imul 18 0, ip_n4 18 .i2l 19 0, ip_n4 19 (.lload_n 0) 20 0, ip_n4 20 (.iload 6) 22 6, ip_n4 22 .i2l 23 0, ip_n4 23 .lmul 24 0, ip_n4 24 (.iload 6) 26 6, ip_n4 26 .i2l 27 0, ip_n4 27 .lmul 28 0, ip_n4 28 (.lload_n 2) 29 2, ip_n4 29 (.iload 6) 31 6, ip_n4 31 .i2l 32 0, ip_n4 32 .lmul 33 0, ip_n4 33 .ladd 34 0, ip_n4 34 (.lload 4) 36 4]
set_option maxRecDepth 100000 in
noncomputable def ip_d40_1 : List (Nat × ip_E) := [ip_n4 36 .ladd 37 0, ip_n4 37 .lcmp 38 0, ip_n4 38 (.ifCond .ne 5) 41 43, ip_n9 41 (.iconst 0) 42 0 0 0 0 (.int 0) [], ip_n7 42 .ireturn 43 0 0 3 0, ip_n9 43 (.iinc 6 1) 46 6 0 0 0 (.int 1) [], ip_n4 46 (.goto (-42)) 49 4, ip_n4 49 (.lload_n 0) 50 0, ip_n4 50 (.lload_n 2) 51 2, ip_n4 51 (.lload 4) 53 4, ip_n7 53 (.invokestatic 37) 56 41 3 0 47, ip_n9 56 (.lconst 0) 57 0 0 0 0 (.long 0) [], ip_n4 57 .lcmp 58 0, ip_n4 58 (.ifCond .ge 7) 61 65, ip_n9 61 (.iconst 1) 62 0 0 0 0 (.int 1) [], ip_n4 62 (.goto 4) 65 66, ip_n9 65 (.iconst 0) 66 0 0 0 0 (.int 0) [], ip_n7 66 .ireturn 67 0 0 3 0]
set_option maxRecDepth 100000 in
noncomputable def ip_c40 : List (Nat × ip_E) := ip_d40_0 ++ (ip_d40_1)
set_option maxRecDepth 100000 in
noncomputable def ip_d41_0 : List (Nat × ip_E) := [ip_n4 0 (.lload_n 0) 1 0, ip_n4 1 (.lload_n 0) 2 0, ip_n4 2 .lmul 3 0, ip_n4 3 (.lload_n 2) 4 2, ip_n4 4 .lmul 5 0, ip_n4 5 (.lload_n 2) 6 2, ip_n4 6 .lmul 7 0, ip_n9 7 (.ldc2_w 41) 10 0 0 0 456 (.long 4) [], ip_n4 10 (.lload_n 2) 11 2, ip_n4 11 .lmul 12 0, ip_n4 12 (.lload_n 2) 13 2, ip_n4 13 .lmul 14 0, ip_n4 14 (.lload_n 2) 15 2, ip_n4 15 .lmul 16 0, ip_n4 16 .ladd 17 0, ip_n9 17 (.ldc2_w 41) 20 0 0 0 456 (.long 4) [], ip_n4 20 (.lload_n 0) 21 0, ip_n4 21 .lmul 22 0, ip_n4 22 (.lload_n 0) 23 0, ip_n4 23 .lmul 24 0, ip_n4 24 (.lload_n 0) 25 0, ip_n4 25 .lmul 26 0, ip_n4 26 (.lload 4) 28 4, ip_n4 28 .lmul 29 0]
set_option maxRecDepth 100000 in
noncomputable def ip_d41_1 : List (Nat × ip_E) := [ip_n4 29 .lsub 30 0, ip_n9 30 (.ldc2_w 43) 33 0 0 0 457 (.long 27) [], ip_n4 33 (.lload 4) 35 4, ip_n4 35 .lmul 36 0, ip_n4 36 (.lload 4) 38 4, ip_n4 38 .lmul 39 0, ip_n4 39 .lsub 40 0, ip_n9 40 (.ldc2_w 45) 43 0 0 0 458 (.long 18) [], ip_n4 43 (.lload_n 0) 44 0, ip_n4 44 .lmul 45 0, ip_n4 45 (.lload_n 2) 46 2, ip_n4 46 .lmul 47 0, ip_n4 47 (.lload 4) 49 4, ip_n4 49 .lmul 50 0, ip_n4 50 .lsub 51 0, ip_n4 51 .lreturn 52 0]
set_option maxRecDepth 100000 in
noncomputable def ip_c41 : List (Nat × ip_E) := ip_d41_0 ++ (ip_d41_1)
set_option maxRecDepth 100000 in
noncomputable def ip_c42 : List (Nat × ip_E) := [ip_n4 0 (.aload_n 0) 1 0, ip_n4 1 (.iload_n 1) 2 1, ip_n7 2 (.putfield 7) 5 2 0 0 21, ip_n4 5 (.aload_n 0) 6 0, ip_n4 6 (.iload_n 2) 7 2, ip_n7 7 (.putfield 13) 10 2 1 0 22, ip_n4 10 (.aload_n 0) 11 0, ip_n4 11 (.iload_n 3) 12 3, ip_n7 12 (.putfield 16) 15 2 2 0 23, ip_n4 15 .return_ 16 0]
set_option maxRecDepth 100000 in
noncomputable def ip_c43 : List (Nat × ip_E) := [ip_n4 0 (.aload_n 0) 1 0, ip_n7 1 (.getfield 7) 4 2 0 0 21, ip_n4 4 .i2l 5 0, ip_n4 5 (.aload_n 0) 6 0, ip_n7 6 (.getfield 13) 9 2 1 0 22, ip_n4 9 .i2l 10 0, ip_n4 10 (.aload_n 0) 11 0, ip_n7 11 (.getfield 16) 14 2 2 0 23, ip_n4 14 .i2l 15 0, ip_n7 15 (.invokestatic 37) 18 41 3 0 47, ip_n4 18 .l2i 19 0, ip_n4 19 .ireturn 20 0]
set_option maxRecDepth 100000 in
noncomputable def ip_d44_0 : List (Nat × ip_E) := [ip_n4 0 (.aload_n 0) 1 0, ip_n7 1 (.getfield 22) 4 2 3 2 24, ip_n9 4 (.iconst 0) 5 0 0 0 0 (.int 0) [], ip_n4 5 (.lload_n 1) 6 1, ip_n4 6 (.lload_n 3) 7 3, ip_n4 7 (.lload 5) 9 5, ip_n7 9 (.invokevirtual 47) 12 63 5 1 48, ip_n4 12 (.lload_n 3) 13 3, ip_n4 13 (.lload 5) 15 5, ip_n4 15 (.aload_n 0) 16 0, ip_n7 16 (.getfield 7) 19 2 0 0 21, ip_n4 19 .i2l 20 0, ip_n4 20 .lmul 21 0, ip_n4 21 .ladd 22 0, ip_n4 22 (.lstore 7) 24 7, ip_n4 24 (.aload_n 0) 25 0, ip_n7 25 (.getfield 22) 28 2 3 2 24, ip_n9 28 (.iconst 1) 29 0 0 0 0 (.int 1) [], ip_n4 29 (.lload 5) 31 5, ip_n4 31 (.aload_n 0) 32 0, ip_n7 32 (.getfield 16) 35 2 2 0 23, ip_n4 35 .i2l 36 0, ip_n4 36 .lmul 37 0, ip_n4 37 (.lload_n 1) 38 1]
set_option maxRecDepth 100000 in
noncomputable def ip_d44_1 : List (Nat × ip_E) := [ip_n4 38 (.lload 5) 40 5, ip_n4 40 (.aload_n 0) 41 0, ip_n7 41 (.getfield 13) 44 2 1 0 22, ip_n4 44 .i2l 45 0, ip_n4 45 .lmul 46 0, ip_n4 46 .ladd 47 0, ip_n4 47 (.lload 7) 49 7, ip_n7 49 (.invokevirtual 47) 52 63 5 1 48, ip_n4 52 (.aload_n 0) 53 0, ip_n7 53 (.getfield 22) 56 2 3 2 24, ip_n9 56 (.iconst 2) 57 0 0 0 0 (.int 2) [], ip_n4 57 (.lload 7) 59 7, ip_n4 59 (.aload_n 0) 60 0, ip_n7 60 (.getfield 16) 63 2 2 0 23, ip_n4 63 .i2l 64 0, ip_n4 64 .lmul 65 0, ip_n4 65 (.lload 5) 67 5, ip_n4 67 (.aload_n 0) 68 0, ip_n7 68 (.getfield 16) 71 2 2 0 23, ip_n4 71 .i2l 72 0, ip_n4 72 .lmul 73 0, ip_n4 73 (.lload 7) 75 7, ip_n4 75 (.aload_n 0) 76 0, ip_n7 76 (.getfield 13) 79 2 1 0 22]
set_option maxRecDepth 100000 in
noncomputable def ip_d44_2 : List (Nat × ip_E) := [ip_n4 79 .i2l 80 0, ip_n4 80 .lmul 81 0, ip_n4 81 .ladd 82 0, ip_n4 82 (.lload_n 1) 83 1, ip_n4 83 (.lload 5) 85 5, ip_n4 85 (.aload_n 0) 86 0, ip_n7 86 (.getfield 13) 89 2 1 0 22, ip_n4 89 .i2l 90 0, ip_n4 90 .lmul 91 0, ip_n4 91 .ladd 92 0, ip_n4 92 (.lload 7) 94 7, ip_n4 94 (.aload_n 0) 95 0, ip_n7 95 (.getfield 7) 98 2 0 0 21, ip_n4 98 .i2l 99 0, ip_n4 99 .lmul 100 0, ip_n4 100 .ladd 101 0, ip_n7 101 (.invokevirtual 47) 104 63 5 1 48, ip_n4 104 .return_ 105 0]
set_option maxRecDepth 100000 in
noncomputable def ip_c44 : List (Nat × ip_E) := ip_d44_0 ++ (ip_d44_1 ++ (ip_d44_2))
set_option maxRecDepth 100000 in
noncomputable def ip_d45_0 : List (Nat × ip_E) := [ip_n4 0 (.lload 5) 2 5, ip_n4 2 (.aload_n 0) 3 0, ip_n7 3 (.getfield 16) 6 2 2 0 23, ip_n4 6 .i2l 7 0, ip_n4 7 .lmul 8 0, ip_n4 8 (.lstore 7) 10 7, ip_n4 10 (.lload_n 1) 11 1, ip_n4 11 (.lload 5) 13 5, ip_n4 13 (.aload_n 0) 14 0, ip_n7 14 (.getfield 13) 17 2 1 0 22, ip_n4 17 .i2l 18 0, ip_n4 18 .lmul 19 0, ip_n4 19 .ladd 20 0, ip_n4 20 (.lstore 9) 22 9, ip_n4 22 (.lload_n 3) 23 3, ip_n4 23 (.lload 5) 25 5, ip_n4 25 (.aload_n 0) 26 0, ip_n7 26 (.getfield 7) 29 2 0 0 21, ip_n4 29 .i2l 30 0, ip_n4 30 .lmul 31 0, ip_n4 31 .ladd 32 0, ip_n4 32 (.lstore 11) 34 11, ip_n4 34 (.lload 11) 36 11, ip_n4 36 (.aload_n 0) 37 0]
set_option maxRecDepth 100000 in
noncomputable def ip_d45_1 : List (Nat × ip_E) := [ip_n7 37 (.getfield 16) 40 2 2 0 23, ip_n4 40 .i2l 41 0, ip_n4 41 .lmul 42 0, ip_n4 42 (.lstore 13) 44 13, ip_n4 44 (.lload 7) 46 7, ip_n4 46 (.lload 11) 48 11, ip_n4 48 (.aload_n 0) 49 0, ip_n7 49 (.getfield 13) 52 2 1 0 22, ip_n4 52 .i2l 53 0, ip_n4 53 .lmul 54 0, ip_n4 54 .ladd 55 0, ip_n4 55 (.lstore 15) 57 15, ip_n4 57 (.lload 9) 59 9, ip_n4 59 (.lload 11) 61 11, ip_n4 61 (.aload_n 0) 62 0, ip_n7 62 (.getfield 7) 65 2 0 0 21, ip_n4 65 .i2l 66 0, ip_n4 66 .lmul 67 0, ip_n4 67 .ladd 68 0, ip_n4 68 (.lstore 17) 70 17, ip_n4 70 (.lload_n 1) 71 1, ip_n4 71 (.lload 9) 73 9, ip_n4 73 (.lload 17) 75 17, ip_n4 75 .lmul 76 0]
set_option maxRecDepth 100000 in
noncomputable def ip_d45_2 : List (Nat × ip_E) := [ip_n4 76 (.lload 11) 78 11, ip_n4 78 (.lload 15) 80 15, ip_n4 80 .lmul 81 0, ip_n4 81 .lsub 82 0, ip_n4 82 .lmul 83 0, ip_n4 83 (.lload_n 3) 84 3, ip_n4 84 (.lload 7) 86 7, ip_n4 86 (.lload 17) 88 17, ip_n4 88 .lmul 89 0, ip_n4 89 (.lload 11) 91 11, ip_n4 91 (.lload 13) 93 13, ip_n4 93 .lmul 94 0, ip_n4 94 .lsub 95 0, ip_n4 95 .lmul 96 0, ip_n4 96 .lsub 97 0, ip_n4 97 (.lload 5) 99 5, ip_n4 99 (.lload 7) 101 7, ip_n4 101 (.lload 15) 103 15, ip_n4 103 .lmul 104 0, ip_n4 104 (.lload 9) 106 9, ip_n4 106 (.lload 13) 108 13, ip_n4 108 .lmul 109 0, ip_n4 109 .lsub 110 0, ip_n4 110 .lmul 111 0]
set_option maxRecDepth 100000 in
noncomputable def ip_d45_3 : List (Nat × ip_E) := [ip_n4 111 .ladd 112 0, ip_n4 112 (.lstore 19) 114 19, ip_n4 114 (.lload 19) 116 19, ip_n9 116 (.lconst 0) 117 0 0 0 0 (.long 0) [], ip_n4 117 .lcmp 118 0, ip_n4 118 (.ifCond .le 7) 121 125, ip_n9 121 (.iconst 1) 122 0 0 0 0 (.int 1) [], ip_n4 122 (.goto 15) 125 137, ip_n4 125 (.lload 19) 127 19, ip_n9 127 (.lconst 0) 128 0 0 0 0 (.long 0) [], ip_n4 128 .lcmp 129 0, ip_n4 129 (.ifCond .ge 7) 132 136, ip_n9 132 (.iconst (-1)) 133 0 0 0 0 (.int (-1)) [], ip_n4 133 (.goto 4) 136 137, ip_n9 136 (.iconst 0) 137 0 0 0 0 (.int 0) [], ip_n4 137 .ireturn 138 0]
set_option maxRecDepth 100000 in
noncomputable def ip_c45 : List (Nat × ip_E) := ip_d45_0 ++ (ip_d45_1 ++ (ip_d45_2 ++ (ip_d45_3)))
set_option maxRecDepth 100000 in
noncomputable def ip_c46 : List (Nat × ip_E) := [ip_n4 0 (.aload_n 0) 1 0, ip_n4 1 (.aload_n 1) 2 1, ip_n7 2 (.getfield 51) 5 8 0 1 26, ip_n4 5 (.aload_n 1) 6 1, ip_n7 6 (.getfield 55) 9 8 1 1 27, ip_n4 9 (.aload_n 1) 10 1, ip_n7 10 (.getfield 58) 13 8 2 1 28, ip_n7 13 (.invokevirtual 61) 16 45 4 1 49, ip_n4 16 .ireturn 17 0]
set_option maxRecDepth 100000 in
noncomputable def ip_c47 : List (Nat × ip_E) := [ip_n4 0 (.aload_n 0) 1 0, ip_n4 1 (.aload_n 1) 2 1, ip_n7 2 (.getfield 51) 5 8 0 1 26, ip_n4 5 (.lload 4) 7 4, ip_n4 7 .lmul 8 0, ip_n4 8 (.lload_n 2) 9 2, ip_n4 9 (.aload_n 1) 10 1, ip_n7 10 (.getfield 65) 13 8 3 1 29, ip_n4 13 .lmul 14 0, ip_n4 14 .lsub 15 0, ip_n4 15 (.aload_n 1) 16 1, ip_n7 16 (.getfield 55) 19 8 1 1 27, ip_n4 19 (.lload 4) 21 4, ip_n4 21 .lmul 22 0, ip_n4 22 (.aload_n 1) 23 1, ip_n7 23 (.getfield 58) 26 8 2 1 28, ip_n4 26 (.lload 4) 28 4, ip_n4 28 .lmul 29 0, ip_n7 29 (.invokevirtual 61) 32 45 4 1 49, ip_n4 32 .ireturn 33 0]
set_option maxRecDepth 100000 in
noncomputable def ip_d48_0 : List (Nat × ip_E) := [ip_n4 0 (.aload_n 0) 1 0, ip_n4 1 (.aload_n 1) 2 1, ip_n7 2 (.getfield 51) 5 8 0 1 26, ip_n4 5 (.aload_n 2) 6 2, ip_n7 6 (.getfield 65) 9 8 3 1 29, ip_n4 9 .lmul 10 0, ip_n4 10 (.aload_n 2) 11 2, ip_n7 11 (.getfield 51) 14 8 0 1 26, ip_n4 14 (.aload_n 1) 15 1, ip_n7 15 (.getfield 65) 18 8 3 1 29, ip_n4 18 .lmul 19 0, ip_n4 19 .lsub 20 0, ip_n4 20 (.aload_n 1) 21 1, ip_n7 21 (.getfield 55) 24 8 1 1 27, ip_n4 24 (.aload_n 2) 25 2, ip_n7 25 (.getfield 65) 28 8 3 1 29, ip_n4 28 .lmul 29 0, ip_n4 29 (.aload_n 2) 30 2, ip_n7 30 (.getfield 55) 33 8 1 1 27, ip_n4 33 (.aload_n 1) 34 1, ip_n7 34 (.getfield 65) 37 8 3 1 29, ip_n4 37 .lmul 38 0, ip_n4 38 .lsub 39 0, ip_n4 39 (.aload_n 1) 40 1]
set_option maxRecDepth 100000 in
noncomputable def ip_d48_1 : List (Nat × ip_E) := [ip_n7 40 (.getfield 58) 43 8 2 1 28, ip_n4 43 (.aload_n 2) 44 2, ip_n7 44 (.getfield 65) 47 8 3 1 29, ip_n4 47 .lmul 48 0, ip_n4 48 (.aload_n 2) 49 2, ip_n7 49 (.getfield 58) 52 8 2 1 28, ip_n4 52 (.aload_n 1) 53 1, ip_n7 53 (.getfield 65) 56 8 3 1 29, ip_n4 56 .lmul 57 0, ip_n4 57 .lsub 58 0, ip_n7 58 (.invokevirtual 61) 61 45 4 1 49, ip_n4 61 .ireturn 62 0]
set_option maxRecDepth 100000 in
noncomputable def ip_c48 : List (Nat × ip_E) := ip_d48_0 ++ (ip_d48_1)
set_option maxRecDepth 100000 in
noncomputable def ip_c49 : List (Nat × ip_E) := [ip_n9 0 (.sipush (-4096)) 3 0 0 0 0 (.int (-4096)) [], ip_n4 3 (.istore_n 2) 4 2, ip_n9 4 (.sipush 4096) 7 0 0 0 0 (.int 4096) [], ip_n4 7 (.istore_n 3) 8 3, ip_n9 8 (.iconst 0) 9 0 0 0 0 (.int 0) [], ip_n4 9 (.istore 4) 11 4, ip_n4 11 (.iload 4) 13 4, ip_n9 13 (.bipush 13) 15 0 0 0 0 (.int 13) [], ip_n4 15 (.if_icmp .ge 37) 18 52, ip_n4 18 (.iload_n 2) 19 2, ip_n4 19 (.iload_n 3) 20 3, ip_n4 20 .iadd 21 0, ip_n9 21 (.iconst 1) 22 0 0 0 0 (.int 1) [], ip_n4 22 .ishr 23 0, ip_n4 23 (.istore 5) 25 5, ip_n4 25 (.aload_n 0) 26 0, ip_n4 26 (.aload_n 1) 27 1, ip_n4 27 (.iload 5) 29 5, ip_n4 29 .i2l 30 0, ip_n9 30 (.lconst 1) 31 0 0 0 0 (.long 1) [], ip_n7 31 (.invokevirtual 68) 34 47 4 1 50, ip_n4 34 (.ifCond .lt 9) 37 43, ip_n4 37 (.iload 5) 39 5, ip_n4 39 (.istore_n 2) 40 2, ip_n4 40 (.goto 6) 43 46, ip_n4 43 (.iload 5) 45 5, ip_n4 45 (.istore_n 3) 46 3, ip_n9 46 (.iinc 4 1) 49 4 0 0 0 (.int 1) [], ip_n4 49 (.goto (-38)) 52 11, ip_n4 52 (.iload_n 2) 53 2, ip_n4 53 .ireturn 54 0]
set_option maxRecDepth 100000 in
noncomputable def ip_d50_0 : List (Nat × ip_E) := [ip_n4 0 (.iload_n 3) 1 3, ip_n4 1 .i2l 2 0, ip_n4 2 (.aload_n 1) 3 1, ip_n7 3 (.getfield 65) 6 8 3 1 29, ip_n4 6 .lmul 7 0, ip_n4 7 (.lstore 5) 9 5, ip_n4 9 (.aload 4) 11 4, ip_n4 11 (.aload_n 1) 12 1, ip_n7 12 (.getfield 51) 15 8 0 1 26, ip_n4 15 (.aload_n 2) 16 2, ip_n7 16 (.getfield 65) 19 8 3 1 29, ip_n4 19 .lmul 20 0, ip_n4 20 (.aload_n 2) 21 2, ip_n7 21 (.getfield 51) 24 8 0 1 26, ip_n4 24 (.lload 5) 26 5, ip_n4 26 .lmul 27 0, ip_n4 27 .ladd 28 0, ip_n4 28 (.aload_n 1) 29 1, ip_n7 29 (.getfield 55) 32 8 1 1 27, ip_n4 32 (.aload_n 2) 33 2, ip_n7 33 (.getfield 65) 36 8 3 1 29, ip_n4 36 .lmul 37 0, ip_n4 37 (.aload_n 2) 38 2, ip_n7 38 (.getfield 55) 41 8 1 1 27]
set_option maxRecDepth 100000 in
noncomputable def ip_d50_1 : List (Nat × ip_E) := [ip_n4 41 (.lload 5) 43 5, ip_n4 43 .lmul 44 0, ip_n4 44 .ladd 45 0, ip_n4 45 (.aload_n 1) 46 1, ip_n7 46 (.getfield 58) 49 8 2 1 28, ip_n4 49 (.aload_n 2) 50 2, ip_n7 50 (.getfield 65) 53 8 3 1 29, ip_n4 53 .lmul 54 0, ip_n4 54 (.aload_n 2) 55 2, ip_n7 55 (.getfield 58) 58 8 2 1 28, ip_n4 58 (.lload 5) 60 5, ip_n4 60 .lmul 61 0, ip_n4 61 .ladd 62 0, ip_n4 62 (.aload_n 1) 63 1, ip_n7 63 (.getfield 65) 66 8 3 1 29, ip_n4 66 (.aload_n 2) 67 2, ip_n7 67 (.getfield 65) 70 8 3 1 29, ip_n4 70 .lmul 71 0, ip_n7 71 (.invokevirtual 72) 74 93 5 1 51, ip_n4 74 .return_ 75 0]
set_option maxRecDepth 100000 in
noncomputable def ip_c50 : List (Nat × ip_E) := ip_d50_0 ++ (ip_d50_1)
set_option maxRecDepth 100000 in
noncomputable def ip_c51 : List (Nat × ip_E) := [ip_n4 0 (.aload_n 0) 1 0, ip_n4 1 (.aload_n 2) 2 2, ip_n7 2 (.getfield 51) 5 8 0 1 26, ip_n4 5 (.aload_n 2) 6 2, ip_n7 6 (.getfield 55) 9 8 1 1 27, ip_n4 9 (.aload_n 2) 10 2, ip_n7 10 (.getfield 58) 13 8 2 1 28, ip_n7 13 (.invokevirtual 76) 16 44 4 1 52, ip_n4 16 (.aload_n 3) 17 3, ip_n4 17 (.aload_n 0) 18 0, ip_n7 18 (.getfield 22) 21 2 3 2 24, ip_n4 21 (.aload_n 1) 22 1, ip_n9 22 (.iconst 0) 23 0 0 0 0 (.int 0) [], ip_n7 23 (.invokevirtual 80) 26 73 3 1 53, ip_n4 26 (.aload_n 0) 27 0, ip_n7 27 (.getfield 22) 30 2 3 2 24, ip_n4 30 (.aload_n 1) 31 1, ip_n9 31 (.iconst 1) 32 0 0 0 0 (.int 1) [], ip_n7 32 (.invokevirtual 80) 35 73 3 1 53, ip_n4 35 (.aload_n 0) 36 0, ip_n7 36 (.getfield 22) 39 2 3 2 24, ip_n4 39 (.aload_n 1) 40 1, ip_n9 40 (.iconst 2) 41 0 0 0 0 (.int 2) [], ip_n7 41 (.invokevirtual 80) 44 73 3 1 53, ip_n4 44 (.aload_n 1) 45 1, ip_n7 45 (.getfield 65) 48 8 3 1 29, ip_n4 48 (.aload_n 2) 49 2, ip_n7 49 (.getfield 65) 52 8 3 1 29, ip_n4 52 .lmul 53 0, ip_n7 53 (.invokevirtual 72) 56 93 5 1 51, ip_n4 56 .return_ 57 0]
set_option maxRecDepth 100000 in
noncomputable def ip_d52_0 : List (Nat × ip_E) := [ip_n4 0 (.aload_n 0) 1 0, ip_n4 1 (.aload_n 2) 2 2, ip_n7 2 (.getfield 51) 5 8 0 1 26, ip_n4 5 (.aload_n 2) 6 2, ip_n7 6 (.getfield 55) 9 8 1 1 27, ip_n4 9 (.aload_n 2) 10 2, ip_n7 10 (.getfield 58) 13 8 2 1 28, ip_n7 13 (.invokevirtual 76) 16 44 4 1 52, ip_n4 16 (.aload_n 0) 17 0, ip_n7 17 (.getfield 22) 20 2 3 2 24, ip_n9 20 (.iconst 2) 21 0 0 0 0 (.int 2) [], ip_n7 21 (.invokevirtual 84) 24 72 2 1 54, ip_n4 24 (.lstore 4) 26 4, ip_n4 26 (.aload_n 0) 27 0, ip_n4 27 (.aload_n 0) 28 0, ip_n7 28 (.getfield 22) 31 2 3 2 24, ip_n9 31 (.iconst 0) 32 0 0 0 0 (.int 0) [], ip_n9 32 (.iconst 0) 33 0 0 0 0 (.int 0) [], ip_n7 33 (.invokevirtual 88) 36 71 3 1 55, ip_n4 36 (.aload_n 0) 37 0, ip_n7 37 (.getfield 22) 40 2 3 2 24, ip_n9 40 (.iconst 1) 41 0 0 0 0 (.int 1) [], ip_n9 41 (.iconst 0) 42 0 0 0 0 (.int 0) [], ip_n7 42 (.invokevirtual 88) 45 71 3 1 55]
set_option maxRecDepth 100000 in
noncomputable def ip_d52_1 : List (Nat × ip_E) := [ip_n4 45 (.aload_n 0) 46 0, ip_n7 46 (.getfield 22) 49 2 3 2 24, ip_n9 49 (.iconst 2) 50 0 0 0 0 (.int 2) [], ip_n9 50 (.iconst 0) 51 0 0 0 0 (.int 0) [], ip_n7 51 (.invokevirtual 88) 54 71 3 1 55, ip_n7 54 (.invokevirtual 76) 57 44 4 1 52, ip_n4 57 (.aload_n 3) 58 3, ip_n4 58 (.aload_n 2) 59 2, ip_n7 59 (.getfield 65) 62 8 3 1 29, ip_n4 62 (.aload_n 0) 63 0, ip_n7 63 (.getfield 22) 66 2 3 2 24, ip_n4 66 (.aload_n 1) 67 1, ip_n9 67 (.iconst 0) 68 0 0 0 0 (.int 0) [], ip_n7 68 (.invokevirtual 80) 71 73 3 1 53, ip_n4 71 .lmul 72 0, ip_n4 72 (.aload_n 2) 73 2, ip_n7 73 (.getfield 65) 76 8 3 1 29, ip_n4 76 (.aload_n 0) 77 0, ip_n7 77 (.getfield 22) 80 2 3 2 24, ip_n4 80 (.aload_n 1) 81 1, ip_n9 81 (.iconst 1) 82 0 0 0 0 (.int 1) [], ip_n7 82 (.invokevirtual 80) 85 73 3 1 53, ip_n4 85 .lmul 86 0, ip_n4 86 (.aload_n 2) 87 2]
set_option maxRecDepth 100000 in
noncomputable def ip_d52_2 : List (Nat × ip_E) := [ip_n7 87 (.getfield 65) 90 8 3 1 29, ip_n4 90 (.aload_n 0) 91 0, ip_n7 91 (.getfield 22) 94 2 3 2 24, ip_n4 94 (.aload_n 1) 95 1, ip_n9 95 (.iconst 2) 96 0 0 0 0 (.int 2) [], ip_n7 96 (.invokevirtual 80) 99 73 3 1 53, ip_n4 99 .lmul 100 0, ip_n4 100 (.aload_n 1) 101 1, ip_n7 101 (.getfield 65) 104 8 3 1 29, ip_n4 104 (.lload 4) 106 4, ip_n4 106 .lmul 107 0, ip_n7 107 (.invokevirtual 72) 110 93 5 1 51, ip_n4 110 .return_ 111 0]
set_option maxRecDepth 100000 in
noncomputable def ip_c52 : List (Nat × ip_E) := ip_d52_0 ++ (ip_d52_1 ++ (ip_d52_2))
set_option maxRecDepth 100000 in
noncomputable def ip_d53_0 : List (Nat × ip_E) := [ip_n4 0 (.aload_n 0) 1 0, ip_n7 1 (.getfield 29) 4 2 4 2 25, ip_n4 4 (.aload_n 1) 5 1, ip_n9 5 (.iconst 0) 6 0 0 0 0 (.int 0) [], ip_n9 6 (.iconst 1) 7 0 0 0 0 (.int 1) [], ip_n7 7 (.invokevirtual 92) 10 62 3 1 56, ip_n4 10 (.aload_n 1) 11 1, ip_n9 11 (.iconst 1) 12 0 0 0 0 (.int 1) [], ip_n9 12 (.iconst 2) 13 0 0 0 0 (.int 2) [], ip_n7 13 (.invokevirtual 92) 16 62 3 1 56, ip_n4 16 .lmul 17 0, ip_n4 17 (.aload_n 1) 18 1, ip_n9 18 (.iconst 0) 19 0 0 0 0 (.int 0) [], ip_n9 19 (.iconst 2) 20 0 0 0 0 (.int 2) [], ip_n7 20 (.invokevirtual 92) 23 62 3 1 56, ip_n4 23 (.aload_n 1) 24 1, ip_n9 24 (.iconst 1) 25 0 0 0 0 (.int 1) [], ip_n9 25 (.iconst 1) 26 0 0 0 0 (.int 1) [], ip_n7 26 (.invokevirtual 92) 29 62 3 1 56, ip_n4 29 .lmul 30 0, ip_n4 30 .lsub 31 0, ip_n4 31 (.aload_n 1) 32 1, ip_n9 32 (.iconst 0) 33 0 0 0 0 (.int 0) [], ip_n9 33 (.iconst 2) 34 0 0 0 0 (.int 2) []]
set_option maxRecDepth 100000 in
noncomputable def ip_d53_1 : List (Nat × ip_E) := [ip_n7 34 (.invokevirtual 92) 37 62 3 1 56, ip_n9 37 (.lconst 0) 38 0 0 0 0 (.long 0) [], ip_n9 38 (.lconst 1) 39 0 0 0 0 (.long 1) [], ip_n7 39 (.invokevirtual 72) 42 93 5 1 51, ip_n4 42 (.aload_n 0) 43 0, ip_n7 43 (.getfield 29) 46 2 4 2 25, ip_n7 46 (.invokevirtual 95) 49 101 1 1 57, ip_n4 49 (.ifCond .eq 5) 52 54, ip_n9 52 (.iconst 0) 53 0 0 0 0 (.int 0) [], ip_n7 53 .ireturn 54 0 0 3 0, ip_n4 54 (.aload_n 2) 55 2, ip_n4 55 (.aload_n 1) 56 1, ip_n9 56 (.iconst 0) 57 0 0 0 0 (.int 0) [], ip_n9 57 (.iconst 2) 58 0 0 0 0 (.int 2) [], ip_n7 58 (.invokevirtual 92) 61 62 3 1 56, ip_n4 61 (.aload_n 1) 62 1, ip_n9 62 (.iconst 1) 63 0 0 0 0 (.int 1) [], ip_n9 63 (.iconst 0) 64 0 0 0 0 (.int 0) [], ip_n7 64 (.invokevirtual 92) 67 62 3 1 56, ip_n4 67 .lmul 68 0, ip_n4 68 (.aload_n 1) 69 1, ip_n9 69 (.iconst 0) 70 0 0 0 0 (.int 0) [], ip_n9 70 (.iconst 0) 71 0 0 0 0 (.int 0) [], ip_n7 71 (.invokevirtual 92) 74 62 3 1 56]
set_option maxRecDepth 100000 in
noncomputable def ip_d53_2 : List (Nat × ip_E) := [ip_n4 74 (.aload_n 1) 75 1, ip_n9 75 (.iconst 1) 76 0 0 0 0 (.int 1) [], ip_n9 76 (.iconst 2) 77 0 0 0 0 (.int 2) [], ip_n7 77 (.invokevirtual 92) 80 62 3 1 56, ip_n4 80 .lmul 81 0, ip_n4 81 .lsub 82 0, ip_n4 82 (.aload_n 1) 83 1, ip_n9 83 (.iconst 1) 84 0 0 0 0 (.int 1) [], ip_n9 84 (.iconst 2) 85 0 0 0 0 (.int 2) [], ip_n7 85 (.invokevirtual 92) 88 62 3 1 56, ip_n9 88 (.lconst 0) 89 0 0 0 0 (.long 0) [], ip_n9 89 (.lconst 1) 90 0 0 0 0 (.long 1) [], ip_n7 90 (.invokevirtual 72) 93 93 5 1 51, ip_n4 93 (.aload_n 3) 94 3, ip_n4 94 (.aload_n 1) 95 1, ip_n9 95 (.iconst 0) 96 0 0 0 0 (.int 0) [], ip_n9 96 (.iconst 0) 97 0 0 0 0 (.int 0) [], ip_n7 97 (.invokevirtual 92) 100 62 3 1 56, ip_n4 100 (.aload_n 1) 101 1, ip_n9 101 (.iconst 1) 102 0 0 0 0 (.int 1) [], ip_n9 102 (.iconst 1) 103 0 0 0 0 (.int 1) [], ip_n7 103 (.invokevirtual 92) 106 62 3 1 56, ip_n4 106 .lmul 107 0, ip_n4 107 (.aload_n 1) 108 1]
set_option maxRecDepth 100000 in
noncomputable def ip_d53_3 : List (Nat × ip_E) := [ip_n9 108 (.iconst 0) 109 0 0 0 0 (.int 0) [], ip_n9 109 (.iconst 1) 110 0 0 0 0 (.int 1) [], ip_n7 110 (.invokevirtual 92) 113 62 3 1 56, ip_n4 113 (.aload_n 1) 114 1, ip_n9 114 (.iconst 1) 115 0 0 0 0 (.int 1) [], ip_n9 115 (.iconst 0) 116 0 0 0 0 (.int 0) [], ip_n7 116 (.invokevirtual 92) 119 62 3 1 56, ip_n4 119 .lmul 120 0, ip_n4 120 .lsub 121 0, ip_n4 121 (.aload_n 1) 122 1, ip_n9 122 (.iconst 0) 123 0 0 0 0 (.int 0) [], ip_n9 123 (.iconst 0) 124 0 0 0 0 (.int 0) [], ip_n7 124 (.invokevirtual 92) 127 62 3 1 56, ip_n4 127 .lneg 128 0, ip_n4 128 (.aload_n 1) 129 1, ip_n9 129 (.iconst 1) 130 0 0 0 0 (.int 1) [], ip_n9 130 (.iconst 1) 131 0 0 0 0 (.int 1) [], ip_n7 131 (.invokevirtual 92) 134 62 3 1 56, ip_n4 134 .lsub 135 0, ip_n9 135 (.lconst 1) 136 0 0 0 0 (.long 1) [], ip_n9 136 (.lconst 1) 137 0 0 0 0 (.long 1) [], ip_n7 137 (.invokevirtual 72) 140 93 5 1 51, ip_n4 140 (.aload_n 0) 141 0, ip_n4 141 (.aload_n 2) 142 2]
set_option maxRecDepth 100000 in
noncomputable def ip_d53_4 : List (Nat × ip_E) := [ip_n4 142 (.aload_n 0) 143 0, ip_n7 143 (.getfield 29) 146 2 4 2 25, ip_n4 146 (.aload_n 2) 147 2, ip_n7 147 (.invokevirtual 99) 150 52 4 1 58, ip_n4 150 (.aload_n 0) 151 0, ip_n4 151 (.aload_n 3) 152 3, ip_n4 152 (.aload_n 0) 153 0, ip_n7 153 (.getfield 29) 156 2 4 2 25, ip_n4 156 (.aload_n 3) 157 3, ip_n7 157 (.invokevirtual 99) 160 52 4 1 58, ip_n9 160 (.iconst 1) 161 0 0 0 0 (.int 1) [], ip_n7 161 .ireturn 162 0 0 3 0]
set_option maxRecDepth 100000 in
noncomputable def ip_c53 : List (Nat × ip_E) := ip_d53_0 ++ (ip_d53_1 ++ (ip_d53_2 ++ (ip_d53_3 ++ (ip_d53_4))))
set_option maxRecDepth 100000 in
noncomputable def ip_c54 : List (Nat × ip_E) := [ip_n4 0 (.aload_n 0) 1 0, ip_n7 1 (.invokespecial 3) 4 0 0 6 3, ip_n4 4 (.aload_n 0) 5 0, ip_n9 5 (.bipush 8) 7 0 0 0 0 (.int 8) [], ip_n4 7 (.anewarray 9) 10 5, ip_n7 10 (.putfield 11) 13 3 0 2 30, ip_n4 13 (.aload_n 0) 14 0, ip_n9 14 (.bipush 8) 16 0 0 0 0 (.int 8) [], ip_n4 16 (.newarray .int) 18 0, ip_n7 18 (.putfield 17) 21 3 1 2 31, ip_n4 21 (.aload_n 0) 22 0, ip_n9 22 (.iconst 2) 23 0 0 0 0 (.int 2) [], ip_n4 23 (.anewarray 9) 26 5, ip_n7 26 (.putfield 21) 29 3 2 2 32, ip_n4 29 (.aload_n 0) 30 0, ip_n9 30 (.iconst 2) 31 0 0 0 0 (.int 2) [], ip_n4 31 (.newarray .boolean) 33 3, ip_n7 33 (.putfield 24) 36 3 3 2 33, ip_n4 36 (.aload_n 0) 37 0, ip_n9 37 (.iconst 0) 38 0 0 0 0 (.int 0) [], ip_n7 38 (.putfield 28) 41 3 4 0 34, ip_n4 41 (.aload_n 0) 42 0, ip_n9 42 (.iconst 0) 43 0 0 0 0 (.int 0) [], ip_n7 43 (.putfield 32) 46 3 5 0 35, ip_n9 46 (.iconst 0) 47 0 0 0 0 (.int 0) [], ip_n4 47 (.istore_n 1) 48 1, ip_n4 48 (.iload_n 1) 49 1, ip_n9 49 (.bipush 8) 51 0 0 0 0 (.int 8) [], ip_n4 51 (.if_icmp .ge 22) 54 73, ip_n4 54 (.aload_n 0) 55 0, ip_n7 55 (.getfield 11) 58 3 0 2 30, ip_n4 58 (.iload_n 1) 59 1, ip_n7 59 (.new 9) 62 5 8 0 0, ip_n4 62 .dup 63 0, ip_n7 63 (.invokespecial 35) 66 74 1 5 59, ip_n4 66 .aastore 67 0, ip_n9 67 (.iinc 1 1) 70 1 0 0 0 (.int 1) [], ip_n4 70 (.goto (-22)) 73 48, ip_n9 73 (.iconst 0) 74 0 0 0 0 (.int 0) [], ip_n4 74 (.istore_n 1) 75 1, ip_n4 75 (.iload_n 1) 76 1, ip_n9 76 (.iconst 2) 77 0 0 0 0 (.int 2) [], ip_n4 77 (.if_icmp .ge 22) 80 99, ip_n4 80 (.aload_n 0) 81 0, ip_n7 81 (.getfield 21) 84 3 2 2 32, ip_n4 84 (.iload_n 1) 85 1, ip_n7 85 (.new 9) 88 5 8 0 0, ip_n4 88 .dup 89 0, ip_n7 89 (.invokespecial 35) 92 74 1 5 59, ip_n4 92 .aastore 93 0, ip_n9 93 (.iinc 1 1) 96 1 0 0 0 (.int 1) [], ip_n4 96 (.goto (-21)) 99 75, ip_n4 99 .return_ 100 0]
set_option maxRecDepth 100000 in
noncomputable def ip_d55_0 : List (Nat × ip_E) := [ip_n4 0 (.aload_n 0) 1 0, ip_n7 1 (.getfield 32) 4 3 5 0 35, ip_n9 4 (.bipush 8) 6 0 0 0 0 (.int 8) [], ip_n4 6 (.if_icmp .lt 26) 9 32, ip_n4 9 (.aload_n 0) 10 0, ip_n4 10 (.aload_n 0) 11 0, ip_n7 11 (.getfield 28) 14 3 4 0 34, ip_n9 14 (.iconst 1) 15 0 0 0 0 (.int 1) [], ip_n4 15 .iadd 16 0, ip_n9 16 (.bipush 8) 18 0 0 0 0 (.int 8) [], ip_n4 18 .irem 19 0, ip_n7 19 (.putfield 28) 22 3 4 0 34, ip_n4 22 (.aload_n 0) 23 0, ip_n4 23 .dup 24 0, ip_n7 24 (.getfield 32) 27 3 5 0 35, ip_n9 27 (.iconst 1) 28 0 0 0 0 (.int 1) [], ip_n4 28 .isub 29 0, ip_n7 29 (.putfield 32) 32 3 5 0 35, ip_n4 32 (.aload_n 0) 33 0, ip_n4 33 .dup 34 0, ip_n7 34 (.getfield 32) 37 3 5 0 35, ip_n9 37 (.iconst 1) 38 0 0 0 0 (.int 1) [], ip_n4 38 .iadd 39 0, ip_n7 39 (.putfield 32) 42 3 5 0 35]
set_option maxRecDepth 100000 in
noncomputable def ip_d55_1 : List (Nat × ip_E) := [ip_n4 42 (.aload_n 0) 43 0, ip_n7 43 (.getfield 17) 46 3 1 2 31, ip_n4 46 (.aload_n 0) 47 0, ip_n7 47 (.invokevirtual 36) 50 59 1 1 60, ip_n4 50 (.iload_n 1) 51 1, ip_n4 51 .iastore 52 0, ip_n4 52 (.aload_n 0) 53 0, ip_n7 53 (.getfield 11) 56 3 0 2 30, ip_n4 56 (.aload_n 0) 57 0, ip_n7 57 (.invokevirtual 36) 60 59 1 1 60, ip_n4 60 .aaload 61 0, ip_n4 61 .areturn 62 0]
set_option maxRecDepth 100000 in
noncomputable def ip_c55 : List (Nat × ip_E) := ip_d55_0 ++ (ip_d55_1)
set_option maxRecDepth 100000 in
noncomputable def ip_c56 : List (Nat × ip_E) := [ip_n4 0 (.aload_n 0) 1 0, ip_n7 1 (.getfield 11) 4 3 0 2 30, ip_n4 4 (.aload_n 0) 5 0, ip_n7 5 (.invokevirtual 36) 8 59 1 1 60, ip_n4 8 .aaload 9 0, ip_n4 9 .areturn 10 0]
set_option maxRecDepth 100000 in
noncomputable def ip_c57 : List (Nat × ip_E) := [ip_n4 0 (.aload_n 0) 1 0, ip_n7 1 (.getfield 17) 4 3 1 2 31, ip_n4 4 (.aload_n 0) 5 0, ip_n7 5 (.invokevirtual 36) 8 59 1 1 60, ip_n4 8 .iaload 9 0, ip_n4 9 (.istore_n 1) 10 1, ip_n4 10 (.aload_n 0) 11 0, ip_n7 11 (.getfield 32) 14 3 5 0 35, ip_n4 14 (.ifCond .le 13) 17 27, ip_n4 17 (.aload_n 0) 18 0, ip_n4 18 .dup 19 0, ip_n7 19 (.getfield 32) 22 3 5 0 35, ip_n9 22 (.iconst 1) 23 0 0 0 0 (.int 1) [], ip_n4 23 .isub 24 0, ip_n7 24 (.putfield 32) 27 3 5 0 35, ip_n4 27 (.iload_n 1) 28 1, ip_n4 28 .ireturn 29 0]
set_option maxRecDepth 100000 in
noncomputable def ip_c58 : List (Nat × ip_E) := [ip_n4 0 (.aload_n 0) 1 0, ip_n9 1 (.iconst 0) 2 0 0 0 0 (.int 0) [], ip_n7 2 (.putfield 32) 5 3 5 0 35, ip_n4 5 .return_ 6 0]
set_option maxRecDepth 100000 in
noncomputable def ip_c59 : List (Nat × ip_E) := [ip_n4 0 (.aload_n 0) 1 0, ip_n7 1 (.getfield 28) 4 3 4 0 34, ip_n4 4 (.aload_n 0) 5 0, ip_n7 5 (.getfield 32) 8 3 5 0 35, ip_n4 8 .iadd 9 0, ip_n9 9 (.iconst 1) 10 0 0 0 0 (.int 1) [], ip_n4 10 .isub 11 0, ip_n9 11 (.bipush 8) 13 0 0 0 0 (.int 8) [], ip_n7 13 (.invokestatic 40) 16 291 2 0 61, ip_n4 16 .ireturn 17 0]
set_option maxRecDepth 100000 in
noncomputable def ip_c60 : List (Nat × ip_E) := [ip_n4 0 (.aload_n 0) 1 0, ip_n7 1 (.invokespecial 3) 4 0 0 6 3, ip_n4 4 (.aload_n 0) 5 0, ip_n9 5 (.bipush 9) 7 0 0 0 0 (.int 9) [], ip_n4 7 (.newarray .long) 9 1, ip_n7 9 (.putfield 9) 12 4 0 2 36, ip_n4 12 .return_ 13 0]
set_option maxRecDepth 100000 in
noncomputable def ip_c61 : List (Nat × ip_E) := [ip_n4 0 (.iload_n 0) 1 0, ip_n4 1 (.ifCond .lt 21) 4 22, ip_n4 4 (.iload_n 0) 5 0, ip_n9 5 (.iconst 2) 6 0 0 0 0 (.int 2) [], ip_n4 6 (.if_icmp .gt 16) 9 22, ip_n4 9 (.iload_n 1) 10 1, ip_n4 10 (.ifCond .lt 12) 13 22, ip_n4 13 (.iload_n 1) 14 1, ip_n9 14 (.iconst 2) 15 0 0 0 0 (.int 2) [], ip_n4 15 (.if_icmp .gt 7) 18 22, ip_n9 18 (.iconst 1) 19 0 0 0 0 (.int 1) [], ip_n4 19 (.goto 4) 22 23, ip_n9 22 (.iconst 0) 23 0 0 0 0 (.int 0) [], ip_n7 23 .ireturn 24 0 0 3 0]
set_option maxRecDepth 100000 in
noncomputable def ip_c62 : List (Nat × ip_E) := [ip_n4 0 (.iload_n 1) 1 1, ip_n4 1 (.iload_n 2) 2 2, ip_n7 2 (.invokestatic 15) 5 61 2 0 62, ip_n4 5 (.ifCond .eq 16) 8 21, ip_n4 8 (.aload_n 0) 9 0, ip_n7 9 (.getfield 9) 12 4 0 2 36, ip_n9 12 (.iconst 3) 13 0 0 0 0 (.int 3) [], ip_n4 13 (.iload_n 1) 14 1, ip_n4 14 .imul 15 0, ip_n4 15 (.iload_n 2) 16 2, ip_n4 16 .iadd 17 0, ip_n4 17 .laload 18 0, ip_n4 18 (.goto 4) 21 22, ip_n9 21 (.lconst 0) 22 0 0 0 0 (.long 0) [], ip_n4 22 .lreturn 23 0]
set_option maxRecDepth 100000 in
noncomputable def ip_c63 : List (Nat × ip_E) := [ip_n4 0 (.iload_n 1) 1 1, ip_n9 1 (.iconst 0) 2 0 0 0 0 (.int 0) [], ip_n7 2 (.invokestatic 15) 5 61 2 0 62, ip_n4 5 (.ifCond .ne 4) 8 9, ip_n4 8 .return_ 9 0, ip_n4 9 (.aload_n 0) 10 0, ip_n7 10 (.getfield 9) 13 4 0 2 36, ip_n9 13 (.iconst 3) 14 0 0 0 0 (.int 3) [], ip_n4 14 (.iload_n 1) 15 1, ip_n4 15 .imul 16 0, ip_n4 16 (.lload_n 2) 17 2, ip_n4 17 .lastore 18 0, ip_n4 18 (.aload_n 0) 19 0, ip_n7 19 (.getfield 9) 22 4 0 2 36, ip_n9 22 (.iconst 3) 23 0 0 0 0 (.int 3) [], ip_n4 23 (.iload_n 1) 24 1, ip_n4 24 .imul 25 0, ip_n9 25 (.iconst 1) 26 0 0 0 0 (.int 1) [], ip_n4 26 .iadd 27 0, ip_n4 27 (.lload 4) 29 4, ip_n4 29 .lastore 30 0, ip_n4 30 (.aload_n 0) 31 0, ip_n7 31 (.getfield 9) 34 4 0 2 36, ip_n9 34 (.iconst 3) 35 0 0 0 0 (.int 3) [], ip_n4 35 (.iload_n 1) 36 1, ip_n4 36 .imul 37 0, ip_n9 37 (.iconst 2) 38 0 0 0 0 (.int 2) [], ip_n4 38 .iadd 39 0, ip_n4 39 (.lload 6) 41 6, ip_n4 41 .lastore 42 0, ip_n4 42 .return_ 43 0]
set_option maxRecDepth 100000 in
noncomputable def ip_c64 : List (Nat × ip_E) := [ip_n4 0 (.aload_n 0) 1 0, ip_n9 1 (.iconst 0) 2 0 0 0 0 (.int 0) [], ip_n9 2 (.lconst 1) 3 0 0 0 0 (.long 1) [], ip_n9 3 (.lconst 0) 4 0 0 0 0 (.long 0) [], ip_n9 4 (.lconst 0) 5 0 0 0 0 (.long 0) [], ip_n7 5 (.invokevirtual 19) 8 63 5 1 63, ip_n4 8 (.aload_n 0) 9 0, ip_n9 9 (.iconst 1) 10 0 0 0 0 (.int 1) [], ip_n9 10 (.lconst 0) 11 0 0 0 0 (.long 0) [], ip_n9 11 (.lconst 1) 12 0 0 0 0 (.long 1) [], ip_n9 12 (.lconst 0) 13 0 0 0 0 (.long 0) [], ip_n7 13 (.invokevirtual 19) 16 63 5 1 63, ip_n4 16 (.aload_n 0) 17 0, ip_n9 17 (.iconst 2) 18 0 0 0 0 (.int 2) [], ip_n9 18 (.lconst 0) 19 0 0 0 0 (.long 0) [], ip_n9 19 (.lconst 0) 20 0 0 0 0 (.long 0) [], ip_n9 20 (.lconst 1) 21 0 0 0 0 (.long 1) [], ip_n7 21 (.invokevirtual 19) 24 63 5 1 63, ip_n4 24 .return_ 25 0]
set_option maxRecDepth 100000 in
noncomputable def ip_c65 : List (Nat × ip_E) := [ip_n4 0 (.aload_n 1) 1 1, ip_n7 1 (.getfield 9) 4 4 0 2 36, ip_n9 4 (.iconst 0) 5 0 0 0 0 (.int 0) [], ip_n4 5 (.aload_n 0) 6 0, ip_n7 6 (.getfield 9) 9 4 0 2 36, ip_n9 9 (.iconst 0) 10 0 0 0 0 (.int 0) [], ip_n9 10 (.bipush 9) 12 0 0 0 0 (.int 9) [], ip_n7 12 (.invokestatic 23) 15 0 0 7 0, ip_n4 15 .return_ 16 0]
set_option maxRecDepth 100000 in
noncomputable def ip_d66_0 : List (Nat × ip_E) := [ip_n9 0 (.iconst 0) 1 0 0 0 0 (.int 0) [], ip_n4 1 (.istore 4) 3 4, ip_n4 3 (.iload 4) 5 4, ip_n9 5 (.bipush 9) 7 0 0 0 0 (.int 9) [], ip_n4 7 (.if_icmp .ge 107) 10 114, ip_n4 10 (.aload_n 0) 11 0, ip_n7 11 (.getfield 9) 14 4 0 2 36, ip_n4 14 (.iload 4) 16 4, ip_n4 16 .laload 17 0, ip_n4 17 (.lstore 5) 19 5, ip_n4 19 (.aload_n 0) 20 0, ip_n7 20 (.getfield 9) 23 4 0 2 36, ip_n4 23 (.iload 4) 25 4, ip_n9 25 (.iconst 1) 26 0 0 0 0 (.int 1) [], ip_n4 26 .iadd 27 0, ip_n4 27 .laload 28 0, ip_n4 28 (.lstore 7) 30 7, ip_n4 30 (.aload_n 0) 31 0, ip_n7 31 (.getfield 9) 34 4 0 2 36, ip_n4 34 (.iload 4) 36 4, ip_n9 36 (.iconst 2) 37 0 0 0 0 (.int 2) [], ip_n4 37 .iadd 38 0, ip_n4 38 .laload 39 0, ip_n4 39 (.lstore 9) 41 9]
set_option maxRecDepth 100000 in
noncomputable def ip_d66_1 : List (Nat × ip_E) := [ip_n4 41 (.aload_n 0) 42 0, ip_n7 42 (.getfield 9) 45 4 0 2 36, ip_n4 45 (.iload 4) 47 4, ip_n4 47 (.iload_n 3) 48 3, ip_n4 48 (.ifCond .eq 8) 51 56, ip_n4 51 (.lload 9) 53 9, ip_n4 53 (.goto 5) 56 58, ip_n4 56 (.lload 7) 58 7, ip_n4 58 .lastore 59 0, ip_n4 59 (.aload_n 0) 60 0, ip_n7 60 (.getfield 9) 63 4 0 2 36, ip_n4 63 (.iload 4) 65 4, ip_n9 65 (.iconst 1) 66 0 0 0 0 (.int 1) [], ip_n4 66 .iadd 67 0, ip_n4 67 (.iload_n 3) 68 3, ip_n4 68 (.ifCond .eq 8) 71 76, ip_n4 71 (.lload 7) 73 7, ip_n4 73 (.goto 5) 76 78, ip_n4 76 (.lload 9) 78 9, ip_n4 78 .lastore 79 0, ip_n4 79 (.aload_n 0) 80 0, ip_n7 80 (.getfield 9) 83 4 0 2 36, ip_n4 83 (.iload 4) 85 4, ip_n9 85 (.iconst 2) 86 0 0 0 0 (.int 2) []]
set_option maxRecDepth 100000 in
noncomputable def ip_d66_2 : List (Nat × ip_E) := [ip_n4 86 .iadd 87 0, ip_n4 87 (.lload 5) 89 5, ip_n4 89 (.iload_n 1) 90 1, ip_n4 90 (.lload 7) 92 7, ip_n7 92 (.invokestatic 29) 95 68 2 0 64, ip_n4 95 (.iload_n 2) 96 2, ip_n4 96 (.lload 9) 98 9, ip_n7 98 (.invokestatic 29) 101 68 2 0 64, ip_n7 101 (.invokestatic 33) 104 67 2 0 65, ip_n7 104 (.invokestatic 33) 107 67 2 0 65, ip_n4 107 .lastore 108 0, ip_n9 108 (.iinc 4 3) 111 4 0 0 0 (.int 3) [], ip_n4 111 (.goto (-108)) 114 3, ip_n4 114 .return_ 115 0]
set_option maxRecDepth 100000 in
noncomputable def ip_c66 : List (Nat × ip_E) := ip_d66_0 ++ (ip_d66_1 ++ (ip_d66_2))
set_option maxRecDepth 100000 in
noncomputable def ip_c67 : List (Nat × ip_E) := [ip_n4 0 (.lload_n 0) 1 0, ip_n9 1 (.ldc2_w 37) 4 0 0 0 719 (.long (-1)) [], ip_n4 4 .lcmp 5 0, ip_n4 5 (.ifCond .eq 21) 8 26, ip_n4 8 (.lload_n 2) 9 2, ip_n9 9 (.ldc2_w 37) 12 0 0 0 719 (.long (-1)) [], ip_n4 12 .lcmp 13 0, ip_n4 13 (.ifCond .eq 13) 16 26, ip_n4 16 (.lload_n 0) 17 0, ip_n9 17 (.ldc2_w 39) 20 0 0 0 720 (.long 9223372036854775807) [], ip_n4 20 (.lload_n 2) 21 2, ip_n4 21 .lsub 22 0, ip_n4 22 .lcmp 23 0, ip_n4 23 (.ifCond .le 7) 26 30, ip_n9 26 (.ldc2_w 37) 29 0 0 0 719 (.long (-1)) [], ip_n4 29 .lreturn 30 0, ip_n4 30 (.lload_n 0) 31 0, ip_n4 31 (.lload_n 2) 32 2, ip_n4 32 .ladd 33 0, ip_n4 33 .lreturn 34 0]
set_option maxRecDepth 100000 in
noncomputable def ip_c68 : List (Nat × ip_E) := [ip_n4 0 (.iload_n 0) 1 0, ip_n4 1 (.ifCond .ne 5) 4 6, ip_n9 4 (.lconst 0) 5 0 0 0 0 (.long 0) [], ip_n4 5 .lreturn 6 0, ip_n4 6 (.lload_n 1) 7 1, ip_n9 7 (.ldc2_w 37) 10 0 0 0 719 (.long (-1)) [], ip_n4 10 .lcmp 11 0, ip_n4 11 (.ifCond .eq 14) 14 25, ip_n4 14 (.lload_n 1) 15 1, ip_n9 15 (.ldc2_w 39) 18 0 0 0 720 (.long 9223372036854775807) [], ip_n4 18 (.iload_n 0) 19 0, ip_n4 19 .i2l 20 0, ip_n4 20 .ldiv 21 0, ip_n4 21 .lcmp 22 0, ip_n4 22 (.ifCond .le 7) 25 29, ip_n9 25 (.ldc2_w 37) 28 0 0 0 719 (.long (-1)) [], ip_n4 28 .lreturn 29 0, ip_n4 29 (.iload_n 0) 30 0, ip_n4 30 .i2l 31 0, ip_n4 31 (.lload_n 1) 32 1, ip_n4 32 .lmul 33 0, ip_n4 33 .lreturn 34 0]
set_option maxRecDepth 100000 in
noncomputable def ip_c69 : List (Nat × ip_E) := [ip_n9 0 (.iconst 0) 1 0 0 0 0 (.int 0) [], ip_n4 1 (.istore_n 1) 2 1, ip_n4 2 (.iload_n 1) 3 1, ip_n9 3 (.bipush 9) 5 0 0 0 0 (.int 9) [], ip_n4 5 (.if_icmp .ge 24) 8 29, ip_n4 8 (.aload_n 0) 9 0, ip_n7 9 (.getfield 9) 12 4 0 2 36, ip_n4 12 (.iload_n 1) 13 1, ip_n4 13 .laload 14 0, ip_n9 14 (.ldc2_w 37) 17 0 0 0 719 (.long (-1)) [], ip_n4 17 .lcmp 18 0, ip_n4 18 (.ifCond .ne 5) 21 23, ip_n9 21 (.iconst 1) 22 0 0 0 0 (.int 1) [], ip_n7 22 .ireturn 23 0 0 3 0, ip_n9 23 (.iinc 1 1) 26 1 0 0 0 (.int 1) [], ip_n4 26 (.goto (-24)) 29 2, ip_n9 29 (.iconst 0) 30 0 0 0 0 (.int 0) [], ip_n7 30 .ireturn 31 0 0 3 0]
set_option maxRecDepth 100000 in
noncomputable def ip_c70 : List (Nat × ip_E) := [ip_n9 0 (.iconst 0) 1 0 0 0 0 (.int 0) [], ip_n4 1 (.istore_n 3) 2 3, ip_n4 2 (.iload_n 3) 3 3, ip_n9 3 (.bipush 9) 5 0 0 0 0 (.int 9) [], ip_n4 5 (.if_icmp .ge 22) 8 27, ip_n4 8 (.aload_n 0) 9 0, ip_n7 9 (.getfield 9) 12 4 0 2 36, ip_n4 12 (.iload_n 3) 13 3, ip_n4 13 .laload 14 0, ip_n4 14 (.lload_n 1) 15 1, ip_n4 15 .lcmp 16 0, ip_n4 16 (.ifCond .le 5) 19 21, ip_n9 19 (.iconst 1) 20 0 0 0 0 (.int 1) [], ip_n7 20 .ireturn 21 0 0 3 0, ip_n9 21 (.iinc 3 1) 24 3 0 0 0 (.int 1) [], ip_n4 24 (.goto (-22)) 27 2, ip_n9 27 (.iconst 0) 28 0 0 0 0 (.int 0) [], ip_n7 28 .ireturn 29 0 0 3 0]
set_option maxRecDepth 100000 in
noncomputable def ip_d71_0 : List (Nat × ip_E) := [ip_n4 0 (.iload_n 1) 1 1, ip_n4 1 (.iload_n 2) 2 2, ip_n7 2 (.invokestatic 15) 5 61 2 0 62, ip_n4 5 (.ifCond .ne 5) 8 10, ip_n9 8 (.lconst 0) 9 0 0 0 0 (.long 0) [], ip_n4 9 .lreturn 10 0, ip_n9 10 (.iconst 3) 11 0 0 0 0 (.int 3) [], ip_n4 11 (.iload_n 1) 12 1, ip_n9 12 (.iconst 1) 13 0 0 0 0 (.int 1) [], ip_n4 13 .iadd 14 0, ip_n9 14 (.iconst 3) 15 0 0 0 0 (.int 3) [], ip_n4 15 .irem 16 0, ip_n4 16 .imul 17 0, ip_n4 17 (.istore_n 3) 18 3, ip_n9 18 (.iconst 3) 19 0 0 0 0 (.int 3) [], ip_n4 19 (.iload_n 1) 20 1, ip_n9 20 (.iconst 2) 21 0 0 0 0 (.int 2) [], ip_n4 21 .iadd 22 0, ip_n9 22 (.iconst 3) 23 0 0 0 0 (.int 3) [], ip_n4 23 .irem 24 0, ip_n4 24 .imul 25 0, ip_n4 25 (.istore 4) 27 4, ip_n4 27 (.iload_n 2) 28 2, ip_n9 28 (.iconst 1) 29 0 0 0 0 (.int 1) []]
set_option maxRecDepth 100000 in
noncomputable def ip_d71_1 : List (Nat × ip_E) := [ip_n4 29 .iadd 30 0, ip_n9 30 (.iconst 3) 31 0 0 0 0 (.int 3) [], ip_n4 31 .irem 32 0, ip_n4 32 (.istore 5) 34 5, ip_n4 34 (.iload_n 2) 35 2, ip_n9 35 (.iconst 2) 36 0 0 0 0 (.int 2) [], ip_n4 36 .iadd 37 0, ip_n9 37 (.iconst 3) 38 0 0 0 0 (.int 3) [], ip_n4 38 .irem 39 0, ip_n4 39 (.istore 6) 41 6, ip_n4 41 (.aload_n 0) 42 0, ip_n7 42 (.getfield 9) 45 4 0 2 36, ip_n4 45 (.iload_n 3) 46 3, ip_n4 46 (.iload 5) 48 5, ip_n4 48 .iadd 49 0, ip_n4 49 .laload 50 0, ip_n4 50 (.aload_n 0) 51 0, ip_n7 51 (.getfield 9) 54 4 0 2 36, ip_n4 54 (.iload 4) 56 4, ip_n4 56 (.iload 6) 58 6, ip_n4 58 .iadd 59 0, ip_n4 59 .laload 60 0, ip_n4 60 .lmul 61 0, ip_n4 61 (.aload_n 0) 62 0]
set_option maxRecDepth 100000 in
noncomputable def ip_d71_2 : List (Nat × ip_E) := [ip_n7 62 (.getfield 9) 65 4 0 2 36, ip_n4 65 (.iload_n 3) 66 3, ip_n4 66 (.iload 6) 68 6, ip_n4 68 .iadd 69 0, ip_n4 69 .laload 70 0, ip_n4 70 (.aload_n 0) 71 0, ip_n7 71 (.getfield 9) 74 4 0 2 36, ip_n4 74 (.iload 4) 76 4, ip_n4 76 (.iload 5) 78 5, ip_n4 78 .iadd 79 0, ip_n4 79 .laload 80 0, ip_n4 80 .lmul 81 0, ip_n4 81 .lsub 82 0, ip_n4 82 .lreturn 83 0]
set_option maxRecDepth 100000 in
noncomputable def ip_c71 : List (Nat × ip_E) := ip_d71_0 ++ (ip_d71_1 ++ (ip_d71_2))
set_option maxRecDepth 100000 in
noncomputable def ip_d72_0 : List (Nat × ip_E) := [ip_n4 0 (.iload_n 1) 1 1, ip_n4 1 (.ifCond .ne 25) 4 26, ip_n4 4 (.aload_n 0) 5 0, ip_n7 5 (.getfield 9) 8 4 0 2 36, ip_n9 8 (.iconst 0) 9 0 0 0 0 (.int 0) [], ip_n4 9 .laload 10 0, ip_n4 10 (.aload_n 0) 11 0, ip_n7 11 (.getfield 9) 14 4 0 2 36, ip_n9 14 (.iconst 4) 15 0 0 0 0 (.int 4) [], ip_n4 15 .laload 16 0, ip_n4 16 .ladd 17 0, ip_n4 17 (.aload_n 0) 18 0, ip_n7 18 (.getfield 9) 21 4 0 2 36, ip_n9 21 (.bipush 8) 23 0 0 0 0 (.int 8) [], ip_n4 23 .laload 24 0, ip_n4 24 .ladd 25 0, ip_n4 25 .lreturn 26 0, ip_n4 26 (.iload_n 1) 27 1, ip_n9 27 (.iconst 1) 28 0 0 0 0 (.int 1) [], ip_n4 28 (.if_icmp .ne 24) 31 52, ip_n4 31 (.aload_n 0) 32 0, ip_n9 32 (.iconst 0) 33 0 0 0 0 (.int 0) [], ip_n9 33 (.iconst 0) 34 0 0 0 0 (.int 0) [], ip_n7 34 (.invokevirtual 41) 37 71 3 1 66]
set_option maxRecDepth 100000 in
noncomputable def ip_d72_1 : List (Nat × ip_E) := [ip_n4 37 (.aload_n 0) 38 0, ip_n9 38 (.iconst 1) 39 0 0 0 0 (.int 1) [], ip_n9 39 (.iconst 1) 40 0 0 0 0 (.int 1) [], ip_n7 40 (.invokevirtual 41) 43 71 3 1 66, ip_n4 43 .ladd 44 0, ip_n4 44 (.aload_n 0) 45 0, ip_n9 45 (.iconst 2) 46 0 0 0 0 (.int 2) [], ip_n9 46 (.iconst 2) 47 0 0 0 0 (.int 2) [], ip_n7 47 (.invokevirtual 41) 50 71 3 1 66, ip_n4 50 .ladd 51 0, ip_n4 51 .lreturn 52 0, ip_n4 52 (.aload_n 0) 53 0, ip_n7 53 (.getfield 9) 56 4 0 2 36, ip_n9 56 (.iconst 0) 57 0 0 0 0 (.int 0) [], ip_n4 57 .laload 58 0, ip_n4 58 (.aload_n 0) 59 0, ip_n9 59 (.iconst 0) 60 0 0 0 0 (.int 0) [], ip_n9 60 (.iconst 0) 61 0 0 0 0 (.int 0) [], ip_n7 61 (.invokevirtual 41) 64 71 3 1 66, ip_n4 64 .lmul 65 0, ip_n4 65 (.aload_n 0) 66 0, ip_n7 66 (.getfield 9) 69 4 0 2 36, ip_n9 69 (.iconst 1) 70 0 0 0 0 (.int 1) [], ip_n4 70 .laload 71 0]
set_option maxRecDepth 100000 in
noncomputable def ip_d72_2 : List (Nat × ip_E) := [ip_n4 71 (.aload_n 0) 72 0, ip_n9 72 (.iconst 0) 73 0 0 0 0 (.int 0) [], ip_n9 73 (.iconst 1) 74 0 0 0 0 (.int 1) [], ip_n7 74 (.invokevirtual 41) 77 71 3 1 66, ip_n4 77 .lmul 78 0, ip_n4 78 .ladd 79 0, ip_n4 79 (.aload_n 0) 80 0, ip_n7 80 (.getfield 9) 83 4 0 2 36, ip_n9 83 (.iconst 2) 84 0 0 0 0 (.int 2) [], ip_n4 84 .laload 85 0, ip_n4 85 (.aload_n 0) 86 0, ip_n9 86 (.iconst 0) 87 0 0 0 0 (.int 0) [], ip_n9 87 (.iconst 2) 88 0 0 0 0 (.int 2) [], ip_n7 88 (.invokevirtual 41) 91 71 3 1 66, ip_n4 91 .lmul 92 0, ip_n4 92 .ladd 93 0, ip_n4 93 .lreturn 94 0]
set_option maxRecDepth 100000 in
noncomputable def ip_c72 : List (Nat × ip_E) := ip_d72_0 ++ (ip_d72_1 ++ (ip_d72_2))
set_option maxRecDepth 100000 in
noncomputable def ip_c73 : List (Nat × ip_E) := [ip_n4 0 (.aload_n 1) 1 1, ip_n7 1 (.getfield 45) 4 8 0 1 37, ip_n4 4 (.aload_n 0) 5 0, ip_n9 5 (.iconst 0) 6 0 0 0 0 (.int 0) [], ip_n4 6 (.iload_n 2) 7 2, ip_n7 7 (.invokevirtual 51) 10 62 3 1 67, ip_n4 10 .lmul 11 0, ip_n4 11 (.aload_n 1) 12 1, ip_n7 12 (.getfield 54) 15 8 1 1 38, ip_n4 15 (.aload_n 0) 16 0, ip_n9 16 (.iconst 1) 17 0 0 0 0 (.int 1) [], ip_n4 17 (.iload_n 2) 18 2, ip_n7 18 (.invokevirtual 51) 21 62 3 1 67, ip_n4 21 .lmul 22 0, ip_n4 22 .ladd 23 0, ip_n4 23 (.aload_n 1) 24 1, ip_n7 24 (.getfield 57) 27 8 2 1 39, ip_n4 27 (.aload_n 0) 28 0, ip_n9 28 (.iconst 2) 29 0 0 0 0 (.int 2) [], ip_n4 29 (.iload_n 2) 30 2, ip_n7 30 (.invokevirtual 51) 33 62 3 1 67, ip_n4 33 .lmul 34 0, ip_n4 34 .ladd 35 0, ip_n4 35 .lreturn 36 0]
set_option maxRecDepth 100000 in
noncomputable def ip_c74 : List (Nat × ip_E) := [ip_n4 0 (.aload_n 0) 1 0, ip_n7 1 (.invokespecial 3) 4 0 0 6 3, ip_n4 4 (.aload_n 0) 5 0, ip_n9 5 (.iconst 0) 6 0 0 0 0 (.int 0) [], ip_n7 6 (.putfield 9) 9 5 0 0 40, ip_n4 9 (.aload_n 0) 10 0, ip_n9 10 (.iconst 0) 11 0 0 0 0 (.int 0) [], ip_n7 11 (.putfield 15) 14 5 1 0 41, ip_n4 14 (.aload_n 0) 15 0, ip_n9 15 (.iconst 0) 16 0 0 0 0 (.int 0) [], ip_n7 16 (.putfield 18) 19 5 2 0 42, ip_n4 19 (.aload_n 0) 20 0, ip_n9 20 (.bipush 24) 22 0 0 0 0 (.int 24) [], ip_n4 22 (.newarray .int) 24 0, ip_n7 24 (.putfield 21) 27 5 3 2 43, ip_n4 27 (.aload_n 0) 28 0, ip_n7 28 (.new 25) 31 9 2 0 0, ip_n4 31 .dup 32 0, ip_n7 32 (.invokespecial 27) 35 103 1 5 68, ip_n7 35 (.putfield 28) 38 5 4 2 44, ip_n4 38 (.aload_n 0) 39 0, ip_n9 39 (.bipush 8) 41 0 0 0 0 (.int 8) [], ip_n4 41 (.newarray .int) 43 0, ip_n7 43 (.putfield 32) 46 5 5 2 45, ip_n4 46 (.aload_n 0) 47 0, ip_n9 47 (.iconst (-1)) 48 0 0 0 0 (.int (-1)) [], ip_n7 48 (.putfield 35) 51 5 6 0 46, ip_n4 51 (.aload_n 0) 52 0, ip_n9 52 (.iconst 0) 53 0 0 0 0 (.int 0) [], ip_n7 53 (.putfield 38) 56 5 7 0 47, ip_n4 56 .return_ 57 0]
set_option maxRecDepth 100000 in
noncomputable def ip_d75_0 : List (Nat × ip_E) := [ip_n4 0 (.aload_n 0) 1 0, ip_n4 1 (.aload_n 1) 2 1, ip_n7 2 (.getfield 41) 5 2 0 0 48, ip_n7 5 (.putfield 9) 8 5 0 0 40, ip_n4 8 (.aload_n 0) 9 0, ip_n4 9 (.aload_n 1) 10 1, ip_n7 10 (.getfield 44) 13 2 1 0 49, ip_n7 13 (.putfield 15) 16 5 1 0 41, ip_n4 16 (.aload_n 0) 17 0, ip_n4 17 (.aload_n 1) 18 1, ip_n7 18 (.getfield 45) 21 2 2 0 50, ip_n7 21 (.putfield 18) 24 5 2 0 42, ip_n9 24 (.iconst 0) 25 0 0 0 0 (.int 0) [], ip_n4 25 (.istore 5) 27 5, ip_n4 27 (.iload 5) 29 5, ip_n4 29 (.aload_n 2) 30 2, ip_n4 30 .arraylength 31 0, ip_n4 31 (.if_icmp .ge 24) 34 55, ip_n4 34 (.aload_n 2) 35 2, ip_n4 35 (.iload 5) 37 5, ip_n4 37 .aaload 38 0, ip_n4 38 (.aload_n 0) 39 0, ip_n7 39 (.getfield 21) 42 5 3 2 43, ip_n9 42 (.iconst 4) 43 0 0 0 0 (.int 4) []]
set_option maxRecDepth 100000 in
noncomputable def ip_d75_1 : List (Nat × ip_E) := [ip_n4 43 (.iload 5) 45 5, ip_n4 45 .imul 46 0, ip_n7 46 (.invokevirtual 46) 49 97 3 1 69, ip_n9 49 (.iinc 5 1) 52 5 0 0 0 (.int 1) [], ip_n4 52 (.goto (-25)) 55 27, ip_n4 55 (.aload_n 0) 56 0, ip_n7 56 (.getfield 28) 59 5 4 2 44, ip_n4 59 (.aload_n 3) 60 3, ip_n7 60 (.invokevirtual 52) 63 105 2 1 70, ip_n4 63 (.aload_n 0) 64 0, ip_n4 64 (.aload 4) 66 4, ip_n7 66 (.getfield 56) 69 1 3 0 51, ip_n7 69 (.putfield 35) 72 5 6 0 46, ip_n4 72 (.aload_n 0) 73 0, ip_n4 73 (.aload 4) 75 4, ip_n7 75 (.getfield 59) 78 1 4 0 52, ip_n7 78 (.putfield 38) 81 5 7 0 47, ip_n4 81 (.aload 4) 83 4, ip_n7 83 (.getfield 60) 86 1 0 2 53, ip_n9 86 (.iconst 0) 87 0 0 0 0 (.int 0) [], ip_n4 87 (.aload_n 0) 88 0, ip_n7 88 (.getfield 32) 91 5 5 2 45, ip_n9 91 (.iconst 0) 92 0 0 0 0 (.int 0) [], ip_n9 92 (.iconst 4) 93 0 0 0 0 (.int 4) []]
set_option maxRecDepth 100000 in
noncomputable def ip_d75_2 : List (Nat × ip_E) := [ip_n7 93 (.invokestatic 63) 96 0 0 7 0, ip_n4 96 (.aload 4) 98 4, ip_n7 98 (.getfield 60) 101 1 0 2 53, ip_n9 101 (.iconst 5) 102 0 0 0 0 (.int 5) [], ip_n4 102 (.aload_n 0) 103 0, ip_n7 103 (.getfield 32) 106 5 5 2 45, ip_n9 106 (.iconst 4) 107 0 0 0 0 (.int 4) [], ip_n9 107 (.iconst 4) 108 0 0 0 0 (.int 4) [], ip_n7 108 (.invokestatic 63) 111 0 0 7 0, ip_n4 111 .return_ 112 0]
set_option maxRecDepth 100000 in
noncomputable def ip_c75 : List (Nat × ip_E) := ip_d75_0 ++ (ip_d75_1 ++ (ip_d75_2))
set_option maxRecDepth 100000 in
noncomputable def ip_d76_0 : List (Nat × ip_E) := [ip_n4 0 (.aload_n 1) 1 1, ip_n4 1 (.aload_n 0) 2 0, ip_n7 2 (.getfield 9) 5 5 0 0 40, ip_n4 5 (.aload_n 0) 6 0, ip_n7 6 (.getfield 15) 9 5 1 0 41, ip_n4 9 (.aload_n 0) 10 0, ip_n7 10 (.getfield 18) 13 5 2 0 42, ip_n7 13 (.invokevirtual 69) 16 42 4 1 71, ip_n9 16 (.iconst 0) 17 0 0 0 0 (.int 0) [], ip_n4 17 (.istore 5) 19 5, ip_n4 19 (.iload 5) 21 5, ip_n4 21 (.aload_n 2) 22 2, ip_n4 22 .arraylength 23 0, ip_n4 23 (.if_icmp .ge 24) 26 47, ip_n4 26 (.aload_n 2) 27 2, ip_n4 27 (.iload 5) 29 5, ip_n4 29 .aaload 30 0, ip_n4 30 (.aload_n 0) 31 0, ip_n7 31 (.getfield 21) 34 5 3 2 43, ip_n9 34 (.iconst 4) 35 0 0 0 0 (.int 4) [], ip_n4 35 (.iload 5) 37 5, ip_n4 37 .imul 38 0, ip_n7 38 (.invokevirtual 73) 41 96 3 1 72, ip_n9 41 (.iinc 5 1) 44 5 0 0 0 (.int 1) []]
set_option maxRecDepth 100000 in
noncomputable def ip_d76_1 : List (Nat × ip_E) := [ip_n4 44 (.goto (-25)) 47 19, ip_n4 47 (.aload_n 3) 48 3, ip_n4 48 (.aload_n 0) 49 0, ip_n7 49 (.getfield 28) 52 5 4 2 44, ip_n7 52 (.invokevirtual 52) 55 105 2 1 70, ip_n4 55 (.aload 4) 57 4, ip_n7 57 (.invokevirtual 76) 60 21 1 1 73, ip_n4 60 (.aload_n 0) 61 0, ip_n7 61 (.getfield 35) 64 5 6 0 46, ip_n9 64 (.iconst (-1)) 65 0 0 0 0 (.int (-1)) [], ip_n4 65 (.if_icmp .eq 21) 68 86, ip_n4 68 (.aload 4) 70 4, ip_n4 70 (.aload_n 1) 71 1, ip_n4 71 (.aload_n 0) 72 0, ip_n7 72 (.getfield 32) 75 5 5 2 45, ip_n4 75 (.aload_n 0) 76 0, ip_n7 76 (.getfield 35) 79 5 6 0 46, ip_n4 79 (.aload_n 0) 80 0, ip_n7 80 (.getfield 38) 83 5 7 0 47, ip_n7 83 (.invokevirtual 79) 86 22 5 1 74, ip_n4 86 .return_ 87 0]
set_option maxRecDepth 100000 in
noncomputable def ip_c76 : List (Nat × ip_E) := ip_d76_0 ++ (ip_d76_1)
set_option maxRecDepth 100000 in
noncomputable def ip_c77 : List (Nat × ip_E) := [ip_n4 0 (.aload_n 0) 1 0, ip_n7 1 (.invokespecial 3) 4 0 0 6 3, ip_n4 4 (.aload_n 0) 5 0, ip_n9 5 (.sipush 200) 8 0 0 0 0 (.int 200) [], ip_n4 8 (.newarray .byte) 10 2, ip_n7 10 (.putfield 9) 13 6 0 2 54, ip_n4 13 (.aload_n 0) 14 0, ip_n7 14 (.new 15) 17 9 2 0 0, ip_n4 17 .dup 18 0, ip_n7 18 (.invokespecial 17) 21 103 1 5 75, ip_n7 21 (.putfield 18) 24 6 1 2 55, ip_n4 24 (.aload_n 0) 25 0, ip_n9 25 (.iconst 0) 26 0 0 0 0 (.int 0) [], ip_n7 26 (.putfield 22) 29 6 2 0 56, ip_n4 29 (.aload_n 0) 30 0, ip_n9 30 (.iconst 0) 31 0 0 0 0 (.int 0) [], ip_n7 31 (.putfield 26) 34 6 3 0 57, ip_n4 34 (.aload_n 0) 35 0, ip_n9 35 (.iconst (-1)) 36 0 0 0 0 (.int (-1)) [], ip_n7 36 (.putfield 29) 39 6 4 0 58, ip_n4 39 .return_ 40 0]
set_option maxRecDepth 100000 in
noncomputable def ip_c78 : List (Nat × ip_E) := [ip_n4 0 (.aload_n 0) 1 0, ip_n7 1 (.getfield 22) 4 6 2 0 56, ip_n4 4 (.iload_n 1) 5 1, ip_n4 5 .iadd 6 0, ip_n9 6 (.sipush 200) 9 0 0 0 0 (.int 200) [], ip_n4 9 (.if_icmp .gt 7) 12 16, ip_n9 12 (.iconst 1) 13 0 0 0 0 (.int 1) [], ip_n4 13 (.goto 4) 16 17, ip_n9 16 (.iconst 0) 17 0 0 0 0 (.int 0) [], ip_n7 17 .ireturn 18 0 0 3 0]
set_option maxRecDepth 100000 in
noncomputable def ip_c79 : List (Nat × ip_E) := [ip_n4 0 (.aload_n 0) 1 0, ip_n9 1 (.iconst 4) 2 0 0 0 0 (.int 4) [], ip_n7 2 (.invokevirtual 32) 5 78 2 1 76, ip_n4 5 (.ifCond .ne 4) 8 9, ip_n4 8 .return_ 9 0, ip_n9 9 (.bipush 24) 11 0 0 0 0 (.int 24) [], ip_n4 11 (.istore_n 2) 12 2, ip_n4 12 (.iload_n 2) 13 2, ip_n4 13 (.ifCond .lt 32) 16 45, ip_n4 16 (.aload_n 0) 17 0, ip_n7 17 (.getfield 9) 20 6 0 2 54, ip_n4 20 (.aload_n 0) 21 0, ip_n7 21 (.getfield 22) 24 6 2 0 56, ip_n4 24 (.iload_n 1) 25 1, ip_n4 25 (.iload_n 2) 26 2, ip_n4 26 .ishr 27 0, ip_n4 27 .i2b 28 0, ip_n4 28 .bastore 29 0, ip_n4 29 (.aload_n 0) 30 0, ip_n4 30 .dup 31 0, ip_n7 31 (.getfield 22) 34 6 2 0 56, ip_n9 34 (.iconst 1) 35 0 0 0 0 (.int 1) [], ip_n4 35 .iadd 36 0, ip_n7 36 (.putfield 22) 39 6 2 0 56, ip_n9 39 (.iinc 2 (-8)) 42 2 0 0 0 (.int (-8)) [], ip_n4 42 (.goto (-30)) 45 12, ip_n4 45 .return_ 46 0]
set_option maxRecDepth 100000 in
noncomputable def ip_c80 : List (Nat × ip_E) := [ip_n4 0 (.iload_n 1) 1 1, ip_n4 1 (.ifCond .lt 11) 4 12, ip_n4 4 (.iload_n 1) 5 1, ip_n4 5 (.aload_n 0) 6 0, ip_n7 6 (.getfield 22) 9 6 2 0 56, ip_n4 9 (.if_icmp .le 5) 12 14, ip_n9 12 (.iconst 0) 13 0 0 0 0 (.int 0) [], ip_n7 13 .ireturn 14 0 0 3 0, ip_n4 14 (.aload_n 0) 15 0, ip_n4 15 (.iload_n 1) 16 1, ip_n7 16 (.putfield 22) 19 6 2 0 56, ip_n9 19 (.iconst 1) 20 0 0 0 0 (.int 1) [], ip_n7 20 .ireturn 21 0 0 3 0]
set_option maxRecDepth 100000 in
noncomputable def ip_c81 : List (Nat × ip_E) := [ip_n4 0 (.aload_n 0) 1 0, ip_n9 1 (.iconst 0) 2 0 0 0 0 (.int 0) [], ip_n7 2 (.putfield 26) 5 6 3 0 57, ip_n4 5 (.aload_n 0) 6 0, ip_n7 6 (.getfield 18) 9 6 1 2 55, ip_n9 9 (.iconst 0) 10 0 0 0 0 (.int 0) [], ip_n7 10 (.putfield 36) 13 9 1 0 59, ip_n4 13 (.aload_n 0) 14 0, ip_n7 14 (.invokevirtual 37) 17 82 1 1 77, ip_n4 17 (.istore_n 1) 18 1, ip_n4 18 (.aload_n 0) 19 0, ip_n4 19 (.iload_n 1) 20 1, ip_n4 20 (.ifCond .eq 7) 23 27, ip_n9 23 (.iconst (-1)) 24 0 0 0 0 (.int (-1)) [], ip_n4 24 (.goto 7) 27 31, ip_n4 27 (.aload_n 0) 28 0, ip_n7 28 (.getfield 26) 31 6 3 0 57, ip_n7 31 (.putfield 29) 34 6 4 0 58, ip_n4 34 (.iload_n 1) 35 1, ip_n7 35 .ireturn 36 0 0 3 0]
set_option maxRecDepth 100000 in
noncomputable def ip_d82_0 : List (Nat × ip_E) := [ip_n9 0 (.iconst 0) 1 0 0 0 0 (.int 0) [], ip_n4 1 (.istore_n 1) 2 1, ip_n4 2 (.iload_n 1) 3 1, ip_n9 3 (.bipush 40) 5 0 0 0 0 (.int 40) [], ip_n4 5 (.if_icmp .ge 86) 8 91, ip_n4 8 (.aload_n 0) 9 0, ip_n7 9 (.invokevirtual 41) 12 83 1 1 78, ip_n4 12 (.istore_n 2) 13 2, ip_n4 13 (.iload_n 2) 14 2, ip_n9 14 (.iconst (-1)) 15 0 0 0 0 (.int (-1)) [], ip_n4 15 (.if_icmp .ne 7) 18 22, ip_n9 18 (.iconst (-1)) 19 0 0 0 0 (.int (-1)) [], ip_n4 19 (.goto 7) 22 26, ip_n4 22 (.aload_n 0) 23 0, ip_n7 23 (.invokevirtual 41) 26 83 1 1 78, ip_n4 26 (.istore_n 3) 27 3, ip_n4 27 (.iload_n 3) 28 3, ip_n9 28 (.iconst (-1)) 29 0 0 0 0 (.int (-1)) [], ip_n4 29 (.if_icmp .ne 5) 32 34, ip_n9 32 (.iconst 0) 33 0 0 0 0 (.int 0) [], ip_n7 33 .ireturn 34 0 0 3 0, ip_n4 34 (.aload_n 0) 35 0, ip_n7 35 (.getfield 18) 38 6 1 2 55, ip_n4 38 (.iload_n 2) 39 2]
set_option maxRecDepth 100000 in
noncomputable def ip_d82_1 : List (Nat × ip_E) := [ip_n4 39 (.iload_n 3) 40 3, ip_n4 40 (.aload_n 0) 41 0, ip_n9 41 (.bipush 116) 43 0 0 0 0 (.int 116) [], ip_n7 43 (.invokevirtual 45) 46 84 2 1 79, ip_n4 46 (.ifCond .eq 7) 49 53, ip_n9 49 (.iconst 1) 50 0 0 0 0 (.int 1) [], ip_n4 50 (.goto 4) 53 54, ip_n9 53 (.iconst 0) 54 0 0 0 0 (.int 0) [], ip_n7 54 (.invokevirtual 49) 57 104 4 1 80, ip_n4 57 (.aload_n 0) 58 0, ip_n7 58 (.invokevirtual 53) 61 85 1 1 81, ip_n4 61 (.aload_n 0) 62 0, ip_n7 62 (.getfield 26) 65 6 3 0 57, ip_n4 65 (.aload_n 0) 66 0, ip_n7 66 (.getfield 22) 69 6 2 0 56, ip_n4 69 (.if_icmp .lt 5) 72 74, ip_n9 72 (.iconst 1) 73 0 0 0 0 (.int 1) [], ip_n7 73 .ireturn 74 0 0 3 0, ip_n4 74 (.aload_n 0) 75 0, ip_n9 75 (.bipush 59) 77 0 0 0 0 (.int 59) [], ip_n7 77 (.invokevirtual 45) 80 84 2 1 79, ip_n4 80 (.ifCond .ne 5) 83 85, ip_n9 83 (.iconst 0) 84 0 0 0 0 (.int 0) [], ip_n7 84 .ireturn 85 0 0 3 0]
set_option maxRecDepth 100000 in
noncomputable def ip_d82_2 : List (Nat × ip_E) := [ip_n9 85 (.iinc 1 1) 88 1 0 0 0 (.int 1) [], ip_n4 88 (.goto (-86)) 91 2, ip_n4 91 (.aload_n 0) 92 0, ip_n7 92 (.invokevirtual 53) 95 85 1 1 81, ip_n9 95 (.iconst 0) 96 0 0 0 0 (.int 0) [], ip_n7 96 .ireturn 97 0 0 3 0]
set_option maxRecDepth 100000 in
noncomputable def ip_c82 : List (Nat × ip_E) := ip_d82_0 ++ (ip_d82_1 ++ (ip_d82_2))
set_option maxRecDepth 100000 in
noncomputable def ip_d83_0 : List (Nat × ip_E) := [ip_n4 0 (.aload_n 0) 1 0, ip_n7 1 (.invokevirtual 53) 4 85 1 1 81, ip_n4 4 (.aload_n 0) 5 0, ip_n7 5 (.getfield 26) 8 6 3 0 57, ip_n4 8 (.istore_n 1) 9 1, ip_n9 9 (.iconst 0) 10 0 0 0 0 (.int 0) [], ip_n4 10 (.istore_n 2) 11 2, ip_n9 11 (.iconst 0) 12 0 0 0 0 (.int 0) [], ip_n4 12 (.istore_n 3) 13 3, ip_n4 13 (.iload_n 3) 14 3, ip_n9 14 (.sipush 200) 17 0 0 0 0 (.int 200) [], ip_n4 17 (.if_icmp .ge 44) 20 61, ip_n4 20 (.aload_n 0) 21 0, ip_n7 21 (.invokevirtual 56) 24 86 1 1 82, ip_n4 24 (.ifCond .eq 37) 27 61, ip_n9 27 (.bipush 10) 29 0 0 0 0 (.int 10) [], ip_n4 29 (.iload_n 2) 30 2, ip_n4 30 .imul 31 0, ip_n4 31 (.aload_n 0) 32 0, ip_n7 32 (.invokevirtual 59) 35 87 1 1 83, ip_n4 35 .iadd 36 0, ip_n9 36 (.bipush 48) 38 0 0 0 0 (.int 48) [], ip_n4 38 .isub 39 0, ip_n9 39 (.bipush 100) 41 0 0 0 0 (.int 100) []]
set_option maxRecDepth 100000 in
noncomputable def ip_d83_1 : List (Nat × ip_E) := [ip_n7 41 (.invokestatic 62) 44 294 2 0 84, ip_n4 44 (.istore_n 2) 45 2, ip_n4 45 (.aload_n 0) 46 0, ip_n4 46 .dup 47 0, ip_n7 47 (.getfield 26) 50 6 3 0 57, ip_n9 50 (.iconst 1) 51 0 0 0 0 (.int 1) [], ip_n4 51 .iadd 52 0, ip_n7 52 (.putfield 26) 55 6 3 0 57, ip_n9 55 (.iinc 3 1) 58 3 0 0 0 (.int 1) [], ip_n4 58 (.goto (-45)) 61 13, ip_n4 61 (.iload_n 1) 62 1, ip_n4 62 (.aload_n 0) 63 0, ip_n7 63 (.getfield 26) 66 6 3 0 57, ip_n4 66 (.if_icmp .ge 11) 69 77, ip_n4 69 (.iload_n 2) 70 2, ip_n9 70 (.bipush 99) 72 0 0 0 0 (.int 99) [], ip_n4 72 (.if_icmp .gt 5) 75 77, ip_n4 75 (.iload_n 2) 76 2, ip_n4 76 .ireturn 77 0, ip_n4 77 (.aload_n 0) 78 0, ip_n4 78 (.iload_n 1) 79 1, ip_n7 79 (.putfield 26) 82 6 3 0 57, ip_n9 82 (.iconst (-1)) 83 0 0 0 0 (.int (-1)) [], ip_n4 83 .ireturn 84 0]
set_option maxRecDepth 100000 in
noncomputable def ip_c83 : List (Nat × ip_E) := ip_d83_0 ++ (ip_d83_1)
set_option maxRecDepth 100000 in
noncomputable def ip_c84 : List (Nat × ip_E) := [ip_n4 0 (.aload_n 0) 1 0, ip_n7 1 (.invokevirtual 53) 4 85 1 1 81, ip_n4 4 (.aload_n 0) 5 0, ip_n7 5 (.invokevirtual 59) 8 87 1 1 83, ip_n4 8 (.iload_n 1) 9 1, ip_n4 9 (.if_icmp .eq 5) 12 14, ip_n9 12 (.iconst 0) 13 0 0 0 0 (.int 0) [], ip_n7 13 .ireturn 14 0 0 3 0, ip_n4 14 (.aload_n 0) 15 0, ip_n4 15 .dup 16 0, ip_n7 16 (.getfield 26) 19 6 3 0 57, ip_n9 19 (.iconst 1) 20 0 0 0 0 (.int 1) [], ip_n4 20 .iadd 21 0, ip_n7 21 (.putfield 26) 24 6 3 0 57, ip_n9 24 (.iconst 1) 25 0 0 0 0 (.int 1) [], ip_n7 25 .ireturn 26 0 0 3 0]
set_option maxRecDepth 100000 in
noncomputable def ip_c85 : List (Nat × ip_E) := [ip_n9 0 (.iconst 0) 1 0 0 0 0 (.int 0) [], ip_n4 1 (.istore_n 1) 2 1, ip_n4 2 (.iload_n 1) 3 1, ip_n9 3 (.sipush 200) 6 0 0 0 0 (.int 200) [], ip_n4 6 (.if_icmp .ge 28) 9 34, ip_n4 9 (.aload_n 0) 10 0, ip_n7 10 (.invokevirtual 59) 13 87 1 1 83, ip_n9 13 (.bipush 32) 15 0 0 0 0 (.int 32) [], ip_n4 15 (.if_icmp .ne 19) 18 34, ip_n4 18 (.aload_n 0) 19 0, ip_n4 19 .dup 20 0, ip_n7 20 (.getfield 26) 23 6 3 0 57, ip_n9 23 (.iconst 1) 24 0 0 0 0 (.int 1) [], ip_n4 24 .iadd 25 0, ip_n7 25 (.putfield 26) 28 6 3 0 57, ip_n9 28 (.iinc 1 1) 31 1 0 0 0 (.int 1) [], ip_n4 31 (.goto (-29)) 34 2, ip_n4 34 .return_ 35 0]
set_option maxRecDepth 100000 in
noncomputable def ip_c86 : List (Nat × ip_E) := [ip_n4 0 (.aload_n 0) 1 0, ip_n7 1 (.invokevirtual 59) 4 87 1 1 83, ip_n9 4 (.bipush 48) 6 0 0 0 0 (.int 48) [], ip_n4 6 (.if_icmp .lt 16) 9 22, ip_n4 9 (.aload_n 0) 10 0, ip_n7 10 (.invokevirtual 59) 13 87 1 1 83, ip_n9 13 (.bipush 57) 15 0 0 0 0 (.int 57) [], ip_n4 15 (.if_icmp .gt 7) 18 22, ip_n9 18 (.iconst 1) 19 0 0 0 0 (.int 1) [], ip_n4 19 (.goto 4) 22 23, ip_n9 22 (.iconst 0) 23 0 0 0 0 (.int 0) [], ip_n7 23 .ireturn 24 0 0 3 0]
set_option maxRecDepth 100000 in
noncomputable def ip_c87 : List (Nat × ip_E) := [ip_n4 0 (.aload_n 0) 1 0, ip_n7 1 (.getfield 26) 4 6 3 0 57, ip_n4 4 (.ifCond .lt 42) 7 46, ip_n4 7 (.aload_n 0) 8 0, ip_n7 8 (.getfield 26) 11 6 3 0 57, ip_n4 11 (.aload_n 0) 12 0, ip_n7 12 (.getfield 22) 15 6 2 0 56, ip_n4 15 (.if_icmp .ge 31) 18 46, ip_n4 18 (.aload_n 0) 19 0, ip_n7 19 (.getfield 26) 22 6 3 0 57, ip_n4 22 (.aload_n 0) 23 0, ip_n7 23 (.getfield 9) 26 6 0 2 54, ip_n4 26 .arraylength 27 0, ip_n4 27 (.if_icmp .ge 19) 30 46, ip_n4 30 (.aload_n 0) 31 0, ip_n7 31 (.getfield 9) 34 6 0 2 54, ip_n4 34 (.aload_n 0) 35 0, ip_n7 35 (.getfield 26) 38 6 3 0 57, ip_n4 38 .baload 39 0, ip_n9 39 (.sipush 255) 42 0 0 0 0 (.int 255) [], ip_n4 42 .iand 43 0, ip_n4 43 (.goto 4) 46 47, ip_n9 46 (.iconst (-1)) 47 0 0 0 0 (.int (-1)) [], ip_n4 47 .ireturn 48 0]
set_option maxRecDepth 100000 in
noncomputable def ip_c88 : List (Nat × ip_E) := [ip_n4 0 (.aload_n 0) 1 0, ip_n7 1 (.invokespecial 3) 4 0 0 6 3, ip_n4 4 (.aload_n 0) 5 0, ip_n9 5 (.bipush 6) 7 0 0 0 0 (.int 6) [], ip_n4 7 (.newarray .int) 9 0, ip_n7 9 (.putfield 9) 12 7 0 2 60, ip_n4 12 (.aload_n 0) 13 0, ip_n9 13 (.iconst 0) 14 0 0 0 0 (.int 0) [], ip_n7 14 (.putfield 15) 17 7 1 0 61, ip_n4 17 .return_ 18 0]
set_option maxRecDepth 100000 in
noncomputable def ip_c89 : List (Nat × ip_E) := [ip_n4 0 (.aload_n 0) 1 0, ip_n4 1 (.iload_n 1) 2 1, ip_n7 2 (.putfield 15) 5 7 1 0 61, ip_n4 5 (.iload_n 1) 6 1, ip_n9 6 (.bipush (-6)) 8 0 0 0 0 (.int (-6)) [], ip_n4 8 (.if_icmp .lt 20) 11 28, ip_n4 11 (.iload_n 1) 12 1, ip_n9 12 (.iconst (-1)) 13 0 0 0 0 (.int (-1)) [], ip_n4 13 (.if_icmp .gt 15) 16 28, ip_n4 16 (.aload_n 0) 17 0, ip_n7 17 (.getfield 9) 20 7 0 2 60, ip_n9 20 (.iconst (-1)) 21 0 0 0 0 (.int (-1)) [], ip_n4 21 (.iload_n 1) 22 1, ip_n4 22 .isub 23 0, ip_n4 23 .dup2 24 0, ip_n4 24 .iaload 25 0, ip_n9 25 (.iconst 1) 26 0 0 0 0 (.int 1) [], ip_n4 26 .iadd 27 0, ip_n4 27 .iastore 28 0, ip_n4 28 (.iload_n 1) 29 1, ip_n4 29 .ireturn 30 0]
set_option maxRecDepth 100000 in
noncomputable def ip_c90 : List (Nat × ip_E) := [ip_n4 0 (.aload_n 0) 1 0, ip_n9 1 (.iconst 0) 2 0 0 0 0 (.int 0) [], ip_n7 2 (.putfield 15) 5 7 1 0 61, ip_n4 5 (.iload_n 1) 6 1, ip_n4 6 .ireturn 7 0]
set_option maxRecDepth 100000 in
noncomputable def ip_c91 : List (Nat × ip_E) := [ip_n4 0 (.iload_n 1) 1 1, ip_n4 1 (.ifCond .lt 21) 4 22, ip_n4 4 (.iload_n 1) 5 1, ip_n4 5 (.aload_n 0) 6 0, ip_n7 6 (.getfield 9) 9 7 0 2 60, ip_n4 9 .arraylength 10 0, ip_n4 10 (.if_icmp .ge 12) 13 22, ip_n4 13 (.aload_n 0) 14 0, ip_n7 14 (.getfield 9) 17 7 0 2 60, ip_n4 17 (.iload_n 1) 18 1, ip_n4 18 .iaload 19 0, ip_n4 19 (.goto 5) 22 24, ip_n9 22 (.ldc 19) 24 0 0 0 1126 (.int (-2147483648)) [], ip_n4 24 .ireturn 25 0]
set_option maxRecDepth 100000 in
noncomputable def ip_c92 : List (Nat × ip_E) := [ip_n4 0 (.aload_n 0) 1 0, ip_n7 1 (.invokespecial 3) 4 0 0 6 3, ip_n4 4 (.aload_n 0) 5 0, ip_n9 5 (.lconst 0) 6 0 0 0 0 (.long 0) [], ip_n7 6 (.putfield 9) 9 8 0 1 62, ip_n4 9 (.aload_n 0) 10 0, ip_n9 10 (.lconst 0) 11 0 0 0 0 (.long 0) [], ip_n7 11 (.putfield 15) 14 8 1 1 63, ip_n4 14 (.aload_n 0) 15 0, ip_n9 15 (.lconst 0) 16 0 0 0 0 (.long 0) [], ip_n7 16 (.putfield 18) 19 8 2 1 64, ip_n4 19 (.aload_n 0) 20 0, ip_n9 20 (.lconst 1) 21 0 0 0 0 (.long 1) [], ip_n7 21 (.putfield 21) 24 8 3 1 65, ip_n4 24 .return_ 25 0]
set_option maxRecDepth 100000 in
noncomputable def ip_d93_0 : List (Nat × ip_E) := [ip_n4 0 (.lload_n 1) 1 1, ip_n4 1 (.lload_n 3) 2 3, ip_n7 2 (.invokestatic 24) 5 163 2 3 85, ip_n4 5 (.lload 5) 7 5, ip_n4 7 (.lload 7) 9 7, ip_n7 9 (.invokestatic 24) 12 163 2 3 85, ip_n7 12 (.invokestatic 24) 15 163 2 3 85, ip_n4 15 (.lstore 9) 17 9, ip_n4 17 (.lload 7) 19 7, ip_n9 19 (.lconst 0) 20 0 0 0 0 (.long 0) [], ip_n4 20 .lcmp 21 0, ip_n4 21 (.ifCond .ge 8) 24 29, ip_n4 24 (.lload 9) 26 9, ip_n4 26 .lneg 27 0, ip_n4 27 (.lstore 9) 29 9, ip_n4 29 (.lload 9) 31 9, ip_n9 31 (.lconst 0) 32 0 0 0 0 (.long 0) [], ip_n4 32 .lcmp 33 0, ip_n4 33 (.ifCond .eq 14) 36 47, ip_n4 36 (.lload 7) 38 7, ip_n9 38 (.lconst 0) 39 0 0 0 0 (.long 0) [], ip_n4 39 .lcmp 40 0, ip_n4 40 (.ifCond .eq 7) 43 47, ip_n9 43 (.iconst 1) 44 0 0 0 0 (.int 1) []]
set_option maxRecDepth 100000 in
noncomputable def ip_d93_1 : List (Nat × ip_E) := [ip_n4 44 (.goto 4) 47 48, ip_n9 47 (.iconst 0) 48 0 0 0 0 (.int 0) [], ip_n4 48 (.istore 11) 50 11, ip_n4 50 (.aload_n 0) 51 0, ip_n4 51 (.iload 11) 53 11, ip_n4 53 (.ifCond .eq 10) 56 63, ip_n4 56 (.lload_n 1) 57 1, ip_n4 57 (.lload 9) 59 9, ip_n4 59 .ldiv 60 0, ip_n4 60 (.goto 4) 63 64, ip_n9 63 (.lconst 0) 64 0 0 0 0 (.long 0) [], ip_n7 64 (.putfield 9) 67 8 0 1 62, ip_n4 67 (.aload_n 0) 68 0, ip_n4 68 (.iload 11) 70 11, ip_n4 70 (.ifCond .eq 10) 73 80, ip_n4 73 (.lload_n 3) 74 3, ip_n4 74 (.lload 9) 76 9, ip_n4 76 .ldiv 77 0, ip_n4 77 (.goto 4) 80 81, ip_n9 80 (.lconst 0) 81 0 0 0 0 (.long 0) [], ip_n7 81 (.putfield 15) 84 8 1 1 63, ip_n4 84 (.aload_n 0) 85 0, ip_n4 85 (.iload 11) 87 11, ip_n4 87 (.ifCond .eq 11) 90 98]
set_option maxRecDepth 100000 in
noncomputable def ip_d93_2 : List (Nat × ip_E) := [ip_n4 90 (.lload 5) 92 5, ip_n4 92 (.lload 9) 94 9, ip_n4 94 .ldiv 95 0, ip_n4 95 (.goto 4) 98 99, ip_n9 98 (.lconst 0) 99 0 0 0 0 (.long 0) [], ip_n7 99 (.putfield 18) 102 8 2 1 64, ip_n4 102 (.aload_n 0) 103 0, ip_n4 103 (.iload 11) 105 11, ip_n4 105 (.ifCond .eq 11) 108 116, ip_n4 108 (.lload 7) 110 7, ip_n4 110 (.lload 9) 112 9, ip_n4 112 .ldiv 113 0, ip_n4 113 (.goto 4) 116 117, ip_n9 116 (.lconst 1) 117 0 0 0 0 (.long 1) [], ip_n7 117 (.putfield 21) 120 8 3 1 65, ip_n4 120 .return_ 121 0]
set_option maxRecDepth 100000 in
noncomputable def ip_c93 : List (Nat × ip_E) := ip_d93_0 ++ (ip_d93_1 ++ (ip_d93_2))
set_option maxRecDepth 100000 in
noncomputable def ip_d94_0 : List (Nat × ip_E) := [ip_n4 0 (.lload_n 1) 1 1, ip_n9 1 (.bipush 52) 3 0 0 0 0 (.int 52) [], ip_n4 3 .lushr 4 0, ip_n9 4 (.ldc2_w 28) 7 0 0 0 551 (.long 2047) [], ip_n4 7 .land 8 0, ip_n4 8 .l2i 9 0, ip_n4 9 (.istore_n 3) 10 3, ip_n4 10 (.lload_n 1) 11 1, ip_n9 11 (.ldc2_w 30) 14 0 0 0 552 (.long 4503599627370495) [], ip_n4 14 .land 15 0, ip_n4 15 (.lstore 4) 17 4, ip_n4 17 (.aload_n 0) 18 0, ip_n9 18 (.lconst 0) 19 0 0 0 0 (.long 0) [], ip_n9 19 (.lconst 0) 20 0 0 0 0 (.long 0) [], ip_n9 20 (.lconst 0) 21 0 0 0 0 (.long 0) [], ip_n9 21 (.lconst 1) 22 0 0 0 0 (.long 1) [], ip_n7 22 (.invokevirtual 32) 25 93 5 1 86, ip_n4 25 (.iload_n 3) 26 3, ip_n4 26 (.ifCond .ne 16) 29 42, ip_n4 29 (.lload 4) 31 4, ip_n9 31 (.lconst 0) 32 0 0 0 0 (.long 0) [], ip_n4 32 .lcmp 33 0, ip_n4 33 (.ifCond .ne 7) 36 40, ip_n9 36 (.iconst 1) 37 0 0 0 0 (.int 1) []]
set_option maxRecDepth 100000 in
noncomputable def ip_d94_1 : List (Nat × ip_E) := [ip_n4 37 (.goto 4) 40 41, ip_n9 40 (.iconst 0) 41 0 0 0 0 (.int 0) [], ip_n7 41 .ireturn 42 0 0 3 0, ip_n4 42 (.iload_n 3) 43 3, ip_n9 43 (.sipush 2047) 46 0 0 0 0 (.int 2047) [], ip_n4 46 (.if_icmp .ne 5) 49 51, ip_n9 49 (.iconst 0) 50 0 0 0 0 (.int 0) [], ip_n7 50 .ireturn 51 0 0 3 0, ip_n4 51 (.lload 4) 53 4, ip_n9 53 (.ldc2_w 36) 56 0 0 0 554 (.long 4503599627370496) [], ip_n4 56 .lor 57 0, ip_n4 57 (.lstore 4) 59 4, ip_n9 59 (.iinc 3 (-1075)) 65 3 0 0 0 (.int (-1075)) [], ip_n9 65 (.iconst 0) 66 0 0 0 0 (.int 0) [], ip_n4 66 (.istore 6) 68 6, ip_n4 68 (.iload 6) 70 6, ip_n9 70 (.bipush 52) 72 0 0 0 0 (.int 52) [], ip_n4 72 (.if_icmp .ge 27) 75 99, ip_n4 75 (.lload 4) 77 4, ip_n9 77 (.lconst 1) 78 0 0 0 0 (.long 1) [], ip_n4 78 .land 79 0, ip_n9 79 (.lconst 0) 80 0 0 0 0 (.long 0) [], ip_n4 80 .lcmp 81 0, ip_n4 81 (.ifCond .ne 18) 84 99]
set_option maxRecDepth 100000 in
noncomputable def ip_d94_2 : List (Nat × ip_E) := [ip_n4 84 (.lload 4) 86 4, ip_n9 86 (.iconst 1) 87 0 0 0 0 (.int 1) [], ip_n4 87 .lshr 88 0, ip_n4 88 (.lstore 4) 90 4, ip_n9 90 (.iinc 3 1) 93 3 0 0 0 (.int 1) [], ip_n9 93 (.iinc 6 1) 96 6 0 0 0 (.int 1) [], ip_n4 96 (.goto (-28)) 99 68, ip_n4 99 (.lload 4) 101 4, ip_n9 101 (.ldc2_w 38) 104 0 0 0 555 (.long 150) [], ip_n4 104 .lcmp 105 0, ip_n4 105 (.ifCond .gt 15) 108 120, ip_n4 108 (.iload_n 3) 109 3, ip_n9 109 (.bipush 7) 111 0 0 0 0 (.int 7) [], ip_n4 111 (.if_icmp .gt 9) 114 120, ip_n4 114 (.iload_n 3) 115 3, ip_n9 115 (.bipush (-7)) 117 0 0 0 0 (.int (-7)) [], ip_n4 117 (.if_icmp .ge 5) 120 122, ip_n9 120 (.iconst 0) 121 0 0 0 0 (.int 0) [], ip_n7 121 .ireturn 122 0 0 3 0, ip_n4 122 (.iload_n 3) 123 3, ip_n4 123 (.ifCond .le 10) 126 133, ip_n4 126 (.lload 4) 128 4, ip_n4 128 (.iload_n 3) 129 3, ip_n4 129 .lshl 130 0]
set_option maxRecDepth 100000 in
noncomputable def ip_d94_3 : List (Nat × ip_E) := [ip_n4 130 (.goto 5) 133 135, ip_n4 133 (.lload 4) 135 4, ip_n4 135 (.lstore 6) 137 6, ip_n4 137 (.aload_n 0) 138 0, ip_n4 138 (.lload_n 1) 139 1, ip_n9 139 (.lconst 0) 140 0 0 0 0 (.long 0) [], ip_n4 140 .lcmp 141 0, ip_n4 141 (.ifCond .ge 9) 144 150, ip_n4 144 (.lload 6) 146 6, ip_n4 146 .lneg 147 0, ip_n4 147 (.goto 5) 150 152, ip_n4 150 (.lload 6) 152 6, ip_n9 152 (.lconst 0) 153 0 0 0 0 (.long 0) [], ip_n9 153 (.lconst 0) 154 0 0 0 0 (.long 0) [], ip_n4 154 (.iload_n 3) 155 3, ip_n4 155 (.ifCond .ge 10) 158 165, ip_n9 158 (.lconst 1) 159 0 0 0 0 (.long 1) [], ip_n4 159 (.iload_n 3) 160 3, ip_n4 160 .ineg 161 0, ip_n4 161 .lshl 162 0, ip_n4 162 (.goto 4) 165 166, ip_n9 165 (.lconst 1) 166 0 0 0 0 (.long 1) [], ip_n7 166 (.invokevirtual 32) 169 93 5 1 86, ip_n4 169 (.aload_n 0) 170 0]
set_option maxRecDepth 100000 in
noncomputable def ip_d94_4 : List (Nat × ip_E) := [ip_n7 170 (.invokevirtual 40) 173 99 1 1 87, ip_n7 173 .ireturn 174 0 0 3 0]
set_option maxRecDepth 100000 in
noncomputable def ip_c94 : List (Nat × ip_E) := ip_d94_0 ++ (ip_d94_1 ++ (ip_d94_2 ++ (ip_d94_3 ++ (ip_d94_4))))
set_option maxRecDepth 100000 in
noncomputable def ip_c95 : List (Nat × ip_E) := [ip_n4 0 (.aload_n 0) 1 0, ip_n4 1 (.aload_n 1) 2 1, ip_n7 2 (.getfield 9) 5 8 0 1 62, ip_n7 5 (.putfield 9) 8 8 0 1 62, ip_n4 8 (.aload_n 0) 9 0, ip_n4 9 (.aload_n 1) 10 1, ip_n7 10 (.getfield 15) 13 8 1 1 63, ip_n7 13 (.putfield 15) 16 8 1 1 63, ip_n4 16 (.aload_n 0) 17 0, ip_n4 17 (.aload_n 1) 18 1, ip_n7 18 (.getfield 18) 21 8 2 1 64, ip_n7 21 (.putfield 18) 24 8 2 1 64, ip_n4 24 (.aload_n 0) 25 0, ip_n4 25 (.aload_n 1) 26 1, ip_n7 26 (.getfield 21) 29 8 3 1 65, ip_n7 29 (.putfield 21) 32 8 3 1 65, ip_n4 32 .return_ 33 0]
set_option maxRecDepth 100000 in
noncomputable def ip_d96_0 : List (Nat × ip_E) := [ip_n4 0 (.iload_n 2) 1 2, ip_n4 1 (.ifCond .lt 11) 4 12, ip_n4 4 (.iload_n 2) 5 2, ip_n4 5 (.aload_n 1) 6 1, ip_n4 6 .arraylength 7 0, ip_n9 7 (.iconst 4) 8 0 0 0 0 (.int 4) [], ip_n4 8 .isub 9 0, ip_n4 9 (.if_icmp .le 4) 12 13, ip_n4 12 .return_ 13 0, ip_n4 13 (.aload_n 0) 14 0, ip_n4 14 (.aload_n 1) 15 1, ip_n4 15 (.iload_n 2) 16 2, ip_n4 16 .iaload 17 0, ip_n4 17 .i2l 18 0, ip_n7 18 (.putfield 9) 21 8 0 1 62, ip_n4 21 (.aload_n 0) 22 0, ip_n4 22 (.aload_n 1) 23 1, ip_n4 23 (.iload_n 2) 24 2, ip_n9 24 (.iconst 1) 25 0 0 0 0 (.int 1) [], ip_n4 25 .iadd 26 0, ip_n4 26 .iaload 27 0, ip_n4 27 .i2l 28 0, ip_n7 28 (.putfield 15) 31 8 1 1 63, ip_n4 31 (.aload_n 0) 32 0]
set_option maxRecDepth 100000 in
noncomputable def ip_d96_1 : List (Nat × ip_E) := [ip_n4 32 (.aload_n 1) 33 1, ip_n4 33 (.iload_n 2) 34 2, ip_n9 34 (.iconst 2) 35 0 0 0 0 (.int 2) [], ip_n4 35 .iadd 36 0, ip_n4 36 .iaload 37 0, ip_n4 37 .i2l 38 0, ip_n7 38 (.putfield 18) 41 8 2 1 64, ip_n4 41 (.aload_n 0) 42 0, ip_n4 42 (.aload_n 1) 43 1, ip_n4 43 (.iload_n 2) 44 2, ip_n9 44 (.iconst 3) 45 0 0 0 0 (.int 3) [], ip_n4 45 .iadd 46 0, ip_n4 46 .iaload 47 0, ip_n4 47 .i2l 48 0, ip_n7 48 (.putfield 21) 51 8 3 1 65, ip_n4 51 .return_ 52 0]
set_option maxRecDepth 100000 in
noncomputable def ip_c96 : List (Nat × ip_E) := ip_d96_0 ++ (ip_d96_1)
set_option maxRecDepth 100000 in
noncomputable def ip_d97_0 : List (Nat × ip_E) := [ip_n4 0 (.iload_n 2) 1 2, ip_n4 1 (.ifCond .lt 11) 4 12, ip_n4 4 (.iload_n 2) 5 2, ip_n4 5 (.aload_n 1) 6 1, ip_n4 6 .arraylength 7 0, ip_n9 7 (.iconst 4) 8 0 0 0 0 (.int 4) [], ip_n4 8 .isub 9 0, ip_n4 9 (.if_icmp .le 4) 12 13, ip_n4 12 .return_ 13 0, ip_n4 13 (.aload_n 1) 14 1, ip_n4 14 (.iload_n 2) 15 2, ip_n4 15 (.aload_n 0) 16 0, ip_n7 16 (.getfield 9) 19 8 0 1 62, ip_n4 19 .l2i 20 0, ip_n4 20 .iastore 21 0, ip_n4 21 (.aload_n 1) 22 1, ip_n4 22 (.iload_n 2) 23 2, ip_n9 23 (.iconst 1) 24 0 0 0 0 (.int 1) [], ip_n4 24 .iadd 25 0, ip_n4 25 (.aload_n 0) 26 0, ip_n7 26 (.getfield 15) 29 8 1 1 63, ip_n4 29 .l2i 30 0, ip_n4 30 .iastore 31 0, ip_n4 31 (.aload_n 1) 32 1]
set_option maxRecDepth 100000 in
noncomputable def ip_d97_1 : List (Nat × ip_E) := [ip_n4 32 (.iload_n 2) 33 2, ip_n9 33 (.iconst 2) 34 0 0 0 0 (.int 2) [], ip_n4 34 .iadd 35 0, ip_n4 35 (.aload_n 0) 36 0, ip_n7 36 (.getfield 18) 39 8 2 1 64, ip_n4 39 .l2i 40 0, ip_n4 40 .iastore 41 0, ip_n4 41 (.aload_n 1) 42 1, ip_n4 42 (.iload_n 2) 43 2, ip_n9 43 (.iconst 3) 44 0 0 0 0 (.int 3) [], ip_n4 44 .iadd 45 0, ip_n4 45 (.aload_n 0) 46 0, ip_n7 46 (.getfield 21) 49 8 3 1 65, ip_n4 49 .l2i 50 0, ip_n4 50 .iastore 51 0, ip_n4 51 .return_ 52 0]
set_option maxRecDepth 100000 in
noncomputable def ip_c97 : List (Nat × ip_E) := ip_d97_0 ++ (ip_d97_1)
set_option maxRecDepth 100000 in
noncomputable def ip_c98 : List (Nat × ip_E) := [ip_n4 0 (.aload_n 0) 1 0, ip_n4 1 .dup 2 0, ip_n7 2 (.getfield 9) 5 8 0 1 62, ip_n4 5 (.lload_n 1) 6 1, ip_n4 6 (.aload_n 0) 7 0, ip_n7 7 (.getfield 21) 10 8 3 1 65, ip_n4 10 .lmul 11 0, ip_n4 11 .lsub 12 0, ip_n7 12 (.putfield 9) 15 8 0 1 62, ip_n4 15 .return_ 16 0]
set_option maxRecDepth 100000 in
noncomputable def ip_c99 : List (Nat × ip_E) := [ip_n4 0 (.aload_n 0) 1 0, ip_n7 1 (.getfield 9) 4 8 0 1 62, ip_n7 4 (.invokestatic 44) 7 100 1 0 88, ip_n4 7 (.ifCond .eq 47) 10 54, ip_n4 10 (.aload_n 0) 11 0, ip_n7 11 (.getfield 15) 14 8 1 1 63, ip_n7 14 (.invokestatic 44) 17 100 1 0 88, ip_n4 17 (.ifCond .eq 37) 20 54, ip_n4 20 (.aload_n 0) 21 0, ip_n7 21 (.getfield 18) 24 8 2 1 64, ip_n7 24 (.invokestatic 44) 27 100 1 0 88, ip_n4 27 (.ifCond .eq 27) 30 54, ip_n4 30 (.aload_n 0) 31 0, ip_n7 31 (.getfield 21) 34 8 3 1 65, ip_n9 34 (.lconst 1) 35 0 0 0 0 (.long 1) [], ip_n4 35 .lcmp 36 0, ip_n4 36 (.ifCond .lt 18) 39 54, ip_n4 39 (.aload_n 0) 40 0, ip_n7 40 (.getfield 21) 43 8 3 1 65, ip_n9 43 (.ldc2_w 38) 46 0 0 0 555 (.long 150) [], ip_n4 46 .lcmp 47 0, ip_n4 47 (.ifCond .gt 7) 50 54, ip_n9 50 (.iconst 1) 51 0 0 0 0 (.int 1) [], ip_n4 51 (.goto 4) 54 55, ip_n9 54 (.iconst 0) 55 0 0 0 0 (.int 0) [], ip_n7 55 .ireturn 56 0 0 3 0]
set_option maxRecDepth 100000 in
noncomputable def ip_c100 : List (Nat × ip_E) := [ip_n4 0 (.lload_n 0) 1 0, ip_n9 1 (.ldc2_w 48) 4 0 0 0 563 (.long (-150)) [], ip_n4 4 .lcmp 5 0, ip_n4 5 (.ifCond .lt 15) 8 20, ip_n4 8 (.lload_n 0) 9 0, ip_n9 9 (.ldc2_w 38) 12 0 0 0 555 (.long 150) [], ip_n4 12 .lcmp 13 0, ip_n4 13 (.ifCond .gt 7) 16 20, ip_n9 16 (.iconst 1) 17 0 0 0 0 (.int 1) [], ip_n4 17 (.goto 4) 20 21, ip_n9 20 (.iconst 0) 21 0 0 0 0 (.int 0) [], ip_n7 21 .ireturn 22 0 0 3 0]
set_option maxRecDepth 100000 in
noncomputable def ip_c101 : List (Nat × ip_E) := [ip_n4 0 (.aload_n 0) 1 0, ip_n7 1 (.getfield 9) 4 8 0 1 62, ip_n9 4 (.lconst 0) 5 0 0 0 0 (.long 0) [], ip_n4 5 .lcmp 6 0, ip_n4 6 (.ifCond .ne 25) 9 31, ip_n4 9 (.aload_n 0) 10 0, ip_n7 10 (.getfield 15) 13 8 1 1 63, ip_n9 13 (.lconst 0) 14 0 0 0 0 (.long 0) [], ip_n4 14 .lcmp 15 0, ip_n4 15 (.ifCond .ne 16) 18 31, ip_n4 18 (.aload_n 0) 19 0, ip_n7 19 (.getfield 18) 22 8 2 1 64, ip_n9 22 (.lconst 0) 23 0 0 0 0 (.long 0) [], ip_n4 23 .lcmp 24 0, ip_n4 24 (.ifCond .ne 7) 27 31, ip_n9 27 (.iconst 1) 28 0 0 0 0 (.int 1) [], ip_n4 28 (.goto 4) 31 32, ip_n9 31 (.iconst 0) 32 0 0 0 0 (.int 0) [], ip_n7 32 .ireturn 33 0 0 3 0]
set_option maxRecDepth 100000 in
noncomputable def ip_c102 : List (Nat × ip_E) := [ip_n4 0 (.iload_n 1) 1 1, ip_n4 1 (.ifCond .ne 9) 4 10, ip_n4 4 (.aload_n 0) 5 0, ip_n7 5 (.getfield 9) 8 8 0 1 62, ip_n4 8 .l2i 9 0, ip_n4 9 .ireturn 10 0, ip_n4 10 (.iload_n 1) 11 1, ip_n9 11 (.iconst 1) 12 0 0 0 0 (.int 1) [], ip_n4 12 (.if_icmp .ne 9) 15 21, ip_n4 15 (.aload_n 0) 16 0, ip_n7 16 (.getfield 15) 19 8 1 1 63, ip_n4 19 .l2i 20 0, ip_n4 20 .ireturn 21 0, ip_n4 21 (.iload_n 1) 22 1, ip_n9 22 (.iconst 2) 23 0 0 0 0 (.int 2) [], ip_n4 23 (.if_icmp .ne 9) 26 32, ip_n4 26 (.aload_n 0) 27 0, ip_n7 27 (.getfield 18) 30 8 2 1 64, ip_n4 30 .l2i 31 0, ip_n4 31 .ireturn 32 0, ip_n4 32 (.iload_n 1) 33 1, ip_n9 33 (.iconst 3) 34 0 0 0 0 (.int 3) [], ip_n4 34 (.if_icmp .ne 11) 37 45, ip_n4 37 (.aload_n 0) 38 0, ip_n7 38 (.getfield 21) 41 8 3 1 65, ip_n4 41 .l2i 42 0, ip_n4 42 (.goto 5) 45 47, ip_n9 45 (.ldc 50) 47 0 0 0 903 (.int (-2147483648)) [], ip_n4 47 .ireturn 48 0]
set_option maxRecDepth 100000 in
noncomputable def ip_c103 : List (Nat × ip_E) := [ip_n4 0 (.aload_n 0) 1 0, ip_n7 1 (.invokespecial 3) 4 0 0 6 3, ip_n4 4 (.aload_n 0) 5 0, ip_n9 5 (.bipush 120) 7 0 0 0 0 (.int 120) [], ip_n4 7 (.newarray .byte) 9 2, ip_n7 9 (.putfield 9) 12 9 0 2 66, ip_n4 12 (.aload_n 0) 13 0, ip_n9 13 (.iconst 0) 14 0 0 0 0 (.int 0) [], ip_n7 14 (.putfield 15) 17 9 1 0 67, ip_n4 17 .return_ 18 0]
set_option maxRecDepth 100000 in
noncomputable def ip_d104_0 : List (Nat × ip_E) := [ip_n4 0 (.aload_n 0) 1 0, ip_n7 1 (.getfield 15) 4 9 1 0 67, ip_n9 4 (.bipush 40) 6 0 0 0 0 (.int 40) [], ip_n4 6 (.if_icmp .lt 4) 9 10, ip_n4 9 .return_ 10 0, ip_n4 10 (.aload_n 0) 11 0, ip_n7 11 (.getfield 9) 14 9 0 2 66, ip_n9 14 (.iconst 3) 15 0 0 0 0 (.int 3) [], ip_n4 15 (.aload_n 0) 16 0, ip_n7 16 (.getfield 15) 19 9 1 0 67, ip_n4 19 .imul 20 0, ip_n4 20 (.iload_n 1) 21 1, ip_n4 21 .i2b 22 0, ip_n4 22 .bastore 23 0, ip_n4 23 (.aload_n 0) 24 0, ip_n7 24 (.getfield 9) 27 9 0 2 66, ip_n9 27 (.iconst 3) 28 0 0 0 0 (.int 3) [], ip_n4 28 (.aload_n 0) 29 0, ip_n7 29 (.getfield 15) 32 9 1 0 67, ip_n4 32 .imul 33 0, ip_n9 33 (.iconst 1) 34 0 0 0 0 (.int 1) [], ip_n4 34 .iadd 35 0, ip_n4 35 (.iload_n 2) 36 2, ip_n4 36 .i2b 37 0]
set_option maxRecDepth 100000 in
noncomputable def ip_d104_1 : List (Nat × ip_E) := [ip_n4 37 .bastore 38 0, ip_n4 38 (.aload_n 0) 39 0, ip_n7 39 (.getfield 9) 42 9 0 2 66, ip_n9 42 (.iconst 3) 43 0 0 0 0 (.int 3) [], ip_n4 43 (.aload_n 0) 44 0, ip_n7 44 (.getfield 15) 47 9 1 0 67, ip_n4 47 .imul 48 0, ip_n9 48 (.iconst 2) 49 0 0 0 0 (.int 2) [], ip_n4 49 .iadd 50 0, ip_n4 50 (.iload_n 3) 51 3, ip_n4 51 .i2b 52 0, ip_n4 52 .bastore 53 0, ip_n4 53 (.aload_n 0) 54 0, ip_n4 54 .dup 55 0, ip_n7 55 (.getfield 15) 58 9 1 0 67, ip_n9 58 (.iconst 1) 59 0 0 0 0 (.int 1) [], ip_n4 59 .iadd 60 0, ip_n7 60 (.putfield 15) 63 9 1 0 67, ip_n4 63 .return_ 64 0]
set_option maxRecDepth 100000 in
noncomputable def ip_c104 : List (Nat × ip_E) := ip_d104_0 ++ (ip_d104_1)
set_option maxRecDepth 100000 in
noncomputable def ip_c105 : List (Nat × ip_E) := [ip_n4 0 (.aload_n 1) 1 1, ip_n7 1 (.getfield 9) 4 9 0 2 66, ip_n9 4 (.iconst 0) 5 0 0 0 0 (.int 0) [], ip_n4 5 (.aload_n 0) 6 0, ip_n7 6 (.getfield 9) 9 9 0 2 66, ip_n9 9 (.iconst 0) 10 0 0 0 0 (.int 0) [], ip_n4 10 (.aload_n 0) 11 0, ip_n7 11 (.getfield 9) 14 9 0 2 66, ip_n4 14 .arraylength 15 0, ip_n7 15 (.invokestatic 19) 18 0 0 7 0, ip_n4 18 (.aload_n 0) 19 0, ip_n4 19 (.aload_n 1) 20 1, ip_n7 20 (.getfield 15) 23 9 1 0 67, ip_n7 23 (.putfield 15) 26 9 1 0 67, ip_n4 26 .return_ 27 0]
set_option maxRecDepth 100000 in
noncomputable def ip_c106 : List (Nat × ip_E) := [ip_n9 0 (.iconst 3) 1 0 0 0 0 (.int 3) [], ip_n4 1 (.iload_n 1) 2 1, ip_n4 2 .imul 3 0, ip_n4 3 (.iload_n 2) 4 2, ip_n4 4 .iadd 5 0, ip_n4 5 (.istore_n 3) 6 3, ip_n4 6 (.iload_n 3) 7 3, ip_n4 7 (.ifCond .lt 21) 10 28, ip_n4 10 (.iload_n 3) 11 3, ip_n4 11 (.aload_n 0) 12 0, ip_n7 12 (.getfield 9) 15 9 0 2 66, ip_n4 15 .arraylength 16 0, ip_n4 16 (.if_icmp .ge 12) 19 28, ip_n4 19 (.aload_n 0) 20 0, ip_n7 20 (.getfield 9) 23 9 0 2 66, ip_n4 23 (.iload_n 3) 24 3, ip_n4 24 .baload 25 0, ip_n4 25 (.goto 4) 28 29, ip_n9 28 (.iconst (-1)) 29 0 0 0 0 (.int (-1)) [], ip_n4 29 .ireturn 30 0]
set_option maxRecDepth 100000 in
noncomputable def ip_c107 : List (Nat × ip_E) := [ip_n4 0 (.aload_n 1) 1 1, ip_n7 1 (.invokevirtual 25) 4 64 1 1 89, ip_n9 4 (.iconst 0) 5 0 0 0 0 (.int 0) [], ip_n4 5 (.istore_n 2) 6 2, ip_n4 6 (.iload_n 2) 7 2, ip_n4 7 (.aload_n 0) 8 0, ip_n7 8 (.getfield 15) 11 9 1 0 67, ip_n4 11 (.if_icmp .ge 40) 14 51, ip_n4 14 (.aload_n 1) 15 1, ip_n4 15 (.aload_n 0) 16 0, ip_n4 16 (.iload_n 2) 17 2, ip_n9 17 (.iconst 0) 18 0 0 0 0 (.int 0) [], ip_n7 18 (.invokevirtual 30) 21 106 3 1 90, ip_n4 21 (.aload_n 0) 22 0, ip_n4 22 (.iload_n 2) 23 2, ip_n9 23 (.iconst 1) 24 0 0 0 0 (.int 1) [], ip_n7 24 (.invokevirtual 30) 27 106 3 1 90, ip_n4 27 (.aload_n 0) 28 0, ip_n4 28 (.iload_n 2) 29 2, ip_n9 29 (.iconst 2) 30 0 0 0 0 (.int 2) [], ip_n7 30 (.invokevirtual 30) 33 106 3 1 90, ip_n9 33 (.iconst 1) 34 0 0 0 0 (.int 1) [], ip_n4 34 (.if_icmp .ne 7) 37 41, ip_n9 37 (.iconst 1) 38 0 0 0 0 (.int 1) [], ip_n4 38 (.goto 4) 41 42, ip_n9 41 (.iconst 0) 42 0 0 0 0 (.int 0) [], ip_n7 42 (.invokevirtual 34) 45 66 4 1 91, ip_n9 45 (.iinc 2 1) 48 2 0 0 0 (.int 1) [], ip_n4 48 (.goto (-42)) 51 6, ip_n4 51 .return_ 52 0]
set_option maxRecDepth 100000 in
noncomputable def ip_c108 : List (Nat × ip_E) := [ip_n9 0 (.iconst 0) 1 0 0 0 0 (.int 0) [], ip_n4 1 (.istore_n 1) 2 1, ip_n4 2 (.iload_n 1) 3 1, ip_n4 3 (.aload_n 0) 4 0, ip_n7 4 (.getfield 15) 7 9 1 0 67, ip_n4 7 (.if_icmp .ge 82) 10 89, ip_n4 10 (.aload_n 0) 11 0, ip_n4 11 (.iload_n 1) 12 1, ip_n9 12 (.iconst 0) 13 0 0 0 0 (.int 0) [], ip_n7 13 (.invokevirtual 30) 16 106 3 1 90, ip_n4 16 (.istore_n 2) 17 2, ip_n4 17 (.aload_n 0) 18 0, ip_n4 18 (.iload_n 1) 19 1, ip_n9 19 (.iconst 1) 20 0 0 0 0 (.int 1) [], ip_n7 20 (.invokevirtual 30) 23 106 3 1 90, ip_n4 23 (.istore_n 3) 24 3, ip_n4 24 (.aload_n 0) 25 0, ip_n4 25 (.iload_n 1) 26 1, ip_n9 26 (.iconst 2) 27 0 0 0 0 (.int 2) [], ip_n7 27 (.invokevirtual 30) 30 106 3 1 90, ip_n4 30 (.ifCond .eq 5) 33 35, ip_n9 33 (.iconst 0) 34 0 0 0 0 (.int 0) [], ip_n7 34 .ireturn 35 0 0 3 0, ip_n4 35 (.iload_n 1) 36 1, ip_n9 36 (.iconst 1) 37 0 0 0 0 (.int 1) [], ip_n4 37 (.if_icmp .lt 15) 40 52, ip_n4 40 (.iload_n 3) 41 3, ip_n9 41 (.iconst 1) 42 0 0 0 0 (.int 1) [], ip_n4 42 (.if_icmp .lt 8) 45 50, ip_n4 45 (.iload_n 2) 46 2, ip_n4 46 (.iload_n 3) 47 3, ip_n4 47 (.if_icmp .le 5) 50 52, ip_n9 50 (.iconst 0) 51 0 0 0 0 (.int 0) [], ip_n7 51 .ireturn 52 0 0 3 0, ip_n4 52 (.iload_n 1) 53 1, ip_n9 53 (.iconst 2) 54 0 0 0 0 (.int 2) [], ip_n4 54 (.if_icmp .lt 29) 57 83, ip_n4 57 (.iload_n 2) 58 2, ip_n9 58 (.iconst 1) 59 0 0 0 0 (.int 1) [], ip_n4 59 (.if_icmp .ge 24) 62 83, ip_n4 62 (.aload_n 0) 63 0, ip_n4 63 (.iload_n 1) 64 1, ip_n9 64 (.iconst 1) 65 0 0 0 0 (.int 1) [], ip_n4 65 .isub 66 0, ip_n9 66 (.iconst 0) 67 0 0 0 0 (.int 0) [], ip_n7 67 (.invokevirtual 30) 70 106 3 1 90, ip_n4 70 (.aload_n 0) 71 0, ip_n4 71 (.iload_n 1) 72 1, ip_n9 72 (.iconst 1) 73 0 0 0 0 (.int 1) [], ip_n4 73 .isub 74 0, ip_n9 74 (.iconst 1) 75 0 0 0 0 (.int 1) [], ip_n7 75 (.invokevirtual 30) 78 106 3 1 90, ip_n4 78 (.if_icmp .ne 5) 81 83, ip_n9 81 (.iconst 0) 82 0 0 0 0 (.int 0) [], ip_n7 82 .ireturn 83 0 0 3 0, ip_n9 83 (.iinc 1 1) 86 1 0 0 0 (.int 1) [], ip_n4 86 (.goto (-84)) 89 2, ip_n9 89 (.iconst 1) 90 0 0 0 0 (.int 1) [], ip_n7 90 .ireturn 91 0 0 3 0]
set_option maxRecDepth 100000 in
noncomputable def ip_c109 : List (Nat × ip_E) := [ip_n4 0 (.aload_n 0) 1 0, ip_n7 1 (.invokespecial 3) 4 0 0 6 3, ip_n4 4 (.aload_n 0) 5 0, ip_n7 5 (.new 9) 8 2 5 0 0, ip_n4 8 .dup 9 0, ip_n7 9 (.invokespecial 11) 12 38 1 5 92, ip_n7 12 (.putfield 12) 15 10 0 2 68, ip_n4 15 (.aload_n 0) 16 0, ip_n9 16 (.bipush 6) 18 0 0 0 0 (.int 6) [], ip_n4 18 (.anewarray 18) 21 4, ip_n7 21 (.putfield 20) 24 10 1 2 69, ip_n4 24 (.aload_n 0) 25 0, ip_n7 25 (.new 24) 28 1 15 0 0, ip_n4 28 .dup 29 0, ip_n7 29 (.invokespecial 26) 32 10 1 5 93, ip_n7 32 (.putfield 27) 35 10 2 2 70, ip_n4 35 (.aload_n 0) 36 0, ip_n7 36 (.new 31) 39 9 2 0 0, ip_n4 39 .dup 40 0, ip_n7 40 (.invokespecial 33) 43 103 1 5 94, ip_n7 43 (.putfield 34) 46 10 3 2 71, ip_n4 46 (.aload_n 0) 47 0, ip_n7 47 (.new 38) 50 6 5 0 0, ip_n4 50 .dup 51 0, ip_n7 51 (.invokespecial 40) 54 77 1 5 95, ip_n7 54 (.putfield 41) 57 10 4 2 72, ip_n4 57 (.aload_n 0) 58 0, ip_n7 58 (.new 45) 61 3 6 0 0, ip_n4 61 .dup 62 0, ip_n7 62 (.invokespecial 47) 65 54 1 2 96, ip_n7 65 (.putfield 48) 68 10 5 2 73, ip_n4 68 (.aload_n 0) 69 0, ip_n7 69 (.new 52) 72 7 2 0 0, ip_n4 72 .dup 73 0, ip_n7 73 (.invokespecial 54) 76 88 1 5 97, ip_n7 76 (.putfield 55) 79 10 6 2 74, ip_n4 79 (.aload_n 0) 80 0, ip_n9 80 (.iconst 0) 81 0 0 0 0 (.int 0) [], ip_n7 81 (.putfield 59) 84 10 7 0 75, ip_n4 84 (.aload_n 0) 85 0, ip_n7 85 (.new 24) 88 1 15 0 0, ip_n4 88 .dup 89 0, ip_n7 89 (.invokespecial 26) 92 10 1 5 93, ip_n7 92 (.putfield 63) 95 10 8 2 76, ip_n4 95 (.aload_n 0) 96 0, ip_n7 96 (.new 9) 99 2 5 0 0, ip_n4 99 .dup 100 0, ip_n7 100 (.invokespecial 11) 103 38 1 5 92, ip_n7 103 (.putfield 66) 106 10 9 2 77, ip_n4 106 (.aload_n 0) 107 0, ip_n7 107 (.new 69) 110 4 1 0 0, ip_n4 110 .dup 111 0, ip_n7 111 (.invokespecial 71) 114 60 1 5 98, ip_n7 114 (.putfield 72) 117 10 10 2 78, ip_n4 117 (.aload_n 0) 118 0, ip_n7 118 (.new 76) 121 0 2 0 0, ip_n4 121 .dup 122 0, ip_n7 122 (.invokespecial 78) 125 0 1 5 99, ip_n7 125 (.putfield 79) 128 10 11 2 79, ip_n4 128 (.aload_n 0) 129 0, ip_n7 129 (.new 18) 132 8 4 0 0, ip_n4 132 .dup 133 0, ip_n7 133 (.invokespecial 83) 136 92 1 5 100, ip_n7 136 (.putfield 84) 139 10 12 2 80, ip_n4 139 (.aload_n 0) 140 0, ip_n7 140 (.new 18) 143 8 4 0 0, ip_n4 143 .dup 144 0, ip_n7 144 (.invokespecial 83) 147 92 1 5 100, ip_n7 147 (.putfield 88) 150 10 13 2 81, ip_n9 150 (.iconst 0) 151 0 0 0 0 (.int 0) [], ip_n4 151 (.istore_n 1) 152 1, ip_n4 152 (.iload_n 1) 153 1, ip_n9 153 (.bipush 6) 155 0 0 0 0 (.int 6) [], ip_n4 155 (.if_icmp .ge 22) 158 177, ip_n4 158 (.aload_n 0) 159 0, ip_n7 159 (.getfield 20) 162 10 1 2 69, ip_n4 162 (.iload_n 1) 163 1, ip_n7 163 (.new 18) 166 8 4 0 0, ip_n4 166 .dup 167 0, ip_n7 167 (.invokespecial 83) 170 92 1 5 100, ip_n4 170 .aastore 171 0, ip_n9 171 (.iinc 1 1) 174 1 0 0 0 (.int 1) [], ip_n4 174 (.goto (-22)) 177 152, ip_n4 177 .return_ 178 0]
set_option maxRecDepth 100000 in
noncomputable def ip_d110_0 : List (Nat × ip_E) := [ip_n4 0 (.iload_n 1) 1 1, ip_n4 1 .i2l 2 0, ip_n4 2 (.iload_n 2) 3 2, ip_n4 3 .i2l 4 0, ip_n4 4 (.iload_n 3) 5 3, ip_n4 5 .i2l 6 0, ip_n7 6 (.invokestatic 91) 9 39 3 0 101, ip_n4 9 (.ifCond .ne 12) 12 21, ip_n4 12 (.aload_n 0) 13 0, ip_n7 13 (.getfield 55) 16 10 6 2 74, ip_n9 16 (.iconst (-1)) 17 0 0 0 0 (.int (-1)) [], ip_n7 17 (.invokevirtual 95) 20 89 2 1 102, ip_n4 20 .ireturn 21 0, ip_n4 21 (.iload_n 1) 22 1, ip_n4 22 .i2l 23 0, ip_n4 23 (.iload_n 2) 24 2, ip_n4 24 .i2l 25 0, ip_n4 25 (.iload_n 3) 26 3, ip_n4 26 .i2l 27 0, ip_n7 27 (.invokestatic 99) 30 40 3 0 103, ip_n4 30 (.ifCond .ne 13) 33 43, ip_n4 33 (.aload_n 0) 34 0, ip_n7 34 (.getfield 55) 37 10 6 2 74, ip_n9 37 (.bipush (-4)) 39 0 0 0 0 (.int (-4)) []]
set_option maxRecDepth 100000 in
noncomputable def ip_d110_1 : List (Nat × ip_E) := [ip_n7 39 (.invokevirtual 95) 42 89 2 1 102, ip_n4 42 .ireturn 43 0, ip_n4 43 (.aload_n 0) 44 0, ip_n9 44 (.iconst 0) 45 0 0 0 0 (.int 0) [], ip_n7 45 (.invokevirtual 102) 48 153 2 1 104, ip_n4 48 (.aload_n 0) 49 0, ip_n4 49 (.iload_n 1) 50 1, ip_n4 50 (.iload_n 2) 51 2, ip_n4 51 (.iload_n 3) 52 3, ip_n7 52 (.invokevirtual 106) 55 154 4 1 105, ip_n4 55 (.aload_n 0) 56 0, ip_n7 56 (.getfield 55) 59 10 6 2 74, ip_n4 59 (.aload_n 0) 60 0, ip_n7 60 (.getfield 12) 63 10 0 2 68, ip_n7 63 (.invokevirtual 110) 66 43 1 1 106, ip_n7 66 (.invokevirtual 114) 69 90 2 1 107, ip_n4 69 .ireturn 70 0]
set_option maxRecDepth 100000 in
noncomputable def ip_c110 : List (Nat × ip_E) := ip_d110_0 ++ (ip_d110_1)
set_option maxRecDepth 100000 in
noncomputable def ip_c111 : List (Nat × ip_E) := [ip_n4 0 (.iload_n 1) 1 1, ip_n4 1 (.ifCond .lt 8) 4 9, ip_n4 4 (.iload_n 1) 5 1, ip_n9 5 (.iconst 1) 6 0 0 0 0 (.int 1) [], ip_n4 6 (.if_icmp .le 12) 9 18, ip_n4 9 (.aload_n 0) 10 0, ip_n7 10 (.getfield 55) 13 10 6 2 74, ip_n9 13 (.iconst (-1)) 14 0 0 0 0 (.int (-1)) [], ip_n7 14 (.invokevirtual 95) 17 89 2 1 102, ip_n4 17 .ireturn 18 0, ip_n4 18 (.aload_n 0) 19 0, ip_n7 19 (.getfield 59) 22 10 7 0 75, ip_n4 22 (.istore_n 2) 23 2, ip_n4 23 (.aload_n 0) 24 0, ip_n4 24 (.iload_n 1) 25 1, ip_n7 25 (.putfield 59) 28 10 7 0 75, ip_n4 28 (.aload_n 0) 29 0, ip_n7 29 (.getfield 55) 32 10 6 2 74, ip_n4 32 (.iload_n 2) 33 2, ip_n7 33 (.invokevirtual 114) 36 90 2 1 107, ip_n4 36 .ireturn 37 0]
set_option maxRecDepth 100000 in
noncomputable def ip_d112_0 : List (Nat × ip_E) := [ip_n4 0 (.iload_n 2) 1 2, ip_n9 1 (.sipush 150) 4 0 0 0 0 (.int 150) [], ip_n7 4 (.invokestatic 117) 7 155 2 0 108, ip_n4 7 (.ifCond .eq 24) 10 31, ip_n4 10 (.iload_n 3) 11 3, ip_n9 11 (.sipush 150) 14 0 0 0 0 (.int 150) [], ip_n7 14 (.invokestatic 117) 17 155 2 0 108, ip_n4 17 (.ifCond .eq 14) 20 31, ip_n4 20 (.iload 4) 22 4, ip_n9 22 (.sipush 150) 25 0 0 0 0 (.int 150) [], ip_n7 25 (.invokestatic 117) 28 155 2 0 108, ip_n4 28 (.ifCond .ne 12) 31 40, ip_n4 31 (.aload_n 0) 32 0, ip_n7 32 (.getfield 55) 35 10 6 2 74, ip_n9 35 (.iconst (-1)) 36 0 0 0 0 (.int (-1)) [], ip_n7 36 (.invokevirtual 95) 39 89 2 1 102, ip_n4 39 .ireturn 40 0, ip_n4 40 (.iload 5) 42 5, ip_n9 42 (.sipush 150) 45 0 0 0 0 (.int 150) [], ip_n7 45 (.invokestatic 117) 48 155 2 0 108, ip_n4 48 (.ifCond .eq 8) 51 56, ip_n4 51 (.iload 5) 53 5, ip_n4 53 (.ifCond .ne 12) 56 65, ip_n4 56 (.aload_n 0) 57 0]
set_option maxRecDepth 100000 in
noncomputable def ip_d112_1 : List (Nat × ip_E) := [ip_n7 57 (.getfield 55) 60 10 6 2 74, ip_n9 60 (.iconst (-1)) 61 0 0 0 0 (.int (-1)) [], ip_n7 61 (.invokevirtual 95) 64 89 2 1 102, ip_n4 64 .ireturn 65 0, ip_n4 65 (.iload_n 1) 66 1, ip_n7 66 (.invokestatic 121) 69 156 1 0 109, ip_n4 69 (.ifCond .ne 13) 72 82, ip_n4 72 (.aload_n 0) 73 0, ip_n7 73 (.getfield 55) 76 10 6 2 74, ip_n9 76 (.bipush (-2)) 78 0 0 0 0 (.int (-2)) [], ip_n7 78 (.invokevirtual 95) 81 89 2 1 102, ip_n4 81 .ireturn 82 0, ip_n4 82 (.aload_n 0) 83 0, ip_n9 83 (.iconst 1) 84 0 0 0 0 (.int 1) [], ip_n7 84 (.invokevirtual 102) 87 153 2 1 104, ip_n4 87 (.aload_n 0) 88 0, ip_n7 88 (.getfield 20) 91 10 1 2 69, ip_n4 91 (.iload_n 1) 92 1, ip_n4 92 .aaload 93 0, ip_n4 93 (.iload_n 2) 94 2, ip_n4 94 .i2l 95 0, ip_n4 95 (.iload_n 3) 96 3, ip_n4 96 .i2l 97 0, ip_n4 97 (.iload 4) 99 4]
set_option maxRecDepth 100000 in
noncomputable def ip_d112_2 : List (Nat × ip_E) := [ip_n4 99 .i2l 100 0, ip_n4 100 (.iload 5) 102 5, ip_n4 102 .i2l 103 0, ip_n7 103 (.invokevirtual 125) 106 93 5 1 110, ip_n4 106 (.aload_n 0) 107 0, ip_n7 107 (.getfield 55) 110 10 6 2 74, ip_n4 110 (.aload_n 0) 111 0, ip_n7 111 (.getfield 12) 114 10 0 2 68, ip_n4 114 (.aload_n 0) 115 0, ip_n7 115 (.getfield 20) 118 10 1 2 69, ip_n4 118 (.iload_n 1) 119 1, ip_n4 119 .aaload 120 0, ip_n7 120 (.invokevirtual 129) 123 49 2 1 111, ip_n7 123 (.invokevirtual 114) 126 90 2 1 107, ip_n4 126 .ireturn 127 0]
set_option maxRecDepth 100000 in
noncomputable def ip_c112 : List (Nat × ip_E) := ip_d112_0 ++ (ip_d112_1 ++ (ip_d112_2))
set_option maxRecDepth 100000 in
noncomputable def ip_d113_0 : List (Nat × ip_E) := [ip_n4 0 (.iload_n 1) 1 1, ip_n7 1 (.invokestatic 121) 4 156 1 0 109, ip_n4 4 (.ifCond .ne 13) 7 17, ip_n4 7 (.aload_n 0) 8 0, ip_n7 8 (.getfield 55) 11 10 6 2 74, ip_n9 11 (.bipush (-2)) 13 0 0 0 0 (.int (-2)) [], ip_n7 13 (.invokevirtual 95) 16 89 2 1 102, ip_n4 16 .ireturn 17 0, ip_n4 17 (.aload_n 0) 18 0, ip_n7 18 (.getfield 84) 21 10 12 2 80, ip_n4 21 (.lload_n 2) 22 2, ip_n7 22 (.invokevirtual 133) 25 94 2 1 112, ip_n4 25 (.ifCond .ne 13) 28 38, ip_n4 28 (.aload_n 0) 29 0, ip_n7 29 (.getfield 55) 32 10 6 2 74, ip_n9 32 (.bipush (-5)) 34 0 0 0 0 (.int (-5)) [], ip_n7 34 (.invokevirtual 95) 37 89 2 1 102, ip_n4 37 .ireturn 38 0, ip_n4 38 (.aload_n 0) 39 0, ip_n9 39 (.iconst 2) 40 0 0 0 0 (.int 2) [], ip_n7 40 (.invokevirtual 102) 43 153 2 1 104, ip_n4 43 (.aload_n 0) 44 0, ip_n7 44 (.getfield 20) 47 10 1 2 69, ip_n4 47 (.iload_n 1) 48 1]
set_option maxRecDepth 100000 in
noncomputable def ip_d113_1 : List (Nat × ip_E) := [ip_n4 48 .aaload 49 0, ip_n4 49 (.aload_n 0) 50 0, ip_n7 50 (.getfield 84) 53 10 12 2 80, ip_n7 53 (.invokevirtual 137) 56 95 2 1 113, ip_n4 56 (.aload_n 0) 57 0, ip_n7 57 (.getfield 55) 60 10 6 2 74, ip_n4 60 (.aload_n 0) 61 0, ip_n7 61 (.getfield 12) 64 10 0 2 68, ip_n4 64 (.aload_n 0) 65 0, ip_n7 65 (.getfield 20) 68 10 1 2 69, ip_n4 68 (.iload_n 1) 69 1, ip_n4 69 .aaload 70 0, ip_n7 70 (.invokevirtual 129) 73 49 2 1 111, ip_n7 73 (.invokevirtual 114) 76 90 2 1 107, ip_n4 76 .ireturn 77 0]
set_option maxRecDepth 100000 in
noncomputable def ip_c113 : List (Nat × ip_E) := ip_d113_0 ++ (ip_d113_1)
set_option maxRecDepth 100000 in
noncomputable def ip_d114_0 : List (Nat × ip_E) := [ip_n4 0 (.iload_n 1) 1 1, ip_n4 1 (.ifCond .lt 8) 4 9, ip_n4 4 (.iload_n 1) 5 1, ip_n9 5 (.iconst 3) 6 0 0 0 0 (.int 3) [], ip_n4 6 (.if_icmp .le 12) 9 18, ip_n4 9 (.aload_n 0) 10 0, ip_n7 10 (.getfield 55) 13 10 6 2 74, ip_n9 13 (.iconst (-1)) 14 0 0 0 0 (.int (-1)) [], ip_n7 14 (.invokevirtual 95) 17 89 2 1 102, ip_n4 17 .ireturn 18 0, ip_n4 18 (.iload_n 2) 19 2, ip_n7 19 (.invokestatic 121) 22 156 1 0 109, ip_n4 22 (.ifCond .eq 18) 25 40, ip_n4 25 (.iload_n 3) 26 3, ip_n7 26 (.invokestatic 121) 29 156 1 0 109, ip_n4 29 (.ifCond .eq 11) 32 40, ip_n4 32 (.iload 4) 34 4, ip_n7 34 (.invokestatic 121) 37 156 1 0 109, ip_n4 37 (.ifCond .ne 13) 40 50, ip_n4 40 (.aload_n 0) 41 0, ip_n7 41 (.getfield 55) 44 10 6 2 74, ip_n9 44 (.bipush (-2)) 46 0 0 0 0 (.int (-2)) [], ip_n7 46 (.invokevirtual 95) 49 89 2 1 102, ip_n4 49 .ireturn 50 0]
set_option maxRecDepth 100000 in
noncomputable def ip_d114_1 : List (Nat × ip_E) := [ip_n4 50 (.iload_n 1) 51 1, ip_n9 51 (.iconst 3) 52 0 0 0 0 (.int 3) [], ip_n4 52 (.if_icmp .ne 25) 55 77, ip_n4 55 (.aload_n 0) 56 0, ip_n7 56 (.getfield 20) 59 10 1 2 69, ip_n4 59 (.iload_n 3) 60 3, ip_n4 60 .aaload 61 0, ip_n7 61 (.invokevirtual 141) 64 101 1 1 114, ip_n4 64 (.ifCond .eq 13) 67 77, ip_n4 67 (.aload_n 0) 68 0, ip_n7 68 (.getfield 55) 71 10 6 2 74, ip_n9 71 (.bipush (-4)) 73 0 0 0 0 (.int (-4)) [], ip_n7 73 (.invokevirtual 95) 76 89 2 1 102, ip_n4 76 .ireturn 77 0, ip_n4 77 (.aload_n 0) 78 0, ip_n4 78 (.iload_n 1) 79 1, ip_n4 79 (.aload_n 0) 80 0, ip_n7 80 (.getfield 20) 83 10 1 2 69, ip_n4 83 (.iload_n 2) 84 2, ip_n4 84 .aaload 85 0, ip_n4 85 (.aload_n 0) 86 0, ip_n7 86 (.getfield 20) 89 10 1 2 69, ip_n4 89 (.iload_n 3) 90 3, ip_n4 90 .aaload 91 0]
set_option maxRecDepth 100000 in
noncomputable def ip_d114_2 : List (Nat × ip_E) := [ip_n7 91 (.invokevirtual 145) 94 158 4 1 115, ip_n4 94 (.aload_n 0) 95 0, ip_n7 95 (.getfield 84) 98 10 12 2 80, ip_n7 98 (.invokevirtual 149) 101 99 1 1 116, ip_n4 101 (.ifCond .ne 13) 104 114, ip_n4 104 (.aload_n 0) 105 0, ip_n7 105 (.getfield 55) 108 10 6 2 74, ip_n9 108 (.bipush (-5)) 110 0 0 0 0 (.int (-5)) [], ip_n7 110 (.invokevirtual 95) 113 89 2 1 102, ip_n4 113 .ireturn 114 0, ip_n4 114 (.aload_n 0) 115 0, ip_n9 115 (.iconst 3) 116 0 0 0 0 (.int 3) [], ip_n7 116 (.invokevirtual 102) 119 153 2 1 104, ip_n4 119 (.aload_n 0) 120 0, ip_n7 120 (.getfield 20) 123 10 1 2 69, ip_n4 123 (.iload 4) 125 4, ip_n4 125 .aaload 126 0, ip_n4 126 (.aload_n 0) 127 0, ip_n7 127 (.getfield 84) 130 10 12 2 80, ip_n7 130 (.invokevirtual 137) 133 95 2 1 113, ip_n4 133 (.aload_n 0) 134 0, ip_n7 134 (.getfield 55) 137 10 6 2 74, ip_n4 137 (.aload_n 0) 138 0, ip_n7 138 (.getfield 12) 141 10 0 2 68]
set_option maxRecDepth 100000 in
noncomputable def ip_d114_3 : List (Nat × ip_E) := [ip_n4 141 (.aload_n 0) 142 0, ip_n7 142 (.getfield 20) 145 10 1 2 69, ip_n4 145 (.iload 4) 147 4, ip_n4 147 .aaload 148 0, ip_n7 148 (.invokevirtual 129) 151 49 2 1 111, ip_n7 151 (.invokevirtual 114) 154 90 2 1 107, ip_n4 154 .ireturn 155 0]
set_option maxRecDepth 100000 in
noncomputable def ip_c114 : List (Nat × ip_E) := ip_d114_0 ++ (ip_d114_1 ++ (ip_d114_2 ++ (ip_d114_3)))
set_option maxRecDepth 100000 in
noncomputable def ip_d115_0 : List (Nat × ip_E) := [ip_n4 0 (.iload_n 1) 1 1, ip_n7 1 (.invokestatic 121) 4 156 1 0 109, ip_n4 4 (.ifCond .eq 10) 7 14, ip_n4 7 (.iload_n 2) 8 2, ip_n7 8 (.invokestatic 121) 11 156 1 0 109, ip_n4 11 (.ifCond .ne 13) 14 24, ip_n4 14 (.aload_n 0) 15 0, ip_n7 15 (.getfield 55) 18 10 6 2 74, ip_n9 18 (.bipush (-2)) 20 0 0 0 0 (.int (-2)) [], ip_n7 20 (.invokevirtual 95) 23 89 2 1 102, ip_n4 23 .ireturn 24 0, ip_n4 24 (.aload_n 0) 25 0, ip_n7 25 (.getfield 12) 28 10 0 2 68, ip_n4 28 (.aload_n 0) 29 0, ip_n7 29 (.getfield 20) 32 10 1 2 69, ip_n4 32 (.iload_n 1) 33 1, ip_n4 33 .aaload 34 0, ip_n4 34 (.aload_n 0) 35 0, ip_n7 35 (.getfield 20) 38 10 1 2 69, ip_n4 38 (.iload_n 2) 39 2, ip_n4 39 .aaload 40 0, ip_n7 40 (.invokestatic 151) 43 18 3 0 117, ip_n4 43 (.ifCond .ne 13) 46 56, ip_n4 46 (.aload_n 0) 47 0]
set_option maxRecDepth 100000 in
noncomputable def ip_d115_1 : List (Nat × ip_E) := [ip_n7 47 (.getfield 55) 50 10 6 2 74, ip_n9 50 (.bipush (-4)) 52 0 0 0 0 (.int (-4)) [], ip_n7 52 (.invokevirtual 95) 55 89 2 1 102, ip_n4 55 .ireturn 56 0, ip_n4 56 (.aload_n 0) 57 0, ip_n9 57 (.iconst 4) 58 0 0 0 0 (.int 4) [], ip_n7 58 (.invokevirtual 102) 61 153 2 1 104, ip_n4 61 (.aload_n 0) 62 0, ip_n7 62 (.getfield 27) 65 10 2 2 70, ip_n4 65 (.aload_n 0) 66 0, ip_n7 66 (.getfield 12) 69 10 0 2 68, ip_n4 69 (.aload_n 0) 70 0, ip_n7 70 (.getfield 20) 73 10 1 2 69, ip_n4 73 (.iload_n 1) 74 1, ip_n4 74 .aaload 75 0, ip_n4 75 (.aload_n 0) 76 0, ip_n7 76 (.getfield 20) 79 10 1 2 69, ip_n4 79 (.iload_n 2) 80 2, ip_n4 80 .aaload 81 0, ip_n4 81 (.aload_n 0) 82 0, ip_n7 82 (.getfield 59) 85 10 7 0 75, ip_n7 85 (.invokevirtual 155) 88 20 5 1 118, ip_n4 88 (.aload_n 0) 89 0, ip_n7 89 (.getfield 55) 92 10 6 2 74]
set_option maxRecDepth 100000 in
noncomputable def ip_d115_2 : List (Nat × ip_E) := [ip_n4 92 (.aload_n 0) 93 0, ip_n7 93 (.getfield 27) 96 10 2 2 70, ip_n9 96 (.iconst 0) 97 0 0 0 0 (.int 0) [], ip_n9 97 (.iconst 0) 98 0 0 0 0 (.int 0) [], ip_n7 98 (.invokevirtual 159) 101 15 3 1 119, ip_n7 101 (.invokevirtual 114) 104 90 2 1 107, ip_n4 104 .ireturn 105 0]
set_option maxRecDepth 100000 in
noncomputable def ip_c115 : List (Nat × ip_E) := ip_d115_0 ++ (ip_d115_1 ++ (ip_d115_2))
set_option maxRecDepth 100000 in
noncomputable def ip_c116 : List (Nat × ip_E) := [ip_n4 0 (.aload_n 0) 1 0, ip_n7 1 (.getfield 27) 4 10 2 2 70, ip_n4 4 (.aload_n 0) 5 0, ip_n7 5 (.getfield 12) 8 10 0 2 68, ip_n7 8 (.invokevirtual 163) 11 25 2 1 120, ip_n4 11 (.istore_n 1) 12 1, ip_n4 12 (.iload_n 1) 13 1, ip_n4 13 (.ifCond .eq 12) 16 25, ip_n4 16 (.aload_n 0) 17 0, ip_n7 17 (.getfield 55) 20 10 6 2 74, ip_n4 20 (.iload_n 1) 21 1, ip_n7 21 (.invokevirtual 95) 24 89 2 1 102, ip_n4 24 .ireturn 25 0, ip_n4 25 (.aload_n 0) 26 0, ip_n9 26 (.iconst 5) 27 0 0 0 0 (.int 5) [], ip_n7 27 (.invokevirtual 102) 30 153 2 1 104, ip_n4 30 (.aload_n 0) 31 0, ip_n7 31 (.getfield 27) 34 10 2 2 70, ip_n7 34 (.invokevirtual 167) 37 27 1 1 121, ip_n4 37 (.aload_n 0) 38 0, ip_n7 38 (.getfield 55) 41 10 6 2 74, ip_n4 41 (.aload_n 0) 42 0, ip_n7 42 (.getfield 27) 45 10 2 2 70, ip_n7 45 (.getfield 170) 48 1 4 0 82, ip_n7 48 (.invokevirtual 114) 51 90 2 1 107, ip_n4 51 .ireturn 52 0]
set_option maxRecDepth 100000 in
noncomputable def ip_d117_0 : List (Nat × ip_E) := [ip_n4 0 (.iload_n 1) 1 1, ip_n9 1 (.iconst 1) 2 0 0 0 0 (.int 1) [], ip_n4 2 (.if_icmp .lt 9) 5 11, ip_n4 5 (.iload_n 1) 6 1, ip_n9 6 (.bipush 60) 8 0 0 0 0 (.int 60) [], ip_n4 8 (.if_icmp .le 12) 11 20, ip_n4 11 (.aload_n 0) 12 0, ip_n7 12 (.getfield 55) 15 10 6 2 74, ip_n9 15 (.iconst (-1)) 16 0 0 0 0 (.int (-1)) [], ip_n7 16 (.invokevirtual 95) 19 89 2 1 102, ip_n4 19 .ireturn 20 0, ip_n4 20 (.aload_n 0) 21 0, ip_n7 21 (.getfield 27) 24 10 2 2 70, ip_n4 24 (.aload_n 0) 25 0, ip_n7 25 (.getfield 12) 28 10 0 2 68, ip_n7 28 (.invokevirtual 163) 31 25 2 1 120, ip_n4 31 (.istore_n 2) 32 2, ip_n4 32 (.iload_n 2) 33 2, ip_n4 33 (.ifCond .eq 12) 36 45, ip_n4 36 (.aload_n 0) 37 0, ip_n7 37 (.getfield 55) 40 10 6 2 74, ip_n4 40 (.iload_n 2) 41 2, ip_n7 41 (.invokevirtual 95) 44 89 2 1 102, ip_n4 44 .ireturn 45 0]
set_option maxRecDepth 100000 in
noncomputable def ip_d117_1 : List (Nat × ip_E) := [ip_n4 45 (.aload_n 0) 46 0, ip_n9 46 (.bipush 6) 48 0 0 0 0 (.int 6) [], ip_n7 48 (.invokevirtual 102) 51 153 2 1 104, ip_n4 51 (.aload_n 0) 52 0, ip_n7 52 (.getfield 27) 55 10 2 2 70, ip_n7 55 (.invokevirtual 173) 58 12 1 1 122, ip_n4 58 (.istore_n 3) 59 3, ip_n9 59 (.iconst 0) 60 0 0 0 0 (.int 0) [], ip_n4 60 (.istore 4) 62 4, ip_n9 62 (.iconst 0) 63 0 0 0 0 (.int 0) [], ip_n4 63 (.istore 5) 65 5, ip_n4 65 (.iload 5) 67 5, ip_n4 67 (.iload_n 1) 68 1, ip_n4 68 (.if_icmp .ge 58) 71 126, ip_n4 71 (.iload 5) 73 5, ip_n4 73 (.ifCond .le 20) 76 93, ip_n4 76 (.aload_n 0) 77 0, ip_n7 77 (.getfield 27) 80 10 2 2 70, ip_n4 80 (.aload_n 0) 81 0, ip_n7 81 (.getfield 12) 84 10 0 2 68, ip_n7 84 (.invokevirtual 163) 87 25 2 1 120, ip_n4 87 (.ifCond .eq 6) 90 93, ip_n4 90 (.goto 36) 93 126, ip_n4 93 (.aload_n 0) 94 0]
set_option maxRecDepth 100000 in
noncomputable def ip_d117_2 : List (Nat × ip_E) := [ip_n7 94 (.getfield 27) 97 10 2 2 70, ip_n7 97 (.invokevirtual 167) 100 27 1 1 121, ip_n9 100 (.iinc 4 1) 103 4 0 0 0 (.int 1) [], ip_n4 103 (.iload_n 3) 104 3, ip_n4 104 (.ifCond .ne 16) 107 120, ip_n4 107 (.aload_n 0) 108 0, ip_n7 108 (.getfield 27) 111 10 2 2 70, ip_n7 111 (.invokevirtual 173) 114 12 1 1 122, ip_n4 114 (.ifCond .eq 6) 117 120, ip_n4 117 (.goto 9) 120 126, ip_n9 120 (.iinc 5 1) 123 5 0 0 0 (.int 1) [], ip_n4 123 (.goto (-58)) 126 65, ip_n4 126 (.aload_n 0) 127 0, ip_n7 127 (.getfield 55) 130 10 6 2 74, ip_n4 130 (.iload 4) 132 4, ip_n7 132 (.invokevirtual 114) 135 90 2 1 107, ip_n4 135 .ireturn 136 0]
set_option maxRecDepth 100000 in
noncomputable def ip_c117 : List (Nat × ip_E) := ip_d117_0 ++ (ip_d117_1 ++ (ip_d117_2))
set_option maxRecDepth 100000 in
noncomputable def ip_d118_0 : List (Nat × ip_E) := [ip_n4 0 (.iload_n 1) 1 1, ip_n7 1 (.invokestatic 121) 4 156 1 0 109, ip_n4 4 (.ifCond .eq 10) 7 14, ip_n4 7 (.iload_n 2) 8 2, ip_n7 8 (.invokestatic 121) 11 156 1 0 109, ip_n4 11 (.ifCond .ne 13) 14 24, ip_n4 14 (.aload_n 0) 15 0, ip_n7 15 (.getfield 55) 18 10 6 2 74, ip_n9 18 (.bipush (-2)) 20 0 0 0 0 (.int (-2)) [], ip_n7 20 (.invokevirtual 95) 23 89 2 1 102, ip_n4 23 .ireturn 24 0, ip_n4 24 (.aload_n 0) 25 0, ip_n7 25 (.getfield 27) 28 10 2 2 70, ip_n7 28 (.invokevirtual 176) 31 11 1 1 123, ip_n4 31 (.ifCond .ne 13) 34 44, ip_n4 34 (.aload_n 0) 35 0, ip_n7 35 (.getfield 55) 38 10 6 2 74, ip_n9 38 (.bipush (-3)) 40 0 0 0 0 (.int (-3)) [], ip_n7 40 (.invokevirtual 95) 43 89 2 1 102, ip_n4 43 .ireturn 44 0, ip_n4 44 (.aload_n 0) 45 0, ip_n9 45 (.bipush 7) 47 0 0 0 0 (.int 7) [], ip_n7 47 (.invokevirtual 102) 50 153 2 1 104, ip_n4 50 (.aload_n 0) 51 0]
set_option maxRecDepth 100000 in
noncomputable def ip_d118_1 : List (Nat × ip_E) := [ip_n7 51 (.getfield 27) 54 10 2 2 70, ip_n4 54 (.aload_n 0) 55 0, ip_n7 55 (.getfield 27) 58 10 2 2 70, ip_n7 58 (.getfield 170) 61 1 4 0 82, ip_n9 61 (.iconst 0) 62 0 0 0 0 (.int 0) [], ip_n4 62 (.aload_n 0) 63 0, ip_n7 63 (.getfield 20) 66 10 1 2 69, ip_n4 66 (.iload_n 1) 67 1, ip_n4 67 .aaload 68 0, ip_n7 68 (.invokevirtual 179) 71 16 4 1 124, ip_n4 71 (.aload_n 0) 72 0, ip_n7 72 (.getfield 27) 75 10 2 2 70, ip_n4 75 (.aload_n 0) 76 0, ip_n7 76 (.getfield 27) 79 10 2 2 70, ip_n7 79 (.getfield 170) 82 1 4 0 82, ip_n9 82 (.iconst 1) 83 0 0 0 0 (.int 1) [], ip_n4 83 (.aload_n 0) 84 0, ip_n7 84 (.getfield 20) 87 10 1 2 69, ip_n4 87 (.iload_n 2) 88 2, ip_n4 88 .aaload 89 0, ip_n7 89 (.invokevirtual 179) 92 16 4 1 124, ip_n4 92 (.aload_n 0) 93 0, ip_n7 93 (.getfield 55) 96 10 6 2 74, ip_n4 96 (.aload_n 0) 97 0]
set_option maxRecDepth 100000 in
noncomputable def ip_d118_2 : List (Nat × ip_E) := [ip_n7 97 (.getfield 27) 100 10 2 2 70, ip_n4 100 (.aload_n 0) 101 0, ip_n7 101 (.getfield 27) 104 10 2 2 70, ip_n7 104 (.getfield 170) 107 1 4 0 82, ip_n9 107 (.iconst 1) 108 0 0 0 0 (.int 1) [], ip_n7 108 (.invokevirtual 159) 111 15 3 1 119, ip_n7 111 (.invokevirtual 114) 114 90 2 1 107, ip_n4 114 .ireturn 115 0]
set_option maxRecDepth 100000 in
noncomputable def ip_c118 : List (Nat × ip_E) := ip_d118_0 ++ (ip_d118_1 ++ (ip_d118_2))
set_option maxRecDepth 100000 in
noncomputable def ip_c119 : List (Nat × ip_E) := [ip_n4 0 (.aload_n 0) 1 0, ip_n7 1 (.getfield 41) 4 10 4 2 72, ip_n9 4 (.bipush 20) 6 0 0 0 0 (.int 20) [], ip_n7 6 (.invokevirtual 183) 9 78 2 1 125, ip_n4 9 (.ifCond .ne 5) 12 14, ip_n9 12 (.iconst (-1)) 13 0 0 0 0 (.int (-1)) [], ip_n4 13 .ireturn 14 0, ip_n4 14 (.aload_n 0) 15 0, ip_n7 15 (.getfield 41) 18 10 4 2 72, ip_n4 18 (.iload_n 1) 19 1, ip_n7 19 (.invokevirtual 186) 22 79 2 1 126, ip_n4 22 (.aload_n 0) 23 0, ip_n7 23 (.getfield 41) 26 10 4 2 72, ip_n4 26 (.iload_n 2) 27 2, ip_n7 27 (.invokevirtual 186) 30 79 2 1 126, ip_n4 30 (.aload_n 0) 31 0, ip_n7 31 (.getfield 41) 34 10 4 2 72, ip_n4 34 (.iload_n 3) 35 3, ip_n7 35 (.invokevirtual 186) 38 79 2 1 126, ip_n4 38 (.aload_n 0) 39 0, ip_n7 39 (.getfield 41) 42 10 4 2 72, ip_n4 42 (.iload 4) 44 4, ip_n7 44 (.invokevirtual 186) 47 79 2 1 126, ip_n4 47 (.aload_n 0) 48 0, ip_n7 48 (.getfield 41) 51 10 4 2 72, ip_n4 51 (.iload 5) 53 5, ip_n7 53 (.invokevirtual 186) 56 79 2 1 126, ip_n4 56 (.aload_n 0) 57 0, ip_n7 57 (.getfield 41) 60 10 4 2 72, ip_n7 60 (.getfield 189) 63 6 2 0 83, ip_n4 63 .ireturn 64 0]
set_option maxRecDepth 100000 in
noncomputable def ip_c120 : List (Nat × ip_E) := [ip_n4 0 (.aload_n 0) 1 0, ip_n7 1 (.getfield 41) 4 10 4 2 72, ip_n4 4 (.iload_n 1) 5 1, ip_n7 5 (.invokevirtual 192) 8 80 2 1 127, ip_n4 8 (.ifCond .eq 7) 11 15, ip_n4 11 (.iload_n 1) 12 1, ip_n4 12 (.goto 4) 15 16, ip_n9 15 (.iconst (-1)) 16 0 0 0 0 (.int (-1)) [], ip_n4 16 .ireturn 17 0]
set_option maxRecDepth 100000 in
noncomputable def ip_c121 : List (Nat × ip_E) := [ip_n4 0 (.aload_n 0) 1 0, ip_n7 1 (.getfield 41) 4 10 4 2 72, ip_n7 4 (.invokevirtual 195) 7 81 1 1 128, ip_n4 7 (.istore_n 1) 8 1, ip_n4 8 (.aload_n 0) 9 0, ip_n7 9 (.getfield 41) 12 10 4 2 72, ip_n9 12 (.iconst 0) 13 0 0 0 0 (.int 0) [], ip_n7 13 (.invokevirtual 192) 16 80 2 1 127, ip_n4 16 .pop 17 0, ip_n4 17 (.iload_n 1) 18 1, ip_n4 18 (.ifCond .ne 13) 21 31, ip_n4 21 (.aload_n 0) 22 0, ip_n7 22 (.getfield 55) 25 10 6 2 74, ip_n9 25 (.bipush (-6)) 27 0 0 0 0 (.int (-6)) [], ip_n7 27 (.invokevirtual 95) 30 89 2 1 102, ip_n4 30 .ireturn 31 0, ip_n4 31 (.aload_n 0) 32 0, ip_n9 32 (.bipush 8) 34 0 0 0 0 (.int 8) [], ip_n7 34 (.invokevirtual 102) 37 153 2 1 104, ip_n4 37 (.aload_n 0) 38 0, ip_n7 38 (.getfield 34) 41 10 3 2 71, ip_n4 41 (.aload_n 0) 42 0, ip_n7 42 (.getfield 41) 45 10 4 2 72, ip_n7 45 (.getfield 198) 48 6 1 2 84, ip_n7 48 (.invokevirtual 201) 51 105 2 1 129, ip_n4 51 (.aload_n 0) 52 0, ip_n7 52 (.getfield 55) 55 10 6 2 74, ip_n4 55 (.aload_n 0) 56 0, ip_n7 56 (.getfield 34) 59 10 3 2 71, ip_n7 59 (.getfield 204) 62 9 1 0 85, ip_n7 62 (.invokevirtual 114) 65 90 2 1 107, ip_n4 65 .ireturn 66 0]
set_option maxRecDepth 100000 in
noncomputable def ip_d122_0 : List (Nat × ip_E) := [ip_n4 0 (.aload_n 0) 1 0, ip_n7 1 (.getfield 34) 4 10 3 2 71, ip_n7 4 (.getfield 204) 7 9 1 0 85, ip_n4 7 (.ifCond .ne 13) 10 20, ip_n4 10 (.aload_n 0) 11 0, ip_n7 11 (.getfield 55) 14 10 6 2 74, ip_n9 14 (.bipush (-4)) 16 0 0 0 0 (.int (-4)) [], ip_n7 16 (.invokevirtual 95) 19 89 2 1 102, ip_n4 19 .ireturn 20 0, ip_n4 20 (.aload_n 0) 21 0, ip_n7 21 (.getfield 34) 24 10 3 2 71, ip_n4 24 (.aload_n 0) 25 0, ip_n7 25 (.getfield 72) 28 10 10 2 78, ip_n7 28 (.invokevirtual 205) 31 107 2 1 130, ip_n4 31 (.aload_n 0) 32 0, ip_n7 32 (.invokevirtual 209) 35 159 1 1 131, ip_n4 35 (.ifCond .ne 13) 38 48, ip_n4 38 (.aload_n 0) 39 0, ip_n7 39 (.getfield 55) 42 10 6 2 74, ip_n9 42 (.bipush (-5)) 44 0 0 0 0 (.int (-5)) [], ip_n7 44 (.invokevirtual 95) 47 89 2 1 102, ip_n4 47 .ireturn 48 0, ip_n4 48 (.aload_n 0) 49 0, ip_n9 49 (.bipush 9) 51 0 0 0 0 (.int 9) []]
set_option maxRecDepth 100000 in
noncomputable def ip_d122_1 : List (Nat × ip_E) := [ip_n7 51 (.invokevirtual 102) 54 153 2 1 104, ip_n4 54 (.aload_n 0) 55 0, ip_n4 55 (.aload_n 0) 56 0, ip_n7 56 (.getfield 66) 59 10 9 2 77, ip_n7 59 (.getfield 212) 62 2 0 0 86, ip_n4 62 (.aload_n 0) 63 0, ip_n7 63 (.getfield 66) 66 10 9 2 77, ip_n7 66 (.getfield 215) 69 2 1 0 87, ip_n4 69 (.aload_n 0) 70 0, ip_n7 70 (.getfield 66) 73 10 9 2 77, ip_n7 73 (.getfield 218) 76 2 2 0 88, ip_n7 76 (.invokevirtual 106) 79 154 4 1 105, ip_n4 79 (.aload_n 0) 80 0, ip_n7 80 (.getfield 20) 83 10 1 2 69, ip_n9 83 (.iconst 0) 84 0 0 0 0 (.int 0) [], ip_n4 84 .aaload 85 0, ip_n4 85 (.aload_n 0) 86 0, ip_n7 86 (.getfield 84) 89 10 12 2 80, ip_n7 89 (.invokevirtual 137) 92 95 2 1 113, ip_n4 92 (.aload_n 0) 93 0, ip_n7 93 (.getfield 20) 96 10 1 2 69, ip_n9 96 (.iconst 1) 97 0 0 0 0 (.int 1) [], ip_n4 97 .aaload 98 0, ip_n4 98 (.aload_n 0) 99 0]
set_option maxRecDepth 100000 in
noncomputable def ip_d122_2 : List (Nat × ip_E) := [ip_n7 99 (.getfield 88) 102 10 13 2 81, ip_n7 102 (.invokevirtual 137) 105 95 2 1 113, ip_n4 105 (.aload_n 0) 106 0, ip_n7 106 (.getfield 55) 109 10 6 2 74, ip_n4 109 (.aload_n 0) 110 0, ip_n7 110 (.getfield 12) 113 10 0 2 68, ip_n7 113 (.invokevirtual 110) 116 43 1 1 106, ip_n7 116 (.invokevirtual 114) 119 90 2 1 107, ip_n4 119 .ireturn 120 0]
set_option maxRecDepth 100000 in
noncomputable def ip_c122 : List (Nat × ip_E) := ip_d122_0 ++ (ip_d122_1 ++ (ip_d122_2))
set_option maxRecDepth 100000 in
noncomputable def ip_c123 : List (Nat × ip_E) := [ip_n4 0 (.aload_n 0) 1 0, ip_n7 1 (.getfield 41) 4 10 4 2 72, ip_n7 4 (.getfield 221) 7 6 4 0 89, ip_n4 7 .ireturn 8 0]
set_option maxRecDepth 100000 in
noncomputable def ip_c124 : List (Nat × ip_E) := [ip_n4 0 (.aload_n 0) 1 0, ip_n7 1 (.getfield 48) 4 10 5 2 73, ip_n7 4 (.getfield 224) 7 3 5 0 90, ip_n4 7 (.ifCond .ne 13) 10 20, ip_n4 10 (.aload_n 0) 11 0, ip_n7 11 (.getfield 55) 14 10 6 2 74, ip_n9 14 (.bipush (-4)) 16 0 0 0 0 (.int (-4)) [], ip_n7 16 (.invokevirtual 95) 19 89 2 1 102, ip_n4 19 .ireturn 20 0, ip_n4 20 (.aload_n 0) 21 0, ip_n7 21 (.getfield 48) 24 10 5 2 73, ip_n7 24 (.invokevirtual 227) 27 56 1 1 132, ip_n4 27 (.aload_n 0) 28 0, ip_n7 28 (.getfield 12) 31 10 0 2 68, ip_n4 31 (.aload_n 0) 32 0, ip_n7 32 (.getfield 20) 35 10 1 2 69, ip_n4 35 (.aload_n 0) 36 0, ip_n7 36 (.getfield 34) 39 10 3 2 71, ip_n4 39 (.aload_n 0) 40 0, ip_n7 40 (.getfield 27) 43 10 2 2 70, ip_n7 43 (.invokevirtual 231) 46 76 5 1 133, ip_n4 46 (.aload_n 0) 47 0, ip_n7 47 (.getfield 55) 50 10 6 2 74, ip_n4 50 (.aload_n 0) 51 0, ip_n7 51 (.getfield 48) 54 10 5 2 73, ip_n7 54 (.invokevirtual 237) 57 57 1 1 134, ip_n7 57 (.invokevirtual 114) 60 90 2 1 107, ip_n4 60 .ireturn 61 0]
set_option maxRecDepth 100000 in
noncomputable def ip_d125_0 : List (Nat × ip_E) := [ip_n4 0 (.iload_n 1) 1 1, ip_n4 1 (.ifCond .lt 8) 4 9, ip_n4 4 (.iload_n 1) 5 1, ip_n9 5 (.iconst 2) 6 0 0 0 0 (.int 2) [], ip_n4 6 (.if_icmp .lt 12) 9 18, ip_n4 9 (.aload_n 0) 10 0, ip_n7 10 (.getfield 55) 13 10 6 2 74, ip_n9 13 (.iconst (-1)) 14 0 0 0 0 (.int (-1)) [], ip_n7 14 (.invokevirtual 95) 17 89 2 1 102, ip_n4 17 .ireturn 18 0, ip_n4 18 (.aload_n 0) 19 0, ip_n7 19 (.getfield 48) 22 10 5 2 73, ip_n7 22 (.getfield 240) 25 3 2 2 91, ip_n4 25 (.iload_n 1) 26 1, ip_n4 26 .aaload 27 0, ip_n4 27 (.aload_n 0) 28 0, ip_n7 28 (.getfield 12) 31 10 0 2 68, ip_n4 31 (.aload_n 0) 32 0, ip_n7 32 (.getfield 20) 35 10 1 2 69, ip_n4 35 (.aload_n 0) 36 0, ip_n7 36 (.getfield 34) 39 10 3 2 71, ip_n4 39 (.aload_n 0) 40 0, ip_n7 40 (.getfield 27) 43 10 2 2 70, ip_n7 43 (.invokevirtual 244) 46 75 5 1 135]
set_option maxRecDepth 100000 in
noncomputable def ip_d125_1 : List (Nat × ip_E) := [ip_n4 46 (.aload_n 0) 47 0, ip_n7 47 (.getfield 48) 50 10 5 2 73, ip_n7 50 (.getfield 246) 53 3 3 2 92, ip_n4 53 (.iload_n 1) 54 1, ip_n9 54 (.iconst 1) 55 0 0 0 0 (.int 1) [], ip_n4 55 .bastore 56 0, ip_n4 56 (.aload_n 0) 57 0, ip_n7 57 (.getfield 55) 60 10 6 2 74, ip_n4 60 (.aload_n 0) 61 0, ip_n7 61 (.invokevirtual 250) 64 157 1 1 136, ip_n7 64 (.invokevirtual 114) 67 90 2 1 107, ip_n4 67 .ireturn 68 0]
set_option maxRecDepth 100000 in
noncomputable def ip_c125 : List (Nat × ip_E) := ip_d125_0 ++ (ip_d125_1)
set_option maxRecDepth 100000 in
noncomputable def ip_d126_0 : List (Nat × ip_E) := [ip_n4 0 (.iload_n 1) 1 1, ip_n4 1 (.ifCond .lt 8) 4 9, ip_n4 4 (.iload_n 1) 5 1, ip_n9 5 (.iconst 2) 6 0 0 0 0 (.int 2) [], ip_n4 6 (.if_icmp .lt 12) 9 18, ip_n4 9 (.aload_n 0) 10 0, ip_n7 10 (.getfield 55) 13 10 6 2 74, ip_n9 13 (.iconst (-1)) 14 0 0 0 0 (.int (-1)) [], ip_n7 14 (.invokevirtual 95) 17 89 2 1 102, ip_n4 17 .ireturn 18 0, ip_n4 18 (.aload_n 0) 19 0, ip_n7 19 (.getfield 48) 22 10 5 2 73, ip_n7 22 (.getfield 246) 25 3 3 2 92, ip_n4 25 (.iload_n 1) 26 1, ip_n4 26 .baload 27 0, ip_n4 27 (.ifCond .ne 13) 30 40, ip_n4 30 (.aload_n 0) 31 0, ip_n7 31 (.getfield 55) 34 10 6 2 74, ip_n9 34 (.bipush (-2)) 36 0 0 0 0 (.int (-2)) [], ip_n7 36 (.invokevirtual 95) 39 89 2 1 102, ip_n4 39 .ireturn 40 0, ip_n4 40 (.aload_n 0) 41 0, ip_n7 41 (.getfield 48) 44 10 5 2 73, ip_n7 44 (.getfield 240) 47 3 2 2 91]
set_option maxRecDepth 100000 in
noncomputable def ip_d126_1 : List (Nat × ip_E) := [ip_n4 47 (.iload_n 1) 48 1, ip_n4 48 .aaload 49 0, ip_n4 49 (.aload_n 0) 50 0, ip_n7 50 (.getfield 12) 53 10 0 2 68, ip_n4 53 (.aload_n 0) 54 0, ip_n7 54 (.getfield 20) 57 10 1 2 69, ip_n4 57 (.aload_n 0) 58 0, ip_n7 58 (.getfield 34) 61 10 3 2 71, ip_n4 61 (.aload_n 0) 62 0, ip_n7 62 (.getfield 27) 65 10 2 2 70, ip_n7 65 (.invokevirtual 231) 68 76 5 1 133, ip_n4 68 (.aload_n 0) 69 0, ip_n7 69 (.getfield 48) 72 10 5 2 73, ip_n7 72 (.invokevirtual 253) 75 58 1 1 137, ip_n4 75 (.aload_n 0) 76 0, ip_n7 76 (.getfield 55) 79 10 6 2 74, ip_n4 79 (.aload_n 0) 80 0, ip_n7 80 (.invokevirtual 250) 83 157 1 1 136, ip_n7 83 (.invokevirtual 114) 86 90 2 1 107, ip_n4 86 .ireturn 87 0]
set_option maxRecDepth 100000 in
noncomputable def ip_c126 : List (Nat × ip_E) := ip_d126_0 ++ (ip_d126_1)
set_option maxRecDepth 100000 in
noncomputable def ip_c127 : List (Nat × ip_E) := [ip_n4 0 (.iload_n 1) 1 1, ip_n7 1 (.invokestatic 121) 4 156 1 0 109, ip_n4 4 (.ifCond .ne 7) 7 11, ip_n9 7 (.ldc_w 256) 10 0 0 0 897 (.int (-2147483648)) [], ip_n4 10 .ireturn 11 0, ip_n4 11 (.iload_n 2) 12 2, ip_n9 12 (.iconst 4) 13 0 0 0 0 (.int 4) [], ip_n4 13 (.if_icmp .ne 17) 16 30, ip_n4 16 (.aload_n 0) 17 0, ip_n7 17 (.getfield 12) 20 10 0 2 68, ip_n4 20 (.aload_n 0) 21 0, ip_n7 21 (.getfield 20) 24 10 1 2 69, ip_n4 24 (.iload_n 1) 25 1, ip_n4 25 .aaload 26 0, ip_n7 26 (.invokevirtual 257) 29 46 2 1 138, ip_n4 29 .ireturn 30 0, ip_n4 30 (.iload_n 2) 31 2, ip_n9 31 (.iconst 5) 32 0 0 0 0 (.int 5) [], ip_n4 32 (.if_icmp .ne 17) 35 49, ip_n4 35 (.aload_n 0) 36 0, ip_n7 36 (.getfield 12) 39 10 0 2 68, ip_n4 39 (.aload_n 0) 40 0, ip_n7 40 (.getfield 20) 43 10 1 2 69, ip_n4 43 (.iload_n 1) 44 1, ip_n4 44 .aaload 45 0, ip_n7 45 (.invokevirtual 129) 48 49 2 1 111, ip_n4 48 .ireturn 49 0, ip_n4 49 (.aload_n 0) 50 0, ip_n7 50 (.getfield 20) 53 10 1 2 69, ip_n4 53 (.iload_n 1) 54 1, ip_n4 54 .aaload 55 0, ip_n4 55 (.iload_n 2) 56 2, ip_n7 56 (.invokevirtual 260) 59 102 2 1 139, ip_n4 59 .ireturn 60 0]
set_option maxRecDepth 100000 in
noncomputable def ip_c128 : List (Nat × ip_E) := [ip_n4 0 (.iload_n 1) 1 1, ip_n7 1 (.invokestatic 121) 4 156 1 0 109, ip_n4 4 (.ifCond .eq 11) 7 15, ip_n4 7 (.iload_n 2) 8 2, ip_n4 8 (.iload_n 3) 9 3, ip_n7 9 (.invokestatic 263) 12 61 2 0 140, ip_n4 12 (.ifCond .ne 7) 15 19, ip_n9 15 (.ldc2_w 266) 18 0 0 0 909 (.long (-9223372036854775808)) [], ip_n4 18 .lreturn 19 0, ip_n4 19 (.aload_n 0) 20 0, ip_n7 20 (.getfield 12) 23 10 0 2 68, ip_n4 23 (.aload_n 0) 24 0, ip_n7 24 (.getfield 20) 27 10 1 2 69, ip_n4 27 (.iload_n 1) 28 1, ip_n4 28 .aaload 29 0, ip_n7 29 (.getfield 268) 32 8 0 1 93, ip_n4 32 (.aload_n 0) 33 0, ip_n7 33 (.getfield 20) 36 10 1 2 69, ip_n4 36 (.iload_n 1) 37 1, ip_n4 37 .aaload 38 0, ip_n7 38 (.getfield 272) 41 8 1 1 94, ip_n4 41 (.aload_n 0) 42 0, ip_n7 42 (.getfield 20) 45 10 1 2 69, ip_n4 45 (.iload_n 1) 46 1, ip_n4 46 .aaload 47 0, ip_n7 47 (.getfield 275) 50 8 2 1 95, ip_n7 50 (.invokevirtual 278) 53 44 4 1 141, ip_n4 53 (.aload_n 0) 54 0, ip_n7 54 (.getfield 12) 57 10 0 2 68, ip_n7 57 (.getfield 282) 60 2 3 2 96, ip_n4 60 (.iload_n 2) 61 2, ip_n4 61 (.iload_n 3) 62 3, ip_n7 62 (.invokevirtual 285) 65 62 3 1 142, ip_n4 65 .lreturn 66 0]
set_option maxRecDepth 100000 in
noncomputable def ip_c129 : List (Nat × ip_E) := [ip_n4 0 (.iload_n 1) 1 1, ip_n7 1 (.invokestatic 121) 4 156 1 0 109, ip_n4 4 (.ifCond .eq 21) 7 25, ip_n4 7 (.iload_n 2) 8 2, ip_n4 8 (.ifCond .lt 17) 11 25, ip_n4 11 (.iload_n 2) 12 2, ip_n9 12 (.iconst 2) 13 0 0 0 0 (.int 2) [], ip_n4 13 (.if_icmp .gt 12) 16 25, ip_n4 16 (.iload_n 3) 17 3, ip_n4 17 (.ifCond .lt 8) 20 25, ip_n4 20 (.iload_n 3) 21 3, ip_n9 21 (.iconst 1) 22 0 0 0 0 (.int 1) [], ip_n4 22 (.if_icmp .le 7) 25 29, ip_n9 25 (.ldc2_w 266) 28 0 0 0 909 (.long (-9223372036854775808)) [], ip_n4 28 .lreturn 29 0, ip_n4 29 (.aload_n 0) 30 0, ip_n7 30 (.getfield 12) 33 10 0 2 68, ip_n4 33 (.aload_n 0) 34 0, ip_n7 34 (.getfield 20) 37 10 1 2 69, ip_n4 37 (.iload_n 1) 38 1, ip_n4 38 .aaload 39 0, ip_n7 39 (.getfield 268) 42 8 0 1 93, ip_n4 42 (.aload_n 0) 43 0, ip_n7 43 (.getfield 20) 46 10 1 2 69, ip_n4 46 (.iload_n 1) 47 1, ip_n4 47 .aaload 48 0, ip_n7 48 (.getfield 272) 51 8 1 1 94, ip_n4 51 (.aload_n 0) 52 0, ip_n7 52 (.getfield 20) 55 10 1 2 69, ip_n4 55 (.iload_n 1) 56 1, ip_n4 56 .aaload 57 0, ip_n7 57 (.getfield 275) 60 8 2 1 95, ip_n7 60 (.invokevirtual 278) 63 44 4 1 141, ip_n4 63 (.aload_n 0) 64 0, ip_n7 64 (.getfield 20) 67 10 1 2 69, ip_n4 67 (.iload_n 1) 68 1, ip_n4 68 .aaload 69 0, ip_n7 69 (.getfield 289) 72 8 3 1 97, ip_n4 72 (.lstore 4) 74 4, ip_n4 74 (.iload_n 2) 75 2, ip_n4 75 (.ifCond .ne 27) 78 102, ip_n4 78 (.aload_n 0) 79 0, ip_n7 79 (.getfield 12) 82 10 0 2 68, ip_n7 82 (.getfield 282) 85 2 3 2 96, ip_n9 85 (.iconst 2) 86 0 0 0 0 (.int 2) [], ip_n7 86 (.invokevirtual 292) 89 72 2 1 143, ip_n4 89 (.lload 4) 91 4, ip_n4 91 (.lload 4) 93 4, ip_n4 93 .lmul 94 0, ip_n4 94 (.lload 4) 96 4, ip_n4 96 .lmul 97 0, ip_n4 97 (.iload_n 3) 98 3, ip_n7 98 (.invokestatic 296) 101 164 3 0 144, ip_n4 101 .lreturn 102 0, ip_n4 102 (.iload_n 2) 103 2, ip_n9 103 (.iconst 1) 104 0 0 0 0 (.int 1) [], ip_n4 104 (.if_icmp .ne 21) 107 125, ip_n4 107 (.aload_n 0) 108 0, ip_n7 108 (.getfield 12) 111 10 0 2 68, ip_n7 111 (.getfield 282) 114 2 3 2 96, ip_n9 114 (.iconst 0) 115 0 0 0 0 (.int 0) [], ip_n7 115 (.invokevirtual 292) 118 72 2 1 143, ip_n4 118 (.lload 4) 120 4, ip_n4 120 (.iload_n 3) 121 3, ip_n7 121 (.invokestatic 296) 124 164 3 0 144, ip_n4 124 .lreturn 125 0, ip_n4 125 (.aload_n 0) 126 0, ip_n7 126 (.getfield 12) 129 10 0 2 68, ip_n7 129 (.getfield 282) 132 2 3 2 96, ip_n9 132 (.iconst 1) 133 0 0 0 0 (.int 1) [], ip_n7 133 (.invokevirtual 292) 136 72 2 1 143, ip_n4 136 (.lload 4) 138 4, ip_n4 138 (.lload 4) 140 4, ip_n4 140 .lmul 141 0, ip_n4 141 (.iload_n 3) 142 3, ip_n7 142 (.invokestatic 296) 145 164 3 0 144, ip_n4 145 .lreturn 146 0]
set_option maxRecDepth 100000 in
noncomputable def ip_c130 : List (Nat × ip_E) := [ip_n4 0 (.iload_n 1) 1 1, ip_n7 1 (.invokestatic 121) 4 156 1 0 109, ip_n4 4 (.ifCond .eq 10) 7 14, ip_n4 7 (.iload_n 2) 8 2, ip_n7 8 (.invokestatic 121) 11 156 1 0 109, ip_n4 11 (.ifCond .ne 6) 14 17, ip_n9 14 (.bipush (-2)) 16 0 0 0 0 (.int (-2)) [], ip_n4 16 .ireturn 17 0, ip_n4 17 (.aload_n 0) 18 0, ip_n7 18 (.getfield 12) 21 10 0 2 68, ip_n4 21 (.aload_n 0) 22 0, ip_n7 22 (.getfield 20) 25 10 1 2 69, ip_n4 25 (.iload_n 1) 26 1, ip_n4 26 .aaload 27 0, ip_n4 27 (.aload_n 0) 28 0, ip_n7 28 (.getfield 20) 31 10 1 2 69, ip_n4 31 (.iload_n 2) 32 2, ip_n4 32 .aaload 33 0, ip_n7 33 (.invokevirtual 300) 36 48 3 1 145, ip_n4 36 .ireturn 37 0]
set_option maxRecDepth 100000 in
noncomputable def ip_c131 : List (Nat × ip_E) := [ip_n4 0 (.aload_n 0) 1 0, ip_n7 1 (.getfield 27) 4 10 2 2 70, ip_n4 4 (.iload_n 1) 5 1, ip_n7 5 (.invokevirtual 304) 8 13 2 1 146, ip_n4 8 (.ifCond .eq 12) 11 20, ip_n4 11 (.iload_n 3) 12 3, ip_n4 12 (.ifCond .lt 8) 15 20, ip_n4 15 (.iload_n 3) 16 3, ip_n9 16 (.iconst 4) 17 0 0 0 0 (.int 4) [], ip_n4 17 (.if_icmp .le 7) 20 24, ip_n9 20 (.ldc_w 256) 23 0 0 0 897 (.int (-2147483648)) [], ip_n4 23 .ireturn 24 0, ip_n4 24 (.aload_n 0) 25 0, ip_n7 25 (.getfield 27) 28 10 2 2 70, ip_n4 28 (.iload_n 1) 29 1, ip_n4 29 (.iload_n 2) 30 2, ip_n4 30 (.ifCond .eq 7) 33 37, ip_n9 33 (.iconst 1) 34 0 0 0 0 (.int 1) [], ip_n4 34 (.goto 4) 37 38, ip_n9 37 (.iconst 0) 38 0 0 0 0 (.int 0) [], ip_n4 38 (.iload_n 3) 39 3, ip_n7 39 (.invokevirtual 307) 42 14 4 1 147, ip_n4 42 .ireturn 43 0]
set_option maxRecDepth 100000 in
noncomputable def ip_c132 : List (Nat × ip_E) := [ip_n4 0 (.aload_n 0) 1 0, ip_n7 1 (.getfield 27) 4 10 2 2 70, ip_n7 4 (.invokevirtual 176) 7 11 1 1 123, ip_n4 7 (.ifCond .eq 19) 10 26, ip_n4 10 (.iload_n 1) 11 1, ip_n9 11 (.iconst 1) 12 0 0 0 0 (.int 1) [], ip_n4 12 (.if_icmp .lt 14) 15 26, ip_n4 15 (.iload_n 1) 16 1, ip_n4 16 (.aload_n 0) 17 0, ip_n7 17 (.getfield 27) 20 10 2 2 70, ip_n7 20 (.getfield 170) 23 1 4 0 82, ip_n4 23 (.if_icmp .le 5) 26 28, ip_n9 26 (.iconst (-1)) 27 0 0 0 0 (.int (-1)) [], ip_n4 27 .ireturn 28 0, ip_n4 28 (.aload_n 0) 29 0, ip_n7 29 (.getfield 27) 32 10 2 2 70, ip_n4 32 (.iload_n 1) 33 1, ip_n4 33 (.iload_n 2) 34 2, ip_n7 34 (.invokevirtual 310) 37 17 3 1 148, ip_n4 37 .ireturn 38 0]
set_option maxRecDepth 100000 in
noncomputable def ip_c133 : List (Nat × ip_E) := [ip_n4 0 (.aload_n 0) 1 0, ip_n7 1 (.getfield 27) 4 10 2 2 70, ip_n7 4 (.invokevirtual 176) 7 11 1 1 123, ip_n4 7 (.ifCond .eq 11) 10 18, ip_n4 10 (.iload_n 1) 11 1, ip_n4 11 (.iload_n 2) 12 2, ip_n7 12 (.invokestatic 263) 15 61 2 0 140, ip_n4 15 (.ifCond .ne 7) 18 22, ip_n9 18 (.ldc2_w 266) 21 0 0 0 909 (.long (-9223372036854775808)) [], ip_n4 21 .lreturn 22 0, ip_n4 22 (.aload_n 0) 23 0, ip_n7 23 (.getfield 27) 26 10 2 2 70, ip_n7 26 (.getfield 313) 29 1 2 2 98, ip_n4 29 (.iload_n 1) 30 1, ip_n4 30 (.iload_n 2) 31 2, ip_n7 31 (.invokevirtual 285) 34 62 3 1 142, ip_n4 34 .lreturn 35 0]
set_option maxRecDepth 100000 in
noncomputable def ip_c134 : List (Nat × ip_E) := [ip_n4 0 (.aload_n 0) 1 0, ip_n7 1 (.getfield 27) 4 10 2 2 70, ip_n7 4 (.invokevirtual 176) 7 11 1 1 123, ip_n4 7 (.ifCond .eq 18) 10 25, ip_n4 10 (.aload_n 0) 11 0, ip_n7 11 (.getfield 27) 14 10 2 2 70, ip_n7 14 (.getfield 313) 17 1 2 2 98, ip_n9 17 (.iconst 2) 18 0 0 0 0 (.int 2) [], ip_n7 18 (.invokevirtual 292) 21 72 2 1 143, ip_n4 21 .l2i 22 0, ip_n4 22 (.goto 4) 25 26, ip_n9 25 (.iconst 0) 26 0 0 0 0 (.int 0) [], ip_n4 26 .ireturn 27 0]
set_option maxRecDepth 100000 in
noncomputable def ip_c135 : List (Nat × ip_E) := [ip_n4 0 (.iload_n 2) 1 2, ip_n4 1 (.ifCond .lt 15) 4 16, ip_n4 4 (.iload_n 2) 5 2, ip_n9 5 (.iconst 3) 6 0 0 0 0 (.int 3) [], ip_n4 6 (.if_icmp .gt 10) 9 16, ip_n4 9 (.aload_n 0) 10 0, ip_n7 10 (.invokevirtual 316) 13 160 1 1 149, ip_n4 13 (.ifCond .ne 7) 16 20, ip_n9 16 (.ldc2_w 266) 19 0 0 0 909 (.long (-9223372036854775808)) [], ip_n4 19 .lreturn 20 0, ip_n4 20 (.aload_n 0) 21 0, ip_n7 21 (.getfield 79) 24 10 11 2 79, ip_n4 24 (.iload_n 1) 25 1, ip_n4 25 (.ifCond .eq 7) 28 32, ip_n9 28 (.iconst 1) 29 0 0 0 0 (.int 1) [], ip_n4 29 (.goto 4) 32 33, ip_n9 32 (.iconst 0) 33 0 0 0 0 (.int 0) [], ip_n4 33 (.iload_n 2) 34 2, ip_n7 34 (.invokevirtual 319) 37 4 3 1 150, ip_n4 37 .lreturn 38 0]
set_option maxRecDepth 100000 in
noncomputable def ip_c136 : List (Nat × ip_E) := [ip_n4 0 (.iload_n 2) 1 2, ip_n4 1 (.ifCond .lt 15) 4 16, ip_n4 4 (.iload_n 2) 5 2, ip_n9 5 (.iconst 1) 6 0 0 0 0 (.int 1) [], ip_n4 6 (.if_icmp .gt 10) 9 16, ip_n4 9 (.aload_n 0) 10 0, ip_n7 10 (.invokevirtual 316) 13 160 1 1 149, ip_n4 13 (.ifCond .ne 5) 16 18, ip_n9 16 (.iconst (-1)) 17 0 0 0 0 (.int (-1)) [], ip_n4 17 .ireturn 18 0, ip_n4 18 (.aload_n 0) 19 0, ip_n7 19 (.getfield 79) 22 10 11 2 79, ip_n4 22 (.iload_n 1) 23 1, ip_n4 23 (.ifCond .eq 7) 26 30, ip_n9 26 (.iconst 1) 27 0 0 0 0 (.int 1) [], ip_n4 27 (.goto 4) 30 31, ip_n9 30 (.iconst 0) 31 0 0 0 0 (.int 0) [], ip_n4 31 (.iload_n 2) 32 2, ip_n7 32 (.invokevirtual 322) 35 5 3 1 151, ip_n4 35 .ireturn 36 0]
set_option maxRecDepth 100000 in
noncomputable def ip_c137 : List (Nat × ip_E) := [ip_n4 0 (.aload_n 0) 1 0, ip_n7 1 (.getfield 27) 4 10 2 2 70, ip_n7 4 (.invokevirtual 176) 7 11 1 1 123, ip_n4 7 (.ifCond .eq 27) 10 34, ip_n4 10 (.iload_n 1) 11 1, ip_n4 11 (.iload_n 2) 12 2, ip_n7 12 (.invokestatic 263) 15 61 2 0 140, ip_n4 15 (.ifCond .eq 19) 18 34, ip_n4 18 (.aload_n 0) 19 0, ip_n7 19 (.getfield 27) 22 10 2 2 70, ip_n7 22 (.getfield 313) 25 1 2 2 98, ip_n9 25 (.ldc2_w 325) 28 0 0 0 988 (.long 1000000000) [], ip_n7 28 (.invokevirtual 327) 31 70 2 1 152, ip_n4 31 (.ifCond .eq 7) 34 38, ip_n9 34 (.ldc2_w 266) 37 0 0 0 909 (.long (-9223372036854775808)) [], ip_n4 37 .lreturn 38 0, ip_n4 38 (.aload_n 0) 39 0, ip_n7 39 (.getfield 27) 42 10 2 2 70, ip_n7 42 (.getfield 313) 45 1 2 2 98, ip_n9 45 (.iconst 2) 46 0 0 0 0 (.int 2) [], ip_n7 46 (.invokevirtual 292) 49 72 2 1 143, ip_n4 49 (.aload_n 0) 50 0, ip_n7 50 (.getfield 27) 53 10 2 2 70, ip_n7 53 (.getfield 313) 56 1 2 2 98, ip_n4 56 (.iload_n 2) 57 2, ip_n4 57 (.iload_n 1) 58 1, ip_n7 58 (.invokevirtual 330) 61 71 3 1 153, ip_n4 61 .lmul 62 0, ip_n4 62 .lreturn 63 0]
set_option maxRecDepth 100000 in
noncomputable def ip_c138 : List (Nat × ip_E) := [ip_n4 0 (.aload_n 0) 1 0, ip_n7 1 (.getfield 27) 4 10 2 2 70, ip_n7 4 (.invokevirtual 176) 7 11 1 1 123, ip_n4 7 (.ifCond .eq 25) 10 32, ip_n4 10 (.iload_n 2) 11 2, ip_n9 11 (.sipush 999) 14 0 0 0 0 (.int 999) [], ip_n7 14 (.invokestatic 117) 17 155 2 0 108, ip_n4 17 (.ifCond .eq 15) 20 32, ip_n4 20 (.iload_n 3) 21 3, ip_n9 21 (.iconst 1) 22 0 0 0 0 (.int 1) [], ip_n4 22 (.if_icmp .lt 10) 25 32, ip_n4 25 (.iload_n 3) 26 3, ip_n9 26 (.sipush 999) 29 0 0 0 0 (.int 999) [], ip_n4 29 (.if_icmp .le 6) 32 35, ip_n9 32 (.bipush (-2)) 34 0 0 0 0 (.int (-2)) [], ip_n4 34 .ireturn 35 0, ip_n4 35 (.aload_n 0) 36 0, ip_n7 36 (.getfield 27) 39 10 2 2 70, ip_n9 39 (.iconst 0) 40 0 0 0 0 (.int 0) [], ip_n4 40 (.iload_n 1) 41 1, ip_n4 41 (.ifCond .eq 7) 44 48, ip_n9 44 (.iconst 1) 45 0 0 0 0 (.int 1) [], ip_n4 45 (.goto 4) 48 49, ip_n9 48 (.iconst 0) 49 0 0 0 0 (.int 0) [], ip_n4 49 (.aload_n 0) 50 0, ip_n7 50 (.getfield 84) 53 10 12 2 80, ip_n7 53 (.invokevirtual 179) 56 16 4 1 124, ip_n4 56 (.aload_n 0) 57 0, ip_n7 57 (.getfield 12) 60 10 0 2 68, ip_n4 60 (.aload_n 0) 61 0, ip_n7 61 (.getfield 84) 64 10 12 2 80, ip_n4 64 (.iload_n 2) 65 2, ip_n4 65 .i2l 66 0, ip_n4 66 (.iload_n 3) 67 3, ip_n4 67 .i2l 68 0, ip_n7 68 (.invokevirtual 333) 71 47 4 1 154, ip_n4 71 .ireturn 72 0]
set_option maxRecDepth 100000 in
noncomputable def ip_c139 : List (Nat × ip_E) := [ip_n4 0 (.iload_n 2) 1 2, ip_n4 1 (.ifCond .lt 15) 4 16, ip_n4 4 (.iload_n 2) 5 2, ip_n9 5 (.iconst 1) 6 0 0 0 0 (.int 1) [], ip_n4 6 (.if_icmp .gt 10) 9 16, ip_n4 9 (.aload_n 0) 10 0, ip_n7 10 (.invokevirtual 316) 13 160 1 1 149, ip_n4 13 (.ifCond .ne 7) 16 20, ip_n9 16 (.ldc2_w 266) 19 0 0 0 909 (.long (-9223372036854775808)) [], ip_n4 19 .lreturn 20 0, ip_n4 20 (.aload_n 0) 21 0, ip_n7 21 (.getfield 79) 24 10 11 2 79, ip_n4 24 (.iload_n 1) 25 1, ip_n4 25 (.ifCond .eq 7) 28 32, ip_n9 28 (.iconst 1) 29 0 0 0 0 (.int 1) [], ip_n4 29 (.goto 4) 32 33, ip_n9 32 (.iconst 0) 33 0 0 0 0 (.int 0) [], ip_n4 33 (.iload_n 2) 34 2, ip_n7 34 (.invokevirtual 337) 37 7 3 1 155, ip_n4 37 .lreturn 38 0]
set_option maxRecDepth 100000 in
noncomputable def ip_c140 : List (Nat × ip_E) := [ip_n4 0 (.iload_n 1) 1 1, ip_n4 1 (.ifCond .lt 28) 4 29, ip_n4 4 (.iload_n 1) 5 1, ip_n9 5 (.iconst 2) 6 0 0 0 0 (.int 2) [], ip_n4 6 (.if_icmp .gt 23) 9 29, ip_n4 9 (.aload_n 0) 10 0, ip_n7 10 (.invokevirtual 316) 13 160 1 1 149, ip_n4 13 (.ifCond .eq 16) 16 29, ip_n4 16 (.aload_n 0) 17 0, ip_n7 17 (.getfield 79) 20 10 11 2 79, ip_n9 20 (.ldc2_w 325) 23 0 0 0 988 (.long 1000000000) [], ip_n7 23 (.invokevirtual 340) 26 6 2 1 156, ip_n4 26 (.ifCond .eq 7) 29 33, ip_n9 29 (.ldc2_w 266) 32 0 0 0 909 (.long (-9223372036854775808)) [], ip_n4 32 .lreturn 33 0, ip_n4 33 (.aload_n 0) 34 0, ip_n7 34 (.getfield 79) 37 10 11 2 79, ip_n4 37 (.iload_n 1) 38 1, ip_n7 38 (.invokevirtual 341) 41 8 2 1 157, ip_n4 41 .lreturn 42 0]
set_option maxRecDepth 100000 in
noncomputable def ip_c141 : List (Nat × ip_E) := [ip_n4 0 (.aload_n 0) 1 0, ip_n7 1 (.getfield 27) 4 10 2 2 70, ip_n7 4 (.invokevirtual 173) 7 12 1 1 122, ip_n4 7 (.ifCond .eq 12) 10 19, ip_n4 10 (.iload_n 1) 11 1, ip_n4 11 (.ifCond .lt 8) 14 19, ip_n4 14 (.iload_n 1) 15 1, ip_n9 15 (.iconst 1) 16 0 0 0 0 (.int 1) [], ip_n4 16 (.if_icmp .le 5) 19 21, ip_n9 19 (.iconst (-1)) 20 0 0 0 0 (.int (-1)) [], ip_n4 20 .ireturn 21 0, ip_n4 21 (.iload_n 1) 22 1, ip_n4 22 (.ifCond .ne 13) 25 35, ip_n4 25 (.aload_n 0) 26 0, ip_n7 26 (.getfield 27) 29 10 2 2 70, ip_n7 29 (.getfield 344) 32 1 5 0 99, ip_n4 32 (.goto 10) 35 42, ip_n4 35 (.aload_n 0) 36 0, ip_n7 36 (.getfield 27) 39 10 2 2 70, ip_n7 39 (.getfield 347) 42 1 6 0 100, ip_n4 42 .ireturn 43 0]
set_option maxRecDepth 100000 in
noncomputable def ip_c142 : List (Nat × ip_E) := [ip_n4 0 (.aload_n 0) 1 0, ip_n7 1 (.getfield 27) 4 10 2 2 70, ip_n7 4 (.invokevirtual 173) 7 12 1 1 122, ip_n4 7 (.ifCond .eq 11) 10 18, ip_n4 10 (.iload_n 1) 11 1, ip_n4 11 (.iload_n 2) 12 2, ip_n7 12 (.invokestatic 263) 15 61 2 0 140, ip_n4 15 (.ifCond .ne 7) 18 22, ip_n9 18 (.ldc2_w 266) 21 0 0 0 909 (.long (-9223372036854775808)) [], ip_n4 21 .lreturn 22 0, ip_n4 22 (.aload_n 0) 23 0, ip_n7 23 (.getfield 27) 26 10 2 2 70, ip_n4 26 (.aload_n 0) 27 0, ip_n7 27 (.getfield 72) 30 10 10 2 78, ip_n7 30 (.invokevirtual 350) 33 33 2 1 158, ip_n4 33 (.aload_n 0) 34 0, ip_n7 34 (.getfield 72) 37 10 10 2 78, ip_n4 37 (.iload_n 1) 38 1, ip_n4 38 (.iload_n 2) 39 2, ip_n7 39 (.invokevirtual 285) 42 62 3 1 142, ip_n4 42 (.lstore_n 3) 43 3, ip_n4 43 (.lload_n 3) 44 3, ip_n9 44 (.ldc2_w 353) 47 0 0 0 1033 (.long (-1)) [], ip_n4 47 .lcmp 48 0, ip_n4 48 (.ifCond .ne 9) 51 57, ip_n9 51 (.ldc2_w 266) 54 0 0 0 909 (.long (-9223372036854775808)) [], ip_n4 54 (.goto 4) 57 58, ip_n4 57 (.lload_n 3) 58 3, ip_n4 58 .lreturn 59 0]
set_option maxRecDepth 100000 in
noncomputable def ip_c143 : List (Nat × ip_E) := [ip_n4 0 (.aload_n 0) 1 0, ip_n7 1 (.getfield 27) 4 10 2 2 70, ip_n7 4 (.invokevirtual 173) 7 12 1 1 122, ip_n4 7 (.ifCond .ne 7) 10 14, ip_n9 10 (.ldc_w 256) 13 0 0 0 897 (.int (-2147483648)) [], ip_n4 13 .ireturn 14 0, ip_n4 14 (.aload_n 0) 15 0, ip_n7 15 (.getfield 27) 18 10 2 2 70, ip_n4 18 (.aload_n 0) 19 0, ip_n7 19 (.getfield 72) 22 10 10 2 78, ip_n7 22 (.invokevirtual 350) 25 33 2 1 158, ip_n4 25 (.aload_n 0) 26 0, ip_n7 26 (.getfield 72) 29 10 10 2 78, ip_n7 29 (.invokevirtual 355) 32 69 1 1 159, ip_n4 32 (.ifCond .ne 21) 35 53, ip_n4 35 (.aload_n 0) 36 0, ip_n7 36 (.getfield 27) 39 10 2 2 70, ip_n4 39 (.aload_n 0) 40 0, ip_n7 40 (.getfield 72) 43 10 10 2 78, ip_n4 43 (.aload_n 0) 44 0, ip_n7 44 (.getfield 84) 47 10 12 2 80, ip_n7 47 (.invokevirtual 358) 50 34 3 1 160, ip_n4 50 (.ifCond .ne 7) 53 57, ip_n9 53 (.ldc_w 256) 56 0 0 0 897 (.int (-2147483648)) [], ip_n4 56 .ireturn 57 0, ip_n4 57 (.aload_n 0) 58 0, ip_n7 58 (.getfield 84) 61 10 12 2 80, ip_n4 61 (.iload_n 1) 62 1, ip_n7 62 (.invokevirtual 260) 65 102 2 1 139, ip_n4 65 .ireturn 66 0]
set_option maxRecDepth 100000 in
noncomputable def ip_c144 : List (Nat × ip_E) := [ip_n4 0 (.aload_n 0) 1 0, ip_n7 1 (.getfield 27) 4 10 2 2 70, ip_n7 4 (.invokevirtual 173) 7 12 1 1 122, ip_n4 7 (.ifCond .eq 12) 10 19, ip_n4 10 (.iload_n 1) 11 1, ip_n4 11 (.ifCond .lt 8) 14 19, ip_n4 14 (.iload_n 1) 15 1, ip_n9 15 (.iconst 2) 16 0 0 0 0 (.int 2) [], ip_n4 16 (.if_icmp .le 7) 19 23, ip_n9 19 (.ldc2_w 266) 22 0 0 0 909 (.long (-9223372036854775808)) [], ip_n4 22 .lreturn 23 0, ip_n4 23 (.aload_n 0) 24 0, ip_n7 24 (.getfield 27) 27 10 2 2 70, ip_n4 27 (.aload_n 0) 28 0, ip_n7 28 (.getfield 72) 31 10 10 2 78, ip_n7 31 (.invokevirtual 350) 34 33 2 1 158, ip_n4 34 (.aload_n 0) 35 0, ip_n7 35 (.getfield 72) 38 10 10 2 78, ip_n7 38 (.invokevirtual 355) 41 69 1 1 159, ip_n4 41 (.ifCond .ne 16) 44 57, ip_n4 44 (.aload_n 0) 45 0, ip_n7 45 (.getfield 72) 48 10 10 2 78, ip_n9 48 (.ldc2_w 325) 51 0 0 0 988 (.long 1000000000) [], ip_n7 51 (.invokevirtual 327) 54 70 2 1 152, ip_n4 54 (.ifCond .eq 7) 57 61, ip_n9 57 (.ldc2_w 266) 60 0 0 0 909 (.long (-9223372036854775808)) [], ip_n4 60 .lreturn 61 0, ip_n4 61 (.aload_n 0) 62 0, ip_n7 62 (.getfield 72) 65 10 10 2 78, ip_n4 65 (.iload_n 1) 66 1, ip_n7 66 (.invokevirtual 292) 69 72 2 1 143, ip_n4 69 .lreturn 70 0]
set_option maxRecDepth 100000 in
noncomputable def ip_c145 : List (Nat × ip_E) := [ip_n4 0 (.iload_n 1) 1 1, ip_n9 1 (.sipush 999) 4 0 0 0 0 (.int 999) [], ip_n7 4 (.invokestatic 117) 7 155 2 0 108, ip_n4 7 (.ifCond .eq 23) 10 30, ip_n4 10 (.iload_n 2) 11 2, ip_n9 11 (.sipush 999) 14 0 0 0 0 (.int 999) [], ip_n7 14 (.invokestatic 117) 17 155 2 0 108, ip_n4 17 (.ifCond .eq 13) 20 30, ip_n4 20 (.iload_n 3) 21 3, ip_n9 21 (.sipush 999) 24 0 0 0 0 (.int 999) [], ip_n7 24 (.invokestatic 117) 27 155 2 0 108, ip_n4 27 (.ifCond .ne 5) 30 32, ip_n9 30 (.iconst 0) 31 0 0 0 0 (.int 0) [], ip_n7 31 .ireturn 32 0 0 3 0, ip_n4 32 (.aload_n 0) 33 0, ip_n7 33 (.getfield 27) 36 10 2 2 70, ip_n7 36 (.invokevirtual 176) 39 11 1 1 123, ip_n4 39 (.ifCond .eq 20) 42 59, ip_n4 42 (.aload_n 0) 43 0, ip_n7 43 (.getfield 27) 46 10 2 2 70, ip_n4 46 (.iload_n 1) 47 1, ip_n4 47 (.iload_n 2) 48 2, ip_n4 48 (.iload_n 3) 49 3, ip_n7 49 (.invokevirtual 362) 52 37 4 1 161, ip_n4 52 (.ifCond .eq 7) 55 59, ip_n9 55 (.iconst 1) 56 0 0 0 0 (.int 1) [], ip_n4 56 (.goto 4) 59 60, ip_n9 59 (.iconst 0) 60 0 0 0 0 (.int 0) [], ip_n7 60 .ireturn 61 0 0 3 0]
set_option maxRecDepth 100000 in
noncomputable def ip_c146 : List (Nat × ip_E) := [ip_n4 0 (.aload_n 0) 1 0, ip_n7 1 (.getfield 27) 4 10 2 2 70, ip_n7 4 (.invokevirtual 176) 7 11 1 1 123, ip_n4 7 (.ifCond .eq 23) 10 30, ip_n4 10 (.iload_n 1) 11 1, ip_n9 11 (.iconst 1) 12 0 0 0 0 (.int 1) [], ip_n4 12 (.if_icmp .lt 18) 15 30, ip_n4 15 (.iload_n 1) 16 1, ip_n9 16 (.bipush 9) 18 0 0 0 0 (.int 9) [], ip_n4 18 (.if_icmp .gt 12) 21 30, ip_n4 21 (.iload_n 2) 22 2, ip_n4 22 (.ifCond .lt 8) 25 30, ip_n4 25 (.iload_n 2) 26 2, ip_n9 26 (.iconst 2) 27 0 0 0 0 (.int 2) [], ip_n4 27 (.if_icmp .le 7) 30 34, ip_n9 30 (.ldc_w 256) 33 0 0 0 897 (.int (-2147483648)) [], ip_n4 33 .ireturn 34 0, ip_n4 34 (.aload_n 0) 35 0, ip_n4 35 (.iload_n 1) 36 1, ip_n4 36 (.iload_n 2) 37 2, ip_n7 37 (.invokevirtual 366) 40 161 3 1 162, ip_n4 40 .ireturn 41 0]
set_option maxRecDepth 100000 in
noncomputable def ip_c147 : List (Nat × ip_E) := [ip_n4 0 (.iload_n 1) 1 1, ip_n4 1 (.ifCond .lt 23) 4 24, ip_n4 4 (.iload_n 1) 5 1, ip_n4 5 (.aload_n 0) 6 0, ip_n7 6 (.getfield 34) 9 10 3 2 71, ip_n7 9 (.getfield 204) 12 9 1 0 85, ip_n4 12 (.if_icmp .ge 12) 15 24, ip_n4 15 (.iload_n 2) 16 2, ip_n4 16 (.ifCond .lt 8) 19 24, ip_n4 19 (.iload_n 2) 20 2, ip_n9 20 (.iconst 2) 21 0 0 0 0 (.int 2) [], ip_n4 21 (.if_icmp .le 5) 24 26, ip_n9 24 (.iconst (-1)) 25 0 0 0 0 (.int (-1)) [], ip_n4 25 .ireturn 26 0, ip_n4 26 (.aload_n 0) 27 0, ip_n7 27 (.getfield 34) 30 10 3 2 71, ip_n4 30 (.iload_n 1) 31 1, ip_n4 31 (.iload_n 2) 32 2, ip_n7 32 (.invokevirtual 369) 35 106 3 1 163, ip_n4 35 .ireturn 36 0]
set_option maxRecDepth 100000 in
noncomputable def ip_c148 : List (Nat × ip_E) := [ip_n4 0 (.aload_n 0) 1 0, ip_n7 1 (.getfield 34) 4 10 3 2 71, ip_n7 4 (.getfield 204) 7 9 1 0 85, ip_n4 7 (.ifCond .eq 11) 10 18, ip_n4 10 (.iload_n 1) 11 1, ip_n4 11 (.iload_n 2) 12 2, ip_n7 12 (.invokestatic 263) 15 61 2 0 140, ip_n4 15 (.ifCond .ne 7) 18 22, ip_n9 18 (.ldc2_w 266) 21 0 0 0 909 (.long (-9223372036854775808)) [], ip_n4 21 .lreturn 22 0, ip_n4 22 (.aload_n 0) 23 0, ip_n7 23 (.getfield 34) 26 10 3 2 71, ip_n4 26 (.aload_n 0) 27 0, ip_n7 27 (.getfield 72) 30 10 10 2 78, ip_n7 30 (.invokevirtual 205) 33 107 2 1 130, ip_n4 33 (.aload_n 0) 34 0, ip_n7 34 (.getfield 72) 37 10 10 2 78, ip_n4 37 (.iload_n 1) 38 1, ip_n4 38 (.iload_n 2) 39 2, ip_n7 39 (.invokevirtual 285) 42 62 3 1 142, ip_n4 42 (.lstore_n 3) 43 3, ip_n4 43 (.lload_n 3) 44 3, ip_n9 44 (.ldc2_w 353) 47 0 0 0 1033 (.long (-1)) [], ip_n4 47 .lcmp 48 0, ip_n4 48 (.ifCond .ne 9) 51 57, ip_n9 51 (.ldc2_w 266) 54 0 0 0 909 (.long (-9223372036854775808)) [], ip_n4 54 (.goto 4) 57 58, ip_n4 57 (.lload_n 3) 58 3, ip_n4 58 .lreturn 59 0]
set_option maxRecDepth 100000 in
noncomputable def ip_c149 : List (Nat × ip_E) := [ip_n4 0 (.aload_n 0) 1 0, ip_n7 1 (.getfield 34) 4 10 3 2 71, ip_n7 4 (.getfield 204) 7 9 1 0 85, ip_n4 7 (.ifCond .eq 12) 10 19, ip_n4 10 (.iload_n 1) 11 1, ip_n4 11 (.ifCond .lt 8) 14 19, ip_n4 14 (.iload_n 1) 15 1, ip_n9 15 (.iconst 1) 16 0 0 0 0 (.int 1) [], ip_n4 16 (.if_icmp .le 5) 19 21, ip_n9 19 (.iconst (-1)) 20 0 0 0 0 (.int (-1)) [], ip_n4 20 .ireturn 21 0, ip_n4 21 (.iload_n 1) 22 1, ip_n4 22 (.ifCond .ne 19) 25 41, ip_n4 25 (.aload_n 0) 26 0, ip_n7 26 (.getfield 34) 29 10 3 2 71, ip_n7 29 (.invokevirtual 372) 32 108 1 1 164, ip_n4 32 (.ifCond .eq 7) 35 39, ip_n9 35 (.iconst 1) 36 0 0 0 0 (.int 1) [], ip_n4 36 (.goto 4) 39 40, ip_n9 39 (.iconst 0) 40 0 0 0 0 (.int 0) [], ip_n4 40 .ireturn 41 0, ip_n4 41 (.aload_n 0) 42 0, ip_n7 42 (.getfield 27) 45 10 2 2 70, ip_n7 45 (.invokevirtual 176) 48 11 1 1 123, ip_n4 48 (.ifCond .eq 10) 51 58, ip_n4 51 (.aload_n 0) 52 0, ip_n7 52 (.invokevirtual 375) 55 162 1 1 165, ip_n4 55 (.goto 4) 58 59, ip_n9 58 (.iconst 0) 59 0 0 0 0 (.int 0) [], ip_n4 59 .ireturn 60 0]
set_option maxRecDepth 100000 in
noncomputable def ip_c150 : List (Nat × ip_E) := [ip_n4 0 (.iload_n 1) 1 1, ip_n7 1 (.invokestatic 121) 4 156 1 0 109, ip_n4 4 (.ifCond .eq 30) 7 34, ip_n4 7 (.iload_n 2) 8 2, ip_n7 8 (.invokestatic 121) 11 156 1 0 109, ip_n4 11 (.ifCond .eq 23) 14 34, ip_n4 14 (.iload_n 3) 15 3, ip_n4 15 (.ifCond .lt 19) 18 34, ip_n4 18 (.iload_n 3) 19 3, ip_n9 19 (.iconst 1) 20 0 0 0 0 (.int 1) [], ip_n4 20 (.if_icmp .gt 14) 23 34, ip_n4 23 (.iload 4) 25 4, ip_n4 25 (.ifCond .lt 9) 28 34, ip_n4 28 (.iload 4) 30 4, ip_n9 30 (.iconst 2) 31 0 0 0 0 (.int 2) [], ip_n4 31 (.if_icmp .le 7) 34 38, ip_n9 34 (.ldc_w 256) 37 0 0 0 897 (.int (-2147483648)) [], ip_n4 37 .ireturn 38 0, ip_n4 38 (.aload_n 0) 39 0, ip_n7 39 (.getfield 12) 42 10 0 2 68, ip_n4 42 (.aload_n 0) 43 0, ip_n7 43 (.getfield 20) 46 10 1 2 69, ip_n4 46 (.iload_n 1) 47 1, ip_n4 47 .aaload 48 0, ip_n4 48 (.aload_n 0) 49 0, ip_n7 49 (.getfield 20) 52 10 1 2 69, ip_n4 52 (.iload_n 2) 53 2, ip_n4 53 .aaload 54 0, ip_n7 54 (.invokestatic 151) 57 18 3 0 117, ip_n4 57 (.ifCond .ne 7) 60 64, ip_n9 60 (.ldc_w 256) 63 0 0 0 897 (.int (-2147483648)) [], ip_n4 63 .ireturn 64 0, ip_n4 64 (.aload_n 0) 65 0, ip_n7 65 (.getfield 63) 68 10 8 2 76, ip_n4 68 (.aload_n 0) 69 0, ip_n7 69 (.getfield 12) 72 10 0 2 68, ip_n4 72 (.aload_n 0) 73 0, ip_n7 73 (.getfield 20) 76 10 1 2 69, ip_n4 76 (.iload_n 1) 77 1, ip_n4 77 .aaload 78 0, ip_n4 78 (.aload_n 0) 79 0, ip_n7 79 (.getfield 20) 82 10 1 2 69, ip_n4 82 (.iload_n 2) 83 2, ip_n4 83 .aaload 84 0, ip_n4 84 (.iload_n 3) 85 3, ip_n7 85 (.invokevirtual 155) 88 20 5 1 118, ip_n4 88 (.aload_n 0) 89 0, ip_n7 89 (.getfield 63) 92 10 8 2 76, ip_n4 92 (.aload_n 0) 93 0, ip_n7 93 (.getfield 12) 96 10 0 2 68, ip_n7 96 (.invokevirtual 378) 99 31 2 1 166, ip_n4 99 (.istore 5) 101 5, ip_n4 101 (.iload 4) 103 4, ip_n4 103 (.ifCond .ne 11) 106 114, ip_n4 106 (.aload_n 0) 107 0, ip_n7 107 (.getfield 63) 110 10 8 2 76, ip_n7 110 (.getfield 170) 113 1 4 0 82, ip_n4 113 .ireturn 114 0, ip_n4 114 (.iload 4) 116 4, ip_n9 116 (.iconst 1) 117 0 0 0 0 (.int 1) [], ip_n4 117 (.if_icmp .ne 8) 120 125, ip_n4 120 (.iload 5) 122 5, ip_n4 122 (.goto 10) 125 132, ip_n4 125 (.aload_n 0) 126 0, ip_n7 126 (.getfield 63) 129 10 8 2 76, ip_n7 129 (.getfield 347) 132 1 6 0 100, ip_n4 132 .ireturn 133 0]
set_option maxRecDepth 100000 in
noncomputable def ip_c151 : List (Nat × ip_E) := [ip_n4 0 (.iload_n 1) 1 1, ip_n9 1 (.tableswitch 128 0 12 #[67, 75, 83, 91, 99, 128, 128, 128, 128, 128, 104, 112, 120]) 68 129 12 67 0 (.int 0) [68, 76, 84, 92, 100, 129, 129, 129, 129, 129, 105, 113, 121], ip_n4 68 (.aload_n 0) 69 0, ip_n7 69 (.getfield 12) 72 10 0 2 68, ip_n7 72 (.getfield 212) 75 2 0 0 86, ip_n4 75 .ireturn 76 0, ip_n4 76 (.aload_n 0) 77 0, ip_n7 77 (.getfield 12) 80 10 0 2 68, ip_n7 80 (.getfield 215) 83 2 1 0 87, ip_n4 83 .ireturn 84 0, ip_n4 84 (.aload_n 0) 85 0, ip_n7 85 (.getfield 12) 88 10 0 2 68, ip_n7 88 (.getfield 218) 91 2 2 0 88, ip_n4 91 .ireturn 92 0, ip_n4 92 (.aload_n 0) 93 0, ip_n7 93 (.getfield 12) 96 10 0 2 68, ip_n7 96 (.invokevirtual 110) 99 43 1 1 106, ip_n4 99 .ireturn 100 0, ip_n4 100 (.aload_n 0) 101 0, ip_n7 101 (.getfield 59) 104 10 7 0 75, ip_n4 104 .ireturn 105 0, ip_n4 105 (.aload_n 0) 106 0, ip_n7 106 (.getfield 34) 109 10 3 2 71, ip_n7 109 (.getfield 204) 112 9 1 0 85, ip_n4 112 .ireturn 113 0, ip_n4 113 (.aload_n 0) 114 0, ip_n7 114 (.getfield 48) 117 10 5 2 73, ip_n7 117 (.getfield 224) 120 3 5 0 90, ip_n4 120 .ireturn 121 0, ip_n4 121 (.aload_n 0) 122 0, ip_n7 122 (.getfield 41) 125 10 4 2 72, ip_n7 125 (.getfield 189) 128 6 2 0 83, ip_n4 128 .ireturn 129 0, ip_n4 129 (.iload_n 1) 130 1, ip_n9 130 (.iconst 5) 131 0 0 0 0 (.int 5) [], ip_n4 131 (.if_icmp .lt 32) 134 163, ip_n4 134 (.iload_n 1) 135 1, ip_n9 135 (.bipush 9) 137 0 0 0 0 (.int 9) [], ip_n4 137 (.if_icmp .gt 26) 140 163, ip_n4 140 (.aload_n 0) 141 0, ip_n7 141 (.getfield 27) 144 10 2 2 70, ip_n7 144 (.invokevirtual 176) 147 11 1 1 123, ip_n4 147 (.ifCond .eq 14) 150 161, ip_n4 150 (.aload_n 0) 151 0, ip_n7 151 (.getfield 27) 154 10 2 2 70, ip_n4 154 (.iload_n 1) 155 1, ip_n7 155 (.invokevirtual 381) 158 32 2 1 167, ip_n4 158 (.goto 4) 161 162, ip_n9 161 (.iconst 0) 162 0 0 0 0 (.int 0) [], ip_n4 162 .ireturn 163 0, ip_n4 163 (.iload_n 1) 164 1, ip_n9 164 (.bipush 13) 166 0 0 0 0 (.int 13) [], ip_n4 166 (.if_icmp .lt 23) 169 189, ip_n4 169 (.iload_n 1) 170 1, ip_n9 170 (.bipush 18) 172 0 0 0 0 (.int 18) [], ip_n4 172 (.if_icmp .gt 17) 175 189, ip_n4 175 (.aload_n 0) 176 0, ip_n7 176 (.getfield 55) 179 10 6 2 74, ip_n4 179 (.iload_n 1) 180 1, ip_n9 180 (.bipush 13) 182 0 0 0 0 (.int 13) [], ip_n4 182 .isub 183 0, ip_n7 183 (.invokevirtual 384) 186 91 2 1 168, ip_n4 186 (.goto 6) 189 192, ip_n9 189 (.ldc_w 256) 192 0 0 0 897 (.int (-2147483648)) [], ip_n4 192 .ireturn 193 0]
set_option maxRecDepth 100000 in
noncomputable def ip_c152 : List (Nat × ip_E) := [ip_n4 0 (.aload_n 0) 1 0, ip_n7 1 (.getfield 55) 4 10 6 2 74, ip_n7 4 (.getfield 387) 7 7 1 0 101, ip_n4 7 .ireturn 8 0]
set_option maxRecDepth 100000 in
noncomputable def ip_c153 : List (Nat × ip_E) := [ip_n4 0 (.aload_n 0) 1 0, ip_n7 1 (.getfield 48) 4 10 5 2 73, ip_n4 4 (.iload_n 1) 5 1, ip_n7 5 (.invokevirtual 390) 8 55 2 1 169, ip_n4 8 (.aload_n 0) 9 0, ip_n7 9 (.getfield 12) 12 10 0 2 68, ip_n4 12 (.aload_n 0) 13 0, ip_n7 13 (.getfield 20) 16 10 1 2 69, ip_n4 16 (.aload_n 0) 17 0, ip_n7 17 (.getfield 34) 20 10 3 2 71, ip_n4 20 (.aload_n 0) 21 0, ip_n7 21 (.getfield 27) 24 10 2 2 70, ip_n7 24 (.invokevirtual 244) 27 75 5 1 135, ip_n4 27 .return_ 28 0]
set_option maxRecDepth 100000 in
noncomputable def ip_c154 : List (Nat × ip_E) := [ip_n4 0 (.aload_n 0) 1 0, ip_n7 1 (.getfield 12) 4 10 0 2 68, ip_n4 4 (.iload_n 1) 5 1, ip_n4 5 (.iload_n 2) 6 2, ip_n4 6 (.iload_n 3) 7 3, ip_n7 7 (.invokevirtual 393) 10 42 4 1 170, ip_n9 10 (.iconst 0) 11 0 0 0 0 (.int 0) [], ip_n4 11 (.istore 4) 13 4, ip_n4 13 (.iload 4) 15 4, ip_n9 15 (.bipush 6) 17 0 0 0 0 (.int 6) [], ip_n4 17 (.if_icmp .ge 23) 20 40, ip_n4 20 (.aload_n 0) 21 0, ip_n7 21 (.getfield 20) 24 10 1 2 69, ip_n4 24 (.iload 4) 26 4, ip_n4 26 .aaload 27 0, ip_n9 27 (.lconst 0) 28 0 0 0 0 (.long 0) [], ip_n9 28 (.lconst 0) 29 0 0 0 0 (.long 0) [], ip_n9 29 (.lconst 0) 30 0 0 0 0 (.long 0) [], ip_n9 30 (.lconst 1) 31 0 0 0 0 (.long 1) [], ip_n7 31 (.invokevirtual 125) 34 93 5 1 110, ip_n9 34 (.iinc 4 1) 37 4 0 0 0 (.int 1) [], ip_n4 37 (.goto (-24)) 40 13, ip_n4 40 (.aload_n 0) 41 0, ip_n7 41 (.getfield 27) 44 10 2 2 70, ip_n7 44 (.invokevirtual 395) 47 21 1 1 171, ip_n4 47 .return_ 48 0]
set_option maxRecDepth 100000 in
noncomputable def ip_c155 : List (Nat × ip_E) := [ip_n4 0 (.iload_n 0) 1 0, ip_n4 1 (.iload_n 1) 2 1, ip_n4 2 .ineg 3 0, ip_n4 3 (.if_icmp .lt 12) 6 15, ip_n4 6 (.iload_n 0) 7 0, ip_n4 7 (.iload_n 1) 8 1, ip_n4 8 (.if_icmp .gt 7) 11 15, ip_n9 11 (.iconst 1) 12 0 0 0 0 (.int 1) [], ip_n4 12 (.goto 4) 15 16, ip_n9 15 (.iconst 0) 16 0 0 0 0 (.int 0) [], ip_n7 16 .ireturn 17 0 0 3 0]
set_option maxRecDepth 100000 in
noncomputable def ip_c156 : List (Nat × ip_E) := [ip_n4 0 (.iload_n 0) 1 0, ip_n4 1 (.ifCond .lt 13) 4 14, ip_n4 4 (.iload_n 0) 5 0, ip_n9 5 (.bipush 6) 7 0 0 0 0 (.int 6) [], ip_n4 7 (.if_icmp .ge 7) 10 14, ip_n9 10 (.iconst 1) 11 0 0 0 0 (.int 1) [], ip_n4 11 (.goto 4) 14 15, ip_n9 14 (.iconst 0) 15 0 0 0 0 (.int 0) [], ip_n7 15 .ireturn 16 0 0 3 0]
set_option maxRecDepth 100000 in
noncomputable def ip_c157 : List (Nat × ip_E) := [ip_n4 0 (.aload_n 0) 1 0, ip_n7 1 (.getfield 27) 4 10 2 2 70, ip_n7 4 (.invokevirtual 176) 7 11 1 1 123, ip_n4 7 (.ifCond .eq 13) 10 20, ip_n4 10 (.aload_n 0) 11 0, ip_n7 11 (.getfield 27) 14 10 2 2 70, ip_n7 14 (.getfield 170) 17 1 4 0 82, ip_n4 17 (.goto 4) 20 21, ip_n9 20 (.iconst (-1)) 21 0 0 0 0 (.int (-1)) [], ip_n4 21 .ireturn 22 0]
set_option maxRecDepth 100000 in
noncomputable def ip_d158_0 : List (Nat × ip_E) := [ip_n4 0 (.iload_n 1) 1 1, ip_n4 1 (.ifCond .ne 17) 4 18, ip_n4 4 (.aload_n 0) 5 0, ip_n7 5 (.getfield 12) 8 10 0 2 68, ip_n4 8 (.aload_n 2) 9 2, ip_n4 9 (.aload_n 3) 10 3, ip_n9 10 (.iconst 1) 11 0 0 0 0 (.int 1) [], ip_n4 11 (.aload_n 0) 12 0, ip_n7 12 (.getfield 84) 15 10 12 2 80, ip_n7 15 (.invokevirtual 398) 18 50 5 1 172, ip_n4 18 (.iload_n 1) 19 1, ip_n9 19 (.iconst 1) 20 0 0 0 0 (.int 1) [], ip_n4 20 (.if_icmp .ne 17) 23 37, ip_n4 23 (.aload_n 0) 24 0, ip_n7 24 (.getfield 12) 27 10 0 2 68, ip_n4 27 (.aload_n 2) 28 2, ip_n4 28 (.aload_n 3) 29 3, ip_n9 29 (.iconst (-1)) 30 0 0 0 0 (.int (-1)) [], ip_n4 30 (.aload_n 0) 31 0, ip_n7 31 (.getfield 84) 34 10 12 2 80, ip_n7 34 (.invokevirtual 398) 37 50 5 1 172, ip_n4 37 (.iload_n 1) 38 1, ip_n9 38 (.iconst 2) 39 0 0 0 0 (.int 2) [], ip_n4 39 (.if_icmp .ne 16) 42 55]
set_option maxRecDepth 100000 in
noncomputable def ip_d158_1 : List (Nat × ip_E) := [ip_n4 42 (.aload_n 0) 43 0, ip_n7 43 (.getfield 12) 46 10 0 2 68, ip_n4 46 (.aload_n 2) 47 2, ip_n4 47 (.aload_n 3) 48 3, ip_n4 48 (.aload_n 0) 49 0, ip_n7 49 (.getfield 84) 52 10 12 2 80, ip_n7 52 (.invokevirtual 401) 55 51 4 1 173, ip_n4 55 (.iload_n 1) 56 1, ip_n9 56 (.iconst 3) 57 0 0 0 0 (.int 3) [], ip_n4 57 (.if_icmp .ne 16) 60 73, ip_n4 60 (.aload_n 0) 61 0, ip_n7 61 (.getfield 12) 64 10 0 2 68, ip_n4 64 (.aload_n 2) 65 2, ip_n4 65 (.aload_n 3) 66 3, ip_n4 66 (.aload_n 0) 67 0, ip_n7 67 (.getfield 84) 70 10 12 2 80, ip_n7 70 (.invokevirtual 405) 73 52 4 1 174, ip_n4 73 .return_ 74 0]
set_option maxRecDepth 100000 in
noncomputable def ip_c158 : List (Nat × ip_E) := ip_d158_0 ++ (ip_d158_1)
set_option maxRecDepth 100000 in
noncomputable def ip_d159_0 : List (Nat × ip_E) := [ip_n4 0 (.aload_n 0) 1 0, ip_n7 1 (.getfield 72) 4 10 10 2 78, ip_n7 4 (.invokevirtual 355) 7 69 1 1 159, ip_n4 7 (.ifCond .ne 16) 10 23, ip_n4 10 (.aload_n 0) 11 0, ip_n7 11 (.getfield 72) 14 10 10 2 78, ip_n9 14 (.ldc2_w 408) 17 0 0 0 834 (.long 99) [], ip_n7 17 (.invokevirtual 327) 20 70 2 1 152, ip_n4 20 (.ifCond .eq 5) 23 25, ip_n9 23 (.iconst 0) 24 0 0 0 0 (.int 0) [], ip_n7 24 .ireturn 25 0 0 3 0, ip_n4 25 (.aload_n 0) 26 0, ip_n7 26 (.getfield 72) 29 10 10 2 78, ip_n9 29 (.iconst 0) 30 0 0 0 0 (.int 0) [], ip_n7 30 (.invokevirtual 292) 33 72 2 1 143, ip_n4 33 (.lstore_n 1) 34 1, ip_n4 34 (.aload_n 0) 35 0, ip_n7 35 (.getfield 72) 38 10 10 2 78, ip_n9 38 (.iconst 1) 39 0 0 0 0 (.int 1) [], ip_n7 39 (.invokevirtual 292) 42 72 2 1 143, ip_n4 42 .lneg 43 0, ip_n4 43 (.lstore_n 3) 44 3, ip_n4 44 (.aload_n 0) 45 0, ip_n7 45 (.getfield 72) 48 10 10 2 78]
set_option maxRecDepth 100000 in
noncomputable def ip_d159_1 : List (Nat × ip_E) := [ip_n9 48 (.iconst 2) 49 0 0 0 0 (.int 2) [], ip_n7 49 (.invokevirtual 292) 52 72 2 1 143, ip_n4 52 (.lstore 5) 54 5, ip_n4 54 (.lload_n 1) 55 1, ip_n4 55 (.lload_n 3) 56 3, ip_n4 56 (.lload 5) 58 5, ip_n7 58 (.invokestatic 91) 61 39 3 0 101, ip_n4 61 (.ifCond .eq 13) 64 74, ip_n4 64 (.lload_n 1) 65 1, ip_n4 65 (.lload_n 3) 66 3, ip_n4 66 (.lload 5) 68 5, ip_n7 68 (.invokestatic 99) 71 40 3 0 103, ip_n4 71 (.ifCond .ne 5) 74 76, ip_n9 74 (.iconst 0) 75 0 0 0 0 (.int 0) [], ip_n7 75 .ireturn 76 0 0 3 0, ip_n4 76 (.aload_n 0) 77 0, ip_n7 77 (.getfield 66) 80 10 9 2 77, ip_n4 80 (.lload_n 1) 81 1, ip_n4 81 .l2i 82 0, ip_n4 82 (.lload_n 3) 83 3, ip_n4 83 .l2i 84 0, ip_n4 84 (.lload 5) 86 5, ip_n4 86 .l2i 87 0, ip_n7 87 (.invokevirtual 393) 90 42 4 1 170]
set_option maxRecDepth 100000 in
noncomputable def ip_d159_2 : List (Nat × ip_E) := [ip_n4 90 (.aload_n 0) 91 0, ip_n7 91 (.getfield 66) 94 10 9 2 77, ip_n4 94 (.aload_n 0) 95 0, ip_n7 95 (.getfield 72) 98 10 10 2 78, ip_n4 98 (.aload_n 0) 99 0, ip_n7 99 (.getfield 84) 102 10 12 2 80, ip_n4 102 (.aload_n 0) 103 0, ip_n7 103 (.getfield 88) 106 10 13 2 81, ip_n7 106 (.invokevirtual 410) 109 53 4 1 175, ip_n4 109 (.ifCond .eq 27) 112 136, ip_n4 112 (.aload_n 0) 113 0, ip_n7 113 (.getfield 84) 116 10 12 2 80, ip_n7 116 (.invokevirtual 149) 119 99 1 1 116, ip_n4 119 (.ifCond .eq 17) 122 136, ip_n4 122 (.aload_n 0) 123 0, ip_n7 123 (.getfield 88) 126 10 13 2 81, ip_n7 126 (.invokevirtual 149) 129 99 1 1 116, ip_n4 129 (.ifCond .eq 7) 132 136, ip_n9 132 (.iconst 1) 133 0 0 0 0 (.int 1) [], ip_n4 133 (.goto 4) 136 137, ip_n9 136 (.iconst 0) 137 0 0 0 0 (.int 0) [], ip_n7 137 .ireturn 138 0 0 3 0]
set_option maxRecDepth 100000 in
noncomputable def ip_c159 : List (Nat × ip_E) := ip_d159_0 ++ (ip_d159_1 ++ (ip_d159_2))
set_option maxRecDepth 100000 in
noncomputable def ip_c160 : List (Nat × ip_E) := [ip_n4 0 (.aload_n 0) 1 0, ip_n7 1 (.getfield 27) 4 10 2 2 70, ip_n7 4 (.invokevirtual 176) 7 11 1 1 123, ip_n4 7 (.ifCond .eq 24) 10 31, ip_n4 10 (.aload_n 0) 11 0, ip_n7 11 (.getfield 79) 14 10 11 2 79, ip_n4 14 (.aload_n 0) 15 0, ip_n7 15 (.getfield 27) 18 10 2 2 70, ip_n7 18 (.getfield 313) 21 1 2 2 98, ip_n7 21 (.invokevirtual 414) 24 1 2 1 176, ip_n4 24 (.ifCond .eq 7) 27 31, ip_n9 27 (.iconst 1) 28 0 0 0 0 (.int 1) [], ip_n4 28 (.goto 4) 31 32, ip_n9 31 (.iconst 0) 32 0 0 0 0 (.int 0) [], ip_n7 32 .ireturn 33 0 0 3 0]
set_option maxRecDepth 100000 in
noncomputable def ip_c161 : List (Nat × ip_E) := [ip_n9 0 (.ldc_w 256) 3 0 0 0 897 (.int (-2147483648)) [], ip_n4 3 (.istore_n 3) 4 3, ip_n9 4 (.iconst 3) 5 0 0 0 0 (.int 3) [], ip_n4 5 (.iload_n 1) 6 1, ip_n4 6 .imul 7 0, ip_n9 7 (.iconst 1) 8 0 0 0 0 (.int 1) [], ip_n4 8 .iadd 9 0, ip_n4 9 (.istore 4) 11 4, ip_n4 11 (.iload_n 1) 12 1, ip_n4 12 .ineg 13 0, ip_n4 13 (.istore 5) 15 5, ip_n4 15 (.iload 5) 17 5, ip_n4 17 (.iload_n 1) 18 1, ip_n4 18 (.if_icmp .gt 110) 21 128, ip_n4 21 (.iload_n 1) 22 1, ip_n4 22 .ineg 23 0, ip_n4 23 (.istore 6) 25 6, ip_n4 25 (.iload 6) 27 6, ip_n4 27 (.iload_n 1) 28 1, ip_n4 28 (.if_icmp .gt 94) 31 122, ip_n4 31 (.aload_n 0) 32 0, ip_n7 32 (.getfield 27) 35 10 2 2 70, ip_n4 35 (.iload 5) 37 5, ip_n4 37 (.iload 6) 39 6, ip_n7 39 (.invokevirtual 417) 42 36 3 1 177, ip_n4 42 (.istore 7) 44 7, ip_n4 44 (.iload 7) 46 7, ip_n4 46 (.iload_n 1) 47 1, ip_n7 47 (.invokestatic 117) 50 155 2 0 108, ip_n4 50 (.ifCond .ne 6) 53 56, ip_n4 53 (.goto 63) 56 116, ip_n4 56 (.iload 5) 58 5, ip_n7 58 (.invokestatic 420) 61 293 1 0 178, ip_n4 61 (.iload 6) 63 6, ip_n7 63 (.invokestatic 420) 66 293 1 0 178, ip_n4 66 .iadd 67 0, ip_n4 67 (.iload 7) 69 7, ip_n7 69 (.invokestatic 420) 72 293 1 0 178, ip_n4 72 .iadd 73 0, ip_n4 73 (.istore 8) 75 8, ip_n4 75 (.iload 8) 77 8, ip_n4 77 (.ifCond .eq 39) 80 116, ip_n4 80 (.iload 8) 82 8, ip_n4 82 (.iload 4) 84 4, ip_n4 84 (.if_icmp .lt 6) 87 90, ip_n4 87 (.goto 29) 90 116, ip_n4 90 (.iload 8) 92 8, ip_n4 92 (.istore 4) 94 4, ip_n4 94 (.iload_n 2) 95 2, ip_n4 95 (.ifCond .ne 8) 98 103, ip_n4 98 (.iload 5) 100 5, ip_n4 100 (.goto 15) 103 115, ip_n4 103 (.iload_n 2) 104 2, ip_n9 104 (.iconst 1) 105 0 0 0 0 (.int 1) [], ip_n4 105 (.if_icmp .ne 8) 108 113, ip_n4 108 (.iload 6) 110 6, ip_n4 110 (.goto 5) 113 115, ip_n4 113 (.iload 7) 115 7, ip_n4 115 (.istore_n 3) 116 3, ip_n9 116 (.iinc 6 1) 119 6 0 0 0 (.int 1) [], ip_n4 119 (.goto (-94)) 122 25, ip_n9 122 (.iinc 5 1) 125 5 0 0 0 (.int 1) [], ip_n4 125 (.goto (-110)) 128 15, ip_n4 128 (.iload_n 3) 129 3, ip_n4 129 .ireturn 130 0]
set_option maxRecDepth 100000 in
noncomputable def ip_c162 : List (Nat × ip_E) := [ip_n4 0 (.aload_n 0) 1 0, ip_n7 1 (.getfield 34) 4 10 3 2 71, ip_n7 4 (.getfield 204) 7 9 1 0 85, ip_n4 7 (.aload_n 0) 8 0, ip_n7 8 (.getfield 27) 11 10 2 2 70, ip_n7 11 (.getfield 170) 14 1 4 0 82, ip_n7 14 (.invokestatic 425) 17 294 2 0 179, ip_n4 17 (.istore_n 1) 18 1, ip_n9 18 (.iconst 0) 19 0 0 0 0 (.int 0) [], ip_n4 19 (.istore_n 2) 20 2, ip_n4 20 (.iload_n 2) 21 2, ip_n4 21 (.iload_n 1) 22 1, ip_n4 22 (.if_icmp .ge 47) 25 69, ip_n9 25 (.iconst 0) 26 0 0 0 0 (.int 0) [], ip_n4 26 (.istore_n 3) 27 3, ip_n4 27 (.iload_n 3) 28 3, ip_n9 28 (.iconst 3) 29 0 0 0 0 (.int 3) [], ip_n4 29 (.if_icmp .ge 34) 32 63, ip_n4 32 (.aload_n 0) 33 0, ip_n7 33 (.getfield 34) 36 10 3 2 71, ip_n4 36 (.iload_n 2) 37 2, ip_n4 37 (.iload_n 3) 38 3, ip_n7 38 (.invokevirtual 369) 41 106 3 1 163, ip_n4 41 (.aload_n 0) 42 0, ip_n7 42 (.getfield 27) 45 10 2 2 70, ip_n4 45 (.iload_n 2) 46 2, ip_n9 46 (.iconst 1) 47 0 0 0 0 (.int 1) [], ip_n4 47 .iadd 48 0, ip_n4 48 (.iload_n 3) 49 3, ip_n7 49 (.invokevirtual 310) 52 17 3 1 148, ip_n4 52 (.if_icmp .eq 5) 55 57, ip_n4 55 (.iload_n 2) 56 2, ip_n4 56 .ireturn 57 0, ip_n9 57 (.iinc 3 1) 60 3 0 0 0 (.int 1) [], ip_n4 60 (.goto (-33)) 63 27, ip_n9 63 (.iinc 2 1) 66 2 0 0 0 (.int 1) [], ip_n4 66 (.goto (-46)) 69 20, ip_n4 69 (.iload_n 1) 70 1, ip_n4 70 .ireturn 71 0]
set_option maxRecDepth 100000 in
noncomputable def ip_d163_0 : List (Nat × ip_E) := [ip_n4 0 (.lload_n 0) 1 0, ip_n9 1 (.lconst 0) 2 0 0 0 0 (.long 0) [], ip_n4 2 .lcmp 3 0, ip_n4 3 (.ifCond .ge 8) 6 11, ip_n4 6 (.lload_n 0) 7 0, ip_n4 7 .lneg 8 0, ip_n4 8 (.goto 4) 11 12, ip_n4 11 (.lload_n 0) 12 0, ip_n4 12 (.lstore 4) 14 4, ip_n4 14 (.lload_n 2) 15 2, ip_n9 15 (.lconst 0) 16 0 0 0 0 (.long 0) [], ip_n4 16 .lcmp 17 0, ip_n4 17 (.ifCond .ge 8) 20 25, ip_n4 20 (.lload_n 2) 21 2, ip_n4 21 .lneg 22 0, ip_n4 22 (.goto 4) 25 26, ip_n4 25 (.lload_n 2) 26 2, ip_n4 26 (.lstore 6) 28 6, ip_n9 28 (.iconst 0) 29 0 0 0 0 (.int 0) [], ip_n4 29 (.istore 8) 31 8, ip_n4 31 (.iload 8) 33 8, ip_n9 33 (.sipush 200) 36 0 0 0 0 (.int 200) [], ip_n4 36 (.if_icmp .ge 31) 39 67, ip_n4 39 (.lload 6) 41 6]
set_option maxRecDepth 100000 in
noncomputable def ip_d163_1 : List (Nat × ip_E) := [ip_n9 41 (.lconst 0) 42 0 0 0 0 (.long 0) [], ip_n4 42 .lcmp 43 0, ip_n4 43 (.ifCond .eq 24) 46 67, ip_n4 46 (.lload 4) 48 4, ip_n4 48 (.lload 6) 50 6, ip_n4 50 .lrem 51 0, ip_n4 51 (.lstore 9) 53 9, ip_n4 53 (.lload 6) 55 6, ip_n4 55 (.lstore 4) 57 4, ip_n4 57 (.lload 9) 59 9, ip_n4 59 (.lstore 6) 61 6, ip_n9 61 (.iinc 8 1) 64 8 0 0 0 (.int 1) [], ip_n4 64 (.goto (-33)) 67 31, ip_n4 67 (.lload 4) 69 4, ip_n4 69 .lreturn 70 0]
set_option maxRecDepth 100000 in
noncomputable def ip_c163 : List (Nat × ip_E) := ip_d163_0 ++ (ip_d163_1)
set_option maxRecDepth 100000 in
noncomputable def ip_c164 : List (Nat × ip_E) := [ip_n4 0 (.lload_n 0) 1 0, ip_n4 1 (.lload_n 2) 2 2, ip_n7 2 (.invokestatic 428) 5 163 2 0 180, ip_n4 5 (.lstore 5) 7 5, ip_n4 7 (.lload 5) 9 5, ip_n9 9 (.lconst 0) 10 0 0 0 0 (.long 0) [], ip_n4 10 .lcmp 11 0, ip_n4 11 (.ifCond .ne 7) 14 18, ip_n9 14 (.ldc2_w 266) 17 0 0 0 909 (.long (-9223372036854775808)) [], ip_n4 17 .lreturn 18 0, ip_n4 18 (.iload 4) 20 4, ip_n4 20 (.ifCond .ne 10) 23 30, ip_n4 23 (.lload_n 0) 24 0, ip_n4 24 (.lload 5) 26 5, ip_n4 26 .ldiv 27 0, ip_n4 27 (.goto 7) 30 34, ip_n4 30 (.lload_n 2) 31 2, ip_n4 31 (.lload 5) 33 5, ip_n4 33 .ldiv 34 0, ip_n4 34 .lreturn 35 0]
set_option maxRecDepth 100000 in
noncomputable def ip_c165 : List (Nat × ip_E) := [ip_n4 0 (.aload_n 0) 1 0, ip_n7 1 (.invokespecial 1) 4 0 0 6 1, ip_n4 4 (.aload_n 0) 5 0, ip_n9 5 (.sipush 821) 8 0 0 0 0 (.int 821) [], ip_n4 8 (.newarray .int) 10 0, ip_n7 10 (.putfield 7) 13 11 1 2 102, ip_n4 13 (.aload_n 0) 14 0, ip_n9 14 (.bipush 9) 16 0 0 0 0 (.int 9) [], ip_n4 16 (.newarray .long) 18 1, ip_n7 18 (.putfield 13) 21 11 2 2 103, ip_n4 21 (.aload_n 0) 22 0, ip_n9 22 (.bipush 7) 24 0 0 0 0 (.int 7) [], ip_n4 24 (.newarray .int) 26 0, ip_n7 26 (.putfield 17) 29 11 5 2 104, ip_n4 29 (.aload_n 0) 30 0, ip_n9 30 (.sipush 6568) 33 0 0 0 0 (.int 6568) [], ip_n4 33 (.newarray .int) 35 0, ip_n7 35 (.putfield 20) 38 11 6 2 105, ip_n4 38 (.aload_n 0) 39 0, ip_n9 39 (.bipush 8) 41 0 0 0 0 (.int 8) [], ip_n4 41 (.newarray .int) 43 0, ip_n7 43 (.putfield 23) 46 11 7 2 106, ip_n4 46 (.aload_n 0) 47 0, ip_n9 47 (.sipush 1642) 50 0 0 0 0 (.int 1642) [], ip_n4 50 (.newarray .int) 52 0, ip_n7 52 (.putfield 26) 55 11 8 2 107, ip_n4 55 (.aload_n 0) 56 0, ip_n9 56 (.bipush 72) 58 0 0 0 0 (.int 72) [], ip_n4 58 (.newarray .long) 60 1, ip_n7 60 (.putfield 29) 63 11 9 2 108, ip_n4 63 (.aload_n 0) 64 0, ip_n9 64 (.bipush 18) 66 0 0 0 0 (.int 18) [], ip_n4 66 (.newarray .long) 68 1, ip_n7 68 (.putfield 32) 71 11 10 2 109, ip_n4 71 (.aload_n 0) 72 0, ip_n9 72 (.iconst 2) 73 0 0 0 0 (.int 2) [], ip_n4 73 (.newarray .boolean) 75 3, ip_n7 75 (.putfield 35) 78 11 11 2 110, ip_n4 78 (.aload_n 0) 79 0, ip_n9 79 (.bipush 9) 81 0 0 0 0 (.int 9) [], ip_n4 81 (.newarray .long) 83 1, ip_n7 83 (.putfield 39) 86 11 28 2 111, ip_n4 86 (.aload_n 0) 87 0, ip_n9 87 (.bipush 8) 89 0 0 0 0 (.int 8) [], ip_n4 89 (.newarray .int) 91 0, ip_n7 91 (.putfield 42) 94 11 30 2 112, ip_n4 94 (.aload_n 0) 95 0, ip_n9 95 (.sipush 200) 98 0 0 0 0 (.int 200) [], ip_n4 98 (.newarray .int) 100 0, ip_n7 100 (.putfield 45) 103 11 31 2 113, ip_n4 103 (.aload_n 0) 104 0, ip_n9 104 (.iconst (-1)) 105 0 0 0 0 (.int (-1)) [], ip_n7 105 (.putfield 48) 108 11 33 0 114, ip_n4 108 (.aload_n 0) 109 0, ip_n9 109 (.bipush 120) 111 0 0 0 0 (.int 120) [], ip_n4 111 (.newarray .int) 113 0, ip_n7 113 (.putfield 52) 116 11 39 2 115, ip_n4 116 (.aload_n 0) 117 0, ip_n9 117 (.sipush 200) 120 0 0 0 0 (.int 200) [], ip_n4 120 (.newarray .long) 122 1, ip_n7 122 (.putfield 55) 125 11 42 2 116, ip_n4 125 (.aload_n 0) 126 0, ip_n9 126 (.bipush 9) 128 0 0 0 0 (.int 9) [], ip_n4 128 (.newarray .long) 130 1, ip_n7 130 (.putfield 58) 133 11 43 2 117, ip_n4 133 (.aload_n 0) 134 0, ip_n9 134 (.iconst 4) 135 0 0 0 0 (.int 4) [], ip_n4 135 (.newarray .int) 137 0, ip_n7 137 (.putfield 61) 140 11 44 2 118, ip_n4 140 (.aload_n 0) 141 0, ip_n9 141 (.iconst 4) 142 0 0 0 0 (.int 4) [], ip_n4 142 (.newarray .int) 144 0, ip_n7 144 (.putfield 64) 147 11 45 2 119, ip_n4 147 (.aload_n 0) 148 0, ip_n9 148 (.sipush 821) 151 0 0 0 0 (.int 821) [], ip_n4 151 (.newarray .int) 153 0, ip_n7 153 (.putfield 67) 156 11 46 2 120, ip_n4 156 (.aload_n 0) 157 0, ip_n9 157 (.bipush 9) 159 0 0 0 0 (.int 9) [], ip_n4 159 (.newarray .long) 161 1, ip_n7 161 (.putfield 70) 164 11 47 2 121, ip_n4 164 (.aload_n 0) 165 0, ip_n9 165 (.iconst 0) 166 0 0 0 0 (.int 0) [], ip_n9 166 (.iconst 0) 167 0 0 0 0 (.int 0) [], ip_n9 167 (.iconst 2) 168 0 0 0 0 (.int 2) [], ip_n7 168 (.invokevirtual 73) 171 169 4 1 181, ip_n4 171 .return_ 172 0]
set_option maxRecDepth 100000 in
noncomputable def ip_c166 : List (Nat × ip_E) := [ip_n4 0 (.iload_n 0) 1 0, ip_n4 1 (.iload_n 1) 2 1, ip_n4 2 (.if_icmp .lt 12) 5 14, ip_n4 5 (.iload_n 0) 6 0, ip_n4 6 (.iload_n 2) 7 2, ip_n4 7 (.if_icmp .gt 7) 10 14, ip_n9 10 (.iconst 1) 11 0 0 0 0 (.int 1) [], ip_n4 11 (.goto 4) 14 15, ip_n9 14 (.iconst 0) 15 0 0 0 0 (.int 0) [], ip_n7 15 .ireturn 16 0 0 3 0]
set_option maxRecDepth 100000 in
noncomputable def ip_c167 : List (Nat × ip_E) := [ip_n4 0 (.aload_n 0) 1 0, ip_n4 1 (.iload_n 1) 2 1, ip_n7 2 (.putfield 80) 5 11 4 0 122, ip_n4 5 (.aload_n 0) 6 0, ip_n7 6 (.getfield 17) 9 11 5 2 104, ip_n4 9 (.iload_n 1) 10 1, ip_n4 10 .ineg 11 0, ip_n4 11 .dup2 12 0, ip_n4 12 .iaload 13 0, ip_n9 13 (.iconst 1) 14 0 0 0 0 (.int 1) [], ip_n4 14 .iadd 15 0, ip_n4 15 .iastore 16 0, ip_n4 16 (.iload_n 1) 17 1, ip_n4 17 .ireturn 18 0]
set_option maxRecDepth 100000 in
noncomputable def ip_c168 : List (Nat × ip_E) := [ip_n4 0 (.aload_n 0) 1 0, ip_n9 1 (.iconst 0) 2 0 0 0 0 (.int 0) [], ip_n7 2 (.putfield 80) 5 11 4 0 122, ip_n4 5 (.iload_n 1) 6 1, ip_n4 6 .ireturn 7 0]
set_option maxRecDepth 100000 in
noncomputable def ip_d169_0 : List (Nat × ip_E) := [ip_n4 0 (.aload_n 0) 1 0, ip_n7 1 (.getfield 7) 4 11 1 2 102, ip_n9 4 (.iconst 0) 5 0 0 0 0 (.int 0) [], ip_n4 5 (.iload_n 1) 6 1, ip_n4 6 .iastore 7 0, ip_n4 7 (.aload_n 0) 8 0, ip_n7 8 (.getfield 7) 11 11 1 2 102, ip_n9 11 (.iconst 1) 12 0 0 0 0 (.int 1) [], ip_n4 12 (.iload_n 2) 13 2, ip_n4 13 .iastore 14 0, ip_n4 14 (.aload_n 0) 15 0, ip_n7 15 (.getfield 7) 18 11 1 2 102, ip_n9 18 (.iconst 2) 19 0 0 0 0 (.int 2) [], ip_n4 19 (.iload_n 3) 20 3, ip_n4 20 .iastore 21 0, ip_n4 21 (.aload_n 0) 22 0, ip_n7 22 (.getfield 7) 25 11 1 2 102, ip_n9 25 (.iconst 3) 26 0 0 0 0 (.int 3) [], ip_n9 26 (.iconst 0) 27 0 0 0 0 (.int 0) [], ip_n4 27 .iastore 28 0, ip_n4 28 (.aload_n 0) 29 0, ip_n7 29 (.getfield 7) 32 11 1 2 102, ip_n9 32 (.iconst 5) 33 0 0 0 0 (.int 5) [], ip_n9 33 (.iconst 0) 34 0 0 0 0 (.int 0) []]
set_option maxRecDepth 100000 in
noncomputable def ip_d169_1 : List (Nat × ip_E) := [ip_n4 34 .iastore 35 0, ip_n4 35 (.aload_n 0) 36 0, ip_n7 36 (.getfield 7) 39 11 1 2 102, ip_n9 39 (.bipush 6) 41 0 0 0 0 (.int 6) [], ip_n9 41 (.iconst (-1)) 42 0 0 0 0 (.int (-1)) [], ip_n4 42 .iastore 43 0, ip_n4 43 (.aload_n 0) 44 0, ip_n7 44 (.getfield 7) 47 11 1 2 102, ip_n9 47 (.bipush 7) 49 0 0 0 0 (.int 7) [], ip_n9 49 (.iconst 0) 50 0 0 0 0 (.int 0) [], ip_n4 50 .iastore 51 0, ip_n9 51 (.iconst 0) 52 0 0 0 0 (.int 0) [], ip_n4 52 (.istore 4) 54 4, ip_n4 54 (.iload 4) 56 4, ip_n9 56 (.bipush 6) 58 0 0 0 0 (.int 6) [], ip_n4 58 (.if_icmp .ge 50) 61 108, ip_n9 61 (.iconst 0) 62 0 0 0 0 (.int 0) [], ip_n4 62 (.istore 5) 64 5, ip_n4 64 (.iload 5) 66 5, ip_n9 66 (.iconst 4) 67 0 0 0 0 (.int 4) [], ip_n4 67 (.if_icmp .ge 35) 70 102, ip_n4 70 (.aload_n 0) 71 0, ip_n7 71 (.getfield 7) 74 11 1 2 102, ip_n9 74 (.bipush 9) 76 0 0 0 0 (.int 9) []]
set_option maxRecDepth 100000 in
noncomputable def ip_d169_2 : List (Nat × ip_E) := [ip_n9 76 (.iconst 4) 77 0 0 0 0 (.int 4) [], ip_n4 77 (.iload 4) 79 4, ip_n4 79 .imul 80 0, ip_n4 80 .iadd 81 0, ip_n4 81 (.iload 5) 83 5, ip_n4 83 .iadd 84 0, ip_n4 84 (.iload 5) 86 5, ip_n9 86 (.iconst 3) 87 0 0 0 0 (.int 3) [], ip_n4 87 (.if_icmp .ne 7) 90 94, ip_n9 90 (.iconst 1) 91 0 0 0 0 (.int 1) [], ip_n4 91 (.goto 4) 94 95, ip_n9 94 (.iconst 0) 95 0 0 0 0 (.int 0) [], ip_n4 95 .iastore 96 0, ip_n9 96 (.iinc 5 1) 99 5 0 0 0 (.int 1) [], ip_n4 99 (.goto (-35)) 102 64, ip_n9 102 (.iinc 4 1) 105 4 0 0 0 (.int 1) [], ip_n4 105 (.goto (-51)) 108 54, ip_n4 108 .return_ 109 0]
set_option maxRecDepth 100000 in
noncomputable def ip_c169 : List (Nat × ip_E) := ip_d169_0 ++ (ip_d169_1 ++ (ip_d169_2))
set_option maxRecDepth 100000 in
noncomputable def ip_d170_0 : List (Nat × ip_E) := [ip_n4 0 (.aload_n 0) 1 0, ip_n7 1 (.getfield 83) 4 11 12 0 123, ip_n9 4 (.bipush 8) 6 0 0 0 0 (.int 8) [], ip_n4 6 (.if_icmp .ne 104) 9 110, ip_n9 9 (.sipush 821) 12 0 0 0 0 (.int 821) [], ip_n4 12 (.istore_n 2) 13 2, ip_n4 13 (.iload_n 2) 14 2, ip_n9 14 (.sipush 6568) 17 0 0 0 0 (.int 6568) [], ip_n4 17 (.if_icmp .ge 25) 20 42, ip_n4 20 (.aload_n 0) 21 0, ip_n7 21 (.getfield 20) 24 11 6 2 105, ip_n4 24 (.iload_n 2) 25 2, ip_n9 25 (.sipush 821) 28 0 0 0 0 (.int 821) [], ip_n4 28 .isub 29 0, ip_n4 29 (.aload_n 0) 30 0, ip_n7 30 (.getfield 20) 33 11 6 2 105, ip_n4 33 (.iload_n 2) 34 2, ip_n4 34 .iaload 35 0, ip_n4 35 .iastore 36 0, ip_n9 36 (.iinc 2 1) 39 2 0 0 0 (.int 1) [], ip_n4 39 (.goto (-26)) 42 13, ip_n9 42 (.bipush 9) 44 0 0 0 0 (.int 9) [], ip_n4 44 (.istore_n 2) 45 2, ip_n4 45 (.iload_n 2) 46 2]
set_option maxRecDepth 100000 in
noncomputable def ip_d170_1 : List (Nat × ip_E) := [ip_n9 46 (.bipush 72) 48 0 0 0 0 (.int 72) [], ip_n4 48 (.if_icmp .ge 24) 51 72, ip_n4 51 (.aload_n 0) 52 0, ip_n7 52 (.getfield 29) 55 11 9 2 108, ip_n4 55 (.iload_n 2) 56 2, ip_n9 56 (.bipush 9) 58 0 0 0 0 (.int 9) [], ip_n4 58 .isub 59 0, ip_n4 59 (.aload_n 0) 60 0, ip_n7 60 (.getfield 29) 63 11 9 2 108, ip_n4 63 (.iload_n 2) 64 2, ip_n4 64 .laload 65 0, ip_n4 65 .lastore 66 0, ip_n9 66 (.iinc 2 1) 69 2 0 0 0 (.int 1) [], ip_n4 69 (.goto (-24)) 72 45, ip_n9 72 (.iconst 1) 73 0 0 0 0 (.int 1) [], ip_n4 73 (.istore_n 2) 74 2, ip_n4 74 (.iload_n 2) 75 2, ip_n9 75 (.bipush 8) 77 0 0 0 0 (.int 8) [], ip_n4 77 (.if_icmp .ge 23) 80 100, ip_n4 80 (.aload_n 0) 81 0, ip_n7 81 (.getfield 23) 84 11 7 2 106, ip_n4 84 (.iload_n 2) 85 2, ip_n9 85 (.iconst 1) 86 0 0 0 0 (.int 1) [], ip_n4 86 .isub 87 0]
set_option maxRecDepth 100000 in
noncomputable def ip_d170_2 : List (Nat × ip_E) := [ip_n4 87 (.aload_n 0) 88 0, ip_n7 88 (.getfield 23) 91 11 7 2 106, ip_n4 91 (.iload_n 2) 92 2, ip_n4 92 .iaload 93 0, ip_n4 93 .iastore 94 0, ip_n9 94 (.iinc 2 1) 97 2 0 0 0 (.int 1) [], ip_n4 97 (.goto (-23)) 100 74, ip_n4 100 (.aload_n 0) 101 0, ip_n4 101 .dup 102 0, ip_n7 102 (.getfield 83) 105 11 12 0 123, ip_n9 105 (.iconst 1) 106 0 0 0 0 (.int 1) [], ip_n4 106 .isub 107 0, ip_n7 107 (.putfield 83) 110 11 12 0 123, ip_n9 110 (.iconst 0) 111 0 0 0 0 (.int 0) [], ip_n4 111 (.istore_n 2) 112 2, ip_n4 112 (.iload_n 2) 113 2, ip_n9 113 (.sipush 821) 116 0 0 0 0 (.int 821) [], ip_n4 116 (.if_icmp .ge 30) 119 146, ip_n4 119 (.aload_n 0) 120 0, ip_n7 120 (.getfield 20) 123 11 6 2 105, ip_n9 123 (.sipush 821) 126 0 0 0 0 (.int 821) [], ip_n4 126 (.aload_n 0) 127 0, ip_n7 127 (.getfield 83) 130 11 12 0 123, ip_n4 130 .imul 131 0]
set_option maxRecDepth 100000 in
noncomputable def ip_d170_3 : List (Nat × ip_E) := [ip_n4 131 (.iload_n 2) 132 2, ip_n4 132 .iadd 133 0, ip_n4 133 (.aload_n 0) 134 0, ip_n7 134 (.getfield 7) 137 11 1 2 102, ip_n4 137 (.iload_n 2) 138 2, ip_n4 138 .iaload 139 0, ip_n4 139 .iastore 140 0, ip_n9 140 (.iinc 2 1) 143 2 0 0 0 (.int 1) [], ip_n4 143 (.goto (-31)) 146 112, ip_n9 146 (.iconst 0) 147 0 0 0 0 (.int 0) [], ip_n4 147 (.istore_n 2) 148 2, ip_n4 148 (.iload_n 2) 149 2, ip_n9 149 (.bipush 9) 151 0 0 0 0 (.int 9) [], ip_n4 151 (.if_icmp .ge 29) 154 180, ip_n4 154 (.aload_n 0) 155 0, ip_n7 155 (.getfield 29) 158 11 9 2 108, ip_n9 158 (.bipush 9) 160 0 0 0 0 (.int 9) [], ip_n4 160 (.aload_n 0) 161 0, ip_n7 161 (.getfield 83) 164 11 12 0 123, ip_n4 164 .imul 165 0, ip_n4 165 (.iload_n 2) 166 2, ip_n4 166 .iadd 167 0, ip_n4 167 (.aload_n 0) 168 0, ip_n7 168 (.getfield 13) 171 11 2 2 103]
set_option maxRecDepth 100000 in
noncomputable def ip_d170_4 : List (Nat × ip_E) := [ip_n4 171 (.iload_n 2) 172 2, ip_n4 172 .laload 173 0, ip_n4 173 .lastore 174 0, ip_n9 174 (.iinc 2 1) 177 2 0 0 0 (.int 1) [], ip_n4 177 (.goto (-29)) 180 148, ip_n4 180 (.aload_n 0) 181 0, ip_n7 181 (.getfield 23) 184 11 7 2 106, ip_n4 184 (.aload_n 0) 185 0, ip_n7 185 (.getfield 83) 188 11 12 0 123, ip_n4 188 (.iload_n 1) 189 1, ip_n4 189 .iastore 190 0, ip_n4 190 (.aload_n 0) 191 0, ip_n4 191 .dup 192 0, ip_n7 192 (.getfield 83) 195 11 12 0 123, ip_n9 195 (.iconst 1) 196 0 0 0 0 (.int 1) [], ip_n4 196 .iadd 197 0, ip_n7 197 (.putfield 83) 200 11 12 0 123, ip_n4 200 .return_ 201 0]
set_option maxRecDepth 100000 in
noncomputable def ip_c170 : List (Nat × ip_E) := ip_d170_0 ++ (ip_d170_1 ++ (ip_d170_2 ++ (ip_d170_3 ++ (ip_d170_4))))
set_option maxRecDepth 100000 in
noncomputable def ip_d171_0 : List (Nat × ip_E) := [ip_n9 0 (.iconst 0) 1 0 0 0 0 (.int 0) [], ip_n4 1 (.istore_n 1) 2 1, ip_n4 2 (.iload_n 1) 3 1, ip_n9 3 (.sipush 821) 6 0 0 0 0 (.int 821) [], ip_n4 6 (.if_icmp .ge 30) 9 36, ip_n4 9 (.aload_n 0) 10 0, ip_n7 10 (.getfield 7) 13 11 1 2 102, ip_n4 13 (.iload_n 1) 14 1, ip_n4 14 (.aload_n 0) 15 0, ip_n7 15 (.getfield 20) 18 11 6 2 105, ip_n9 18 (.sipush 821) 21 0 0 0 0 (.int 821) [], ip_n4 21 (.aload_n 0) 22 0, ip_n7 22 (.getfield 83) 25 11 12 0 123, ip_n4 25 .imul 26 0, ip_n4 26 (.iload_n 1) 27 1, ip_n4 27 .iadd 28 0, ip_n4 28 .iaload 29 0, ip_n4 29 .iastore 30 0, ip_n9 30 (.iinc 1 1) 33 1 0 0 0 (.int 1) [], ip_n4 33 (.goto (-31)) 36 2, ip_n9 36 (.iconst 0) 37 0 0 0 0 (.int 0) [], ip_n4 37 (.istore_n 1) 38 1, ip_n4 38 (.iload_n 1) 39 1, ip_n9 39 (.bipush 9) 41 0 0 0 0 (.int 9) []]
set_option maxRecDepth 100000 in
noncomputable def ip_d171_1 : List (Nat × ip_E) := [ip_n4 41 (.if_icmp .ge 29) 44 70, ip_n4 44 (.aload_n 0) 45 0, ip_n7 45 (.getfield 13) 48 11 2 2 103, ip_n4 48 (.iload_n 1) 49 1, ip_n4 49 (.aload_n 0) 50 0, ip_n7 50 (.getfield 29) 53 11 9 2 108, ip_n9 53 (.bipush 9) 55 0 0 0 0 (.int 9) [], ip_n4 55 (.aload_n 0) 56 0, ip_n7 56 (.getfield 83) 59 11 12 0 123, ip_n4 59 .imul 60 0, ip_n4 60 (.iload_n 1) 61 1, ip_n4 61 .iadd 62 0, ip_n4 62 .laload 63 0, ip_n4 63 .lastore 64 0, ip_n9 64 (.iinc 1 1) 67 1 0 0 0 (.int 1) [], ip_n4 67 (.goto (-29)) 70 38, ip_n4 70 .return_ 71 0]
set_option maxRecDepth 100000 in
noncomputable def ip_c171 : List (Nat × ip_E) := ip_d171_0 ++ (ip_d171_1)
set_option maxRecDepth 100000 in
noncomputable def ip_c172 : List (Nat × ip_E) := [ip_n4 0 (.aload_n 0) 1 0, ip_n9 1 (.iconst 0) 2 0 0 0 0 (.int 0) [], ip_n7 2 (.putfield 77) 5 11 0 0 124, ip_n4 5 (.aload_n 0) 6 0, ip_n7 6 (.getfield 83) 9 11 12 0 123, ip_n4 9 (.ifCond .ne 10) 12 19, ip_n4 12 (.aload_n 0) 13 0, ip_n9 13 (.bipush (-4)) 15 0 0 0 0 (.int (-4)) [], ip_n7 15 (.invokevirtual 86) 18 167 2 1 182, ip_n4 18 .ireturn 19 0, ip_n4 19 (.aload_n 0) 20 0, ip_n4 20 .dup 21 0, ip_n7 21 (.getfield 83) 24 11 12 0 123, ip_n9 24 (.iconst 1) 25 0 0 0 0 (.int 1) [], ip_n4 25 .isub 26 0, ip_n7 26 (.putfield 83) 29 11 12 0 123, ip_n4 29 (.aload_n 0) 30 0, ip_n7 30 (.invokevirtual 90) 33 171 1 1 183, ip_n4 33 (.aload_n 0) 34 0, ip_n4 34 (.aload_n 0) 35 0, ip_n7 35 (.getfield 23) 38 11 7 2 106, ip_n4 38 (.aload_n 0) 39 0, ip_n7 39 (.getfield 83) 42 11 12 0 123, ip_n4 42 .iaload 43 0, ip_n7 43 (.invokevirtual 93) 46 168 2 1 184, ip_n4 46 .ireturn 47 0]
set_option maxRecDepth 100000 in
noncomputable def ip_c173 : List (Nat × ip_E) := [ip_n4 0 (.aload_n 0) 1 0, ip_n7 1 (.getfield 7) 4 11 1 2 102, ip_n9 4 (.iconst 3) 5 0 0 0 0 (.int 3) [], ip_n4 5 .iaload 6 0, ip_n9 6 (.iconst 1) 7 0 0 0 0 (.int 1) [], ip_n4 7 (.if_icmp .ne 12) 10 19, ip_n4 10 (.aload_n 0) 11 0, ip_n7 11 (.getfield 7) 14 11 1 2 102, ip_n9 14 (.iconst 5) 15 0 0 0 0 (.int 5) [], ip_n4 15 .iaload 16 0, ip_n4 16 (.goto 4) 19 20, ip_n9 19 (.iconst (-1)) 20 0 0 0 0 (.int (-1)) [], ip_n4 20 .ireturn 21 0]
set_option maxRecDepth 100000 in
noncomputable def ip_d174_0 : List (Nat × ip_E) := [ip_n4 0 (.aload_n 0) 1 0, ip_n9 1 (.iconst 0) 2 0 0 0 0 (.int 0) [], ip_n7 2 (.putfield 77) 5 11 0 0 124, ip_n4 5 (.iload_n 1) 6 1, ip_n9 6 (.iconst 0) 7 0 0 0 0 (.int 0) [], ip_n9 7 (.iconst 1) 8 0 0 0 0 (.int 1) [], ip_n7 8 (.invokestatic 96) 11 166 3 0 185, ip_n4 11 (.ifCond .ne 9) 14 20, ip_n4 14 (.aload_n 0) 15 0, ip_n9 15 (.iconst (-1)) 16 0 0 0 0 (.int (-1)) [], ip_n7 16 (.invokevirtual 86) 19 167 2 1 182, ip_n4 19 .ireturn 20 0, ip_n9 20 (.iconst 0) 21 0 0 0 0 (.int 0) [], ip_n4 21 (.istore_n 2) 22 2, ip_n4 22 (.iload_n 2) 23 2, ip_n9 23 (.sipush 821) 26 0 0 0 0 (.int 821) [], ip_n4 26 (.if_icmp .ge 27) 29 53, ip_n4 29 (.aload_n 0) 30 0, ip_n7 30 (.getfield 26) 33 11 8 2 107, ip_n9 33 (.sipush 821) 36 0 0 0 0 (.int 821) [], ip_n4 36 (.iload_n 1) 37 1, ip_n4 37 .imul 38 0, ip_n4 38 (.iload_n 2) 39 2, ip_n4 39 .iadd 40 0]
set_option maxRecDepth 100000 in
noncomputable def ip_d174_1 : List (Nat × ip_E) := [ip_n4 40 (.aload_n 0) 41 0, ip_n7 41 (.getfield 7) 44 11 1 2 102, ip_n4 44 (.iload_n 2) 45 2, ip_n4 45 .iaload 46 0, ip_n4 46 .iastore 47 0, ip_n9 47 (.iinc 2 1) 50 2 0 0 0 (.int 1) [], ip_n4 50 (.goto (-28)) 53 22, ip_n9 53 (.iconst 0) 54 0 0 0 0 (.int 0) [], ip_n4 54 (.istore_n 2) 55 2, ip_n4 55 (.iload_n 2) 56 2, ip_n9 56 (.bipush 9) 58 0 0 0 0 (.int 9) [], ip_n4 58 (.if_icmp .ge 26) 61 84, ip_n4 61 (.aload_n 0) 62 0, ip_n7 62 (.getfield 32) 65 11 10 2 109, ip_n9 65 (.bipush 9) 67 0 0 0 0 (.int 9) [], ip_n4 67 (.iload_n 1) 68 1, ip_n4 68 .imul 69 0, ip_n4 69 (.iload_n 2) 70 2, ip_n4 70 .iadd 71 0, ip_n4 71 (.aload_n 0) 72 0, ip_n7 72 (.getfield 13) 75 11 2 2 103, ip_n4 75 (.iload_n 2) 76 2, ip_n4 76 .laload 77 0, ip_n4 77 .lastore 78 0]
set_option maxRecDepth 100000 in
noncomputable def ip_d174_2 : List (Nat × ip_E) := [ip_n9 78 (.iinc 2 1) 81 2 0 0 0 (.int 1) [], ip_n4 81 (.goto (-26)) 84 55, ip_n4 84 (.aload_n 0) 85 0, ip_n7 85 (.getfield 35) 88 11 11 2 110, ip_n4 88 (.iload_n 1) 89 1, ip_n9 89 (.iconst 1) 90 0 0 0 0 (.int 1) [], ip_n4 90 .bastore 91 0, ip_n4 91 (.aload_n 0) 92 0, ip_n4 92 (.aload_n 0) 93 0, ip_n7 93 (.invokevirtual 100) 96 173 1 1 186, ip_n7 96 (.invokevirtual 93) 99 168 2 1 184, ip_n4 99 .ireturn 100 0]
set_option maxRecDepth 100000 in
noncomputable def ip_c174 : List (Nat × ip_E) := ip_d174_0 ++ (ip_d174_1 ++ (ip_d174_2))
set_option maxRecDepth 100000 in
noncomputable def ip_d175_0 : List (Nat × ip_E) := [ip_n4 0 (.aload_n 0) 1 0, ip_n9 1 (.iconst 0) 2 0 0 0 0 (.int 0) [], ip_n7 2 (.putfield 77) 5 11 0 0 124, ip_n4 5 (.iload_n 1) 6 1, ip_n9 6 (.iconst 0) 7 0 0 0 0 (.int 0) [], ip_n9 7 (.iconst 1) 8 0 0 0 0 (.int 1) [], ip_n7 8 (.invokestatic 96) 11 166 3 0 185, ip_n4 11 (.ifCond .ne 9) 14 20, ip_n4 14 (.aload_n 0) 15 0, ip_n9 15 (.iconst (-1)) 16 0 0 0 0 (.int (-1)) [], ip_n7 16 (.invokevirtual 86) 19 167 2 1 182, ip_n4 19 .ireturn 20 0, ip_n4 20 (.aload_n 0) 21 0, ip_n7 21 (.getfield 35) 24 11 11 2 110, ip_n4 24 (.iload_n 1) 25 1, ip_n4 25 .baload 26 0, ip_n4 26 (.ifCond .ne 10) 29 36, ip_n4 29 (.aload_n 0) 30 0, ip_n9 30 (.bipush (-2)) 32 0 0 0 0 (.int (-2)) [], ip_n7 32 (.invokevirtual 86) 35 167 2 1 182, ip_n4 35 .ireturn 36 0, ip_n9 36 (.iconst 0) 37 0 0 0 0 (.int 0) [], ip_n4 37 (.istore_n 2) 38 2, ip_n4 38 (.iload_n 2) 39 2]
set_option maxRecDepth 100000 in
noncomputable def ip_d175_1 : List (Nat × ip_E) := [ip_n9 39 (.sipush 821) 42 0 0 0 0 (.int 821) [], ip_n4 42 (.if_icmp .ge 27) 45 69, ip_n4 45 (.aload_n 0) 46 0, ip_n7 46 (.getfield 7) 49 11 1 2 102, ip_n4 49 (.iload_n 2) 50 2, ip_n4 50 (.aload_n 0) 51 0, ip_n7 51 (.getfield 26) 54 11 8 2 107, ip_n9 54 (.sipush 821) 57 0 0 0 0 (.int 821) [], ip_n4 57 (.iload_n 1) 58 1, ip_n4 58 .imul 59 0, ip_n4 59 (.iload_n 2) 60 2, ip_n4 60 .iadd 61 0, ip_n4 61 .iaload 62 0, ip_n4 62 .iastore 63 0, ip_n9 63 (.iinc 2 1) 66 2 0 0 0 (.int 1) [], ip_n4 66 (.goto (-28)) 69 38, ip_n9 69 (.iconst 0) 70 0 0 0 0 (.int 0) [], ip_n4 70 (.istore_n 2) 71 2, ip_n4 71 (.iload_n 2) 72 2, ip_n9 72 (.bipush 9) 74 0 0 0 0 (.int 9) [], ip_n4 74 (.if_icmp .ge 26) 77 100, ip_n4 77 (.aload_n 0) 78 0, ip_n7 78 (.getfield 13) 81 11 2 2 103, ip_n4 81 (.iload_n 2) 82 2]
set_option maxRecDepth 100000 in
noncomputable def ip_d175_2 : List (Nat × ip_E) := [ip_n4 82 (.aload_n 0) 83 0, ip_n7 83 (.getfield 32) 86 11 10 2 109, ip_n9 86 (.bipush 9) 88 0 0 0 0 (.int 9) [], ip_n4 88 (.iload_n 1) 89 1, ip_n4 89 .imul 90 0, ip_n4 90 (.iload_n 2) 91 2, ip_n4 91 .iadd 92 0, ip_n4 92 .laload 93 0, ip_n4 93 .lastore 94 0, ip_n9 94 (.iinc 2 1) 97 2 0 0 0 (.int 1) [], ip_n4 97 (.goto (-26)) 100 71, ip_n4 100 (.aload_n 0) 101 0, ip_n9 101 (.iconst 0) 102 0 0 0 0 (.int 0) [], ip_n7 102 (.putfield 83) 105 11 12 0 123, ip_n4 105 (.aload_n 0) 106 0, ip_n4 106 (.aload_n 0) 107 0, ip_n7 107 (.invokevirtual 100) 110 173 1 1 186, ip_n7 110 (.invokevirtual 93) 113 168 2 1 184, ip_n4 113 .ireturn 114 0]
set_option maxRecDepth 100000 in
noncomputable def ip_c175 : List (Nat × ip_E) := ip_d175_0 ++ (ip_d175_1 ++ (ip_d175_2))
set_option maxRecDepth 100000 in
noncomputable def ip_c176 : List (Nat × ip_E) := [ip_n4 0 (.aload_n 0) 1 0, ip_n7 1 (.getfield 7) 4 11 1 2 102, ip_n9 4 (.iconst 0) 5 0 0 0 0 (.int 0) [], ip_n4 5 .iaload 6 0, ip_n4 6 .i2l 7 0, ip_n4 7 .lreturn 8 0]
set_option maxRecDepth 100000 in
noncomputable def ip_c177 : List (Nat × ip_E) := [ip_n4 0 (.aload_n 0) 1 0, ip_n7 1 (.getfield 7) 4 11 1 2 102, ip_n9 4 (.iconst 1) 5 0 0 0 0 (.int 1) [], ip_n4 5 .iaload 6 0, ip_n4 6 .ineg 7 0, ip_n4 7 .i2l 8 0, ip_n4 8 .lreturn 9 0]
set_option maxRecDepth 100000 in
noncomputable def ip_c178 : List (Nat × ip_E) := [ip_n4 0 (.aload_n 0) 1 0, ip_n7 1 (.getfield 7) 4 11 1 2 102, ip_n9 4 (.iconst 2) 5 0 0 0 0 (.int 2) [], ip_n4 5 .iaload 6 0, ip_n4 6 .i2l 7 0, ip_n4 7 .lreturn 8 0]
set_option maxRecDepth 100000 in
noncomputable def ip_c179 : List (Nat × ip_E) := [ip_n4 0 (.aload_n 0) 1 0, ip_n7 1 (.invokevirtual 104) 4 176 1 1 187, ip_n4 4 (.aload_n 0) 5 0, ip_n7 5 (.invokevirtual 104) 8 176 1 1 187, ip_n4 8 .lmul 9 0, ip_n9 9 (.ldc2_w 108) 12 0 0 0 1378 (.long 2) [], ip_n4 12 (.aload_n 0) 13 0, ip_n7 13 (.invokevirtual 110) 16 177 1 1 188, ip_n4 16 .lmul 17 0, ip_n4 17 .lsub 18 0, ip_n4 18 .lreturn 19 0]
set_option maxRecDepth 100000 in
noncomputable def ip_c180 : List (Nat × ip_E) := [ip_n4 0 (.aload_n 0) 1 0, ip_n7 1 (.invokevirtual 104) 4 176 1 1 187, ip_n4 4 (.aload_n 0) 5 0, ip_n7 5 (.invokevirtual 110) 8 177 1 1 188, ip_n4 8 .lmul 9 0, ip_n9 9 (.ldc2_w 113) 12 0 0 0 1387 (.long 3) [], ip_n4 12 (.aload_n 0) 13 0, ip_n7 13 (.invokevirtual 115) 16 178 1 1 189, ip_n4 16 .lmul 17 0, ip_n4 17 .lsub 18 0, ip_n4 18 .lreturn 19 0]
set_option maxRecDepth 100000 in
noncomputable def ip_c181 : List (Nat × ip_E) := [ip_n4 0 (.aload_n 0) 1 0, ip_n7 1 (.invokevirtual 110) 4 177 1 1 188, ip_n4 4 (.aload_n 0) 5 0, ip_n7 5 (.invokevirtual 110) 8 177 1 1 188, ip_n4 8 .lmul 9 0, ip_n9 9 (.ldc2_w 108) 12 0 0 0 1378 (.long 2) [], ip_n4 12 (.aload_n 0) 13 0, ip_n7 13 (.invokevirtual 104) 16 176 1 1 187, ip_n4 16 .lmul 17 0, ip_n4 17 (.aload_n 0) 18 0, ip_n7 18 (.invokevirtual 115) 21 178 1 1 189, ip_n4 21 .lmul 22 0, ip_n4 22 .lsub 23 0, ip_n4 23 .lreturn 24 0]
set_option maxRecDepth 100000 in
noncomputable def ip_c182 : List (Nat × ip_E) := [ip_n9 0 (.ldc2_w 113) 3 0 0 0 1387 (.long 3) [], ip_n4 3 (.lload_n 1) 4 1, ip_n4 4 .lmul 5 0, ip_n4 5 (.lload_n 3) 6 3, ip_n4 6 (.aload_n 0) 7 0, ip_n7 7 (.invokevirtual 104) 10 176 1 1 187, ip_n4 10 .lmul 11 0, ip_n4 11 .ladd 12 0, ip_n4 12 (.lload 5) 14 5, ip_n4 14 (.aload_n 0) 15 0, ip_n7 15 (.invokevirtual 118) 18 179 1 1 190, ip_n4 18 .lmul 19 0, ip_n4 19 .ladd 20 0, ip_n4 20 .lreturn 21 0]
set_option maxRecDepth 100000 in
noncomputable def ip_d183_0 : List (Nat × ip_E) := [ip_n9 0 (.ldc2_w 113) 3 0 0 0 1387 (.long 3) [], ip_n4 3 (.lload_n 1) 4 1, ip_n4 4 .lmul 5 0, ip_n4 5 (.lload_n 1) 6 1, ip_n4 6 .lmul 7 0, ip_n9 7 (.ldc2_w 108) 10 0 0 0 1378 (.long 2) [], ip_n4 10 (.lload_n 1) 11 1, ip_n4 11 .lmul 12 0, ip_n4 12 (.lload_n 3) 13 3, ip_n4 13 .lmul 14 0, ip_n4 14 (.aload_n 0) 15 0, ip_n7 15 (.invokevirtual 104) 18 176 1 1 187, ip_n4 18 .lmul 19 0, ip_n4 19 .ladd 20 0, ip_n9 20 (.ldc2_w 108) 23 0 0 0 1378 (.long 2) [], ip_n4 23 (.lload_n 1) 24 1, ip_n4 24 .lmul 25 0, ip_n4 25 (.lload 5) 27 5, ip_n4 27 .lmul 28 0, ip_n4 28 (.aload_n 0) 29 0, ip_n7 29 (.invokevirtual 118) 32 179 1 1 190, ip_n4 32 .lmul 33 0, ip_n4 33 .ladd 34 0, ip_n4 34 (.lload_n 3) 35 3]
set_option maxRecDepth 100000 in
noncomputable def ip_d183_1 : List (Nat × ip_E) := [ip_n4 35 (.lload_n 3) 36 3, ip_n4 36 .lmul 37 0, ip_n4 37 (.aload_n 0) 38 0, ip_n7 38 (.invokevirtual 110) 41 177 1 1 188, ip_n4 41 .lmul 42 0, ip_n4 42 .ladd 43 0, ip_n4 43 (.lload_n 3) 44 3, ip_n4 44 (.lload 5) 46 5, ip_n4 46 .lmul 47 0, ip_n4 47 (.aload_n 0) 48 0, ip_n7 48 (.invokevirtual 121) 51 180 1 1 191, ip_n4 51 .lmul 52 0, ip_n4 52 .ladd 53 0, ip_n4 53 (.lload 5) 55 5, ip_n4 55 (.lload 5) 57 5, ip_n4 57 .lmul 58 0, ip_n4 58 (.aload_n 0) 59 0, ip_n7 59 (.invokevirtual 124) 62 181 1 1 192, ip_n4 62 .lmul 63 0, ip_n4 63 .ladd 64 0, ip_n4 64 .lreturn 65 0]
set_option maxRecDepth 100000 in
noncomputable def ip_c183 : List (Nat × ip_E) := ip_d183_0 ++ (ip_d183_1)
set_option maxRecDepth 100000 in
noncomputable def ip_d184_0 : List (Nat × ip_E) := [ip_n4 0 (.lload_n 1) 1 1, ip_n4 1 (.lload_n 1) 2 1, ip_n4 2 .lmul 3 0, ip_n4 3 (.lload_n 1) 4 1, ip_n4 4 .lmul 5 0, ip_n4 5 (.lload_n 1) 6 1, ip_n4 6 (.lload_n 1) 7 1, ip_n4 7 .lmul 8 0, ip_n4 8 (.lload_n 3) 9 3, ip_n4 9 .lmul 10 0, ip_n4 10 (.aload_n 0) 11 0, ip_n7 11 (.invokevirtual 104) 14 176 1 1 187, ip_n4 14 .lmul 15 0, ip_n4 15 .ladd 16 0, ip_n4 16 (.lload_n 1) 17 1, ip_n4 17 (.lload_n 1) 18 1, ip_n4 18 .lmul 19 0, ip_n4 19 (.lload 5) 21 5, ip_n4 21 .lmul 22 0, ip_n4 22 (.aload_n 0) 23 0, ip_n7 23 (.invokevirtual 118) 26 179 1 1 190, ip_n4 26 .lmul 27 0, ip_n4 27 .ladd 28 0, ip_n4 28 (.lload_n 1) 29 1]
set_option maxRecDepth 100000 in
noncomputable def ip_d184_1 : List (Nat × ip_E) := [ip_n4 29 (.lload_n 3) 30 3, ip_n4 30 .lmul 31 0, ip_n4 31 (.lload_n 3) 32 3, ip_n4 32 .lmul 33 0, ip_n4 33 (.aload_n 0) 34 0, ip_n7 34 (.invokevirtual 110) 37 177 1 1 188, ip_n4 37 .lmul 38 0, ip_n4 38 .ladd 39 0, ip_n4 39 (.lload_n 1) 40 1, ip_n4 40 (.lload_n 3) 41 3, ip_n4 41 .lmul 42 0, ip_n4 42 (.lload 5) 44 5, ip_n4 44 .lmul 45 0, ip_n4 45 (.aload_n 0) 46 0, ip_n7 46 (.invokevirtual 121) 49 180 1 1 191, ip_n4 49 .lmul 50 0, ip_n4 50 .ladd 51 0, ip_n4 51 (.lload_n 1) 52 1, ip_n4 52 (.lload 5) 54 5, ip_n4 54 .lmul 55 0, ip_n4 55 (.lload 5) 57 5, ip_n4 57 .lmul 58 0, ip_n4 58 (.aload_n 0) 59 0, ip_n7 59 (.invokevirtual 124) 62 181 1 1 192]
set_option maxRecDepth 100000 in
noncomputable def ip_d184_2 : List (Nat × ip_E) := [ip_n4 62 .lmul 63 0, ip_n4 63 .ladd 64 0, ip_n4 64 (.lstore 7) 66 7, ip_n4 66 (.lload 7) 68 7, ip_n4 68 (.aload_n 0) 69 0, ip_n7 69 (.invokevirtual 115) 72 178 1 1 189, ip_n4 72 (.lload_n 3) 73 3, ip_n4 73 (.lload_n 3) 74 3, ip_n4 74 .lmul 75 0, ip_n4 75 (.lload_n 3) 76 3, ip_n4 76 .lmul 77 0, ip_n4 77 (.lload_n 3) 78 3, ip_n4 78 (.lload_n 3) 79 3, ip_n4 79 .lmul 80 0, ip_n4 80 (.lload 5) 82 5, ip_n4 82 .lmul 83 0, ip_n4 83 (.aload_n 0) 84 0, ip_n7 84 (.invokevirtual 104) 87 176 1 1 187, ip_n4 87 .lmul 88 0, ip_n4 88 .ladd 89 0, ip_n4 89 (.lload_n 3) 90 3, ip_n4 90 (.lload 5) 92 5, ip_n4 92 .lmul 93 0, ip_n4 93 (.lload 5) 95 5]
set_option maxRecDepth 100000 in
noncomputable def ip_d184_3 : List (Nat × ip_E) := [ip_n4 95 .lmul 96 0, ip_n4 96 (.aload_n 0) 97 0, ip_n7 97 (.invokevirtual 110) 100 177 1 1 188, ip_n4 100 .lmul 101 0, ip_n4 101 .ladd 102 0, ip_n4 102 (.lload 5) 104 5, ip_n4 104 (.lload 5) 106 5, ip_n4 106 .lmul 107 0, ip_n4 107 (.lload 5) 109 5, ip_n4 109 .lmul 110 0, ip_n4 110 (.aload_n 0) 111 0, ip_n7 111 (.invokevirtual 115) 114 178 1 1 189, ip_n4 114 .lmul 115 0, ip_n4 115 .ladd 116 0, ip_n4 116 .lmul 117 0, ip_n4 117 .ladd 118 0, ip_n4 118 .lreturn 119 0]
set_option maxRecDepth 100000 in
noncomputable def ip_c184 : List (Nat × ip_E) := ip_d184_0 ++ (ip_d184_1 ++ (ip_d184_2 ++ (ip_d184_3)))
set_option maxRecDepth 100000 in
noncomputable def ip_c185 : List (Nat × ip_E) := [ip_n4 0 (.aload_n 0) 1 0, ip_n4 1 (.lload_n 1) 2 1, ip_n4 2 (.lload_n 3) 3 3, ip_n4 3 (.lload 5) 5 5, ip_n7 5 (.invokevirtual 127) 8 184 4 1 193, ip_n4 8 (.lstore 7) 10 7, ip_n4 10 (.lload 7) 12 7, ip_n9 12 (.lconst 0) 13 0 0 0 0 (.long 0) [], ip_n4 13 .lcmp 14 0, ip_n4 14 (.ifCond .le 7) 17 21, ip_n9 17 (.iconst 1) 18 0 0 0 0 (.int 1) [], ip_n4 18 (.goto 15) 21 33, ip_n4 21 (.lload 7) 23 7, ip_n9 23 (.lconst 0) 24 0 0 0 0 (.long 0) [], ip_n4 24 .lcmp 25 0, ip_n4 25 (.ifCond .ge 7) 28 32, ip_n9 28 (.iconst (-1)) 29 0 0 0 0 (.int (-1)) [], ip_n4 29 (.goto 4) 32 33, ip_n9 32 (.iconst 0) 33 0 0 0 0 (.int 0) [], ip_n4 33 .ireturn 34 0]
set_option maxRecDepth 100000 in
noncomputable def ip_d186_0 : List (Nat × ip_E) := [ip_n9 0 (.sipush (-4096)) 3 0 0 0 0 (.int (-4096)) [], ip_n4 3 (.istore 9) 5 9, ip_n9 5 (.sipush 4096) 8 0 0 0 0 (.int 4096) [], ip_n4 8 (.istore 10) 10 10, ip_n4 10 (.iload 10) 12 10, ip_n4 12 (.iload 9) 14 9, ip_n4 14 .isub 15 0, ip_n9 15 (.iconst 1) 16 0 0 0 0 (.int 1) [], ip_n4 16 (.if_icmp .le 44) 19 60, ip_n4 19 (.iload 9) 21 9, ip_n4 21 (.iload 10) 23 10, ip_n4 23 .iadd 24 0, ip_n9 24 (.iconst 2) 25 0 0 0 0 (.int 2) [], ip_n4 25 .idiv 26 0, ip_n4 26 (.istore 11) 28 11, ip_n4 28 (.aload_n 0) 29 0, ip_n4 29 (.lload_n 1) 30 1, ip_n4 30 (.iload 11) 32 11, ip_n4 32 .i2l 33 0, ip_n4 33 (.lload 7) 35 7, ip_n4 35 .lmul 36 0, ip_n4 36 .lsub 37 0, ip_n4 37 (.lload_n 3) 38 3, ip_n4 38 (.lload 5) 40 5]
set_option maxRecDepth 100000 in
noncomputable def ip_d186_1 : List (Nat × ip_E) := [ip_n7 40 (.invokevirtual 131) 43 185 4 1 194, ip_n4 43 (.ifCond .lt 10) 46 53, ip_n4 46 (.iload 11) 48 11, ip_n4 48 (.istore 9) 50 9, ip_n4 50 (.goto 7) 53 57, ip_n4 53 (.iload 11) 55 11, ip_n4 55 (.istore 10) 57 10, ip_n4 57 (.goto (-47)) 60 10, ip_n4 60 (.iload 9) 62 9, ip_n4 62 .ireturn 63 0]
set_option maxRecDepth 100000 in
noncomputable def ip_c186 : List (Nat × ip_E) := ip_d186_0 ++ (ip_d186_1)
set_option maxRecDepth 100000 in
noncomputable def ip_d187_0 : List (Nat × ip_E) := [ip_n4 0 (.lload_n 0) 1 0, ip_n9 1 (.lconst 0) 2 0 0 0 0 (.long 0) [], ip_n4 2 .lcmp 3 0, ip_n4 3 (.ifCond .ge 8) 6 11, ip_n4 6 (.lload_n 0) 7 0, ip_n4 7 .lneg 8 0, ip_n4 8 (.goto 4) 11 12, ip_n4 11 (.lload_n 0) 12 0, ip_n4 12 (.lstore 4) 14 4, ip_n4 14 (.lload_n 2) 15 2, ip_n9 15 (.lconst 0) 16 0 0 0 0 (.long 0) [], ip_n4 16 .lcmp 17 0, ip_n4 17 (.ifCond .ge 8) 20 25, ip_n4 20 (.lload_n 2) 21 2, ip_n4 21 .lneg 22 0, ip_n4 22 (.goto 4) 25 26, ip_n4 25 (.lload_n 2) 26 2, ip_n4 26 (.lstore 6) 28 6, ip_n4 28 (.lload 6) 30 6, ip_n9 30 (.lconst 0) 31 0 0 0 0 (.long 0) [], ip_n4 31 .lcmp 32 0, ip_n4 32 (.ifCond .eq 21) 35 53, ip_n4 35 (.lload 4) 37 4, ip_n4 37 (.lload 6) 39 6]
set_option maxRecDepth 100000 in
noncomputable def ip_d187_1 : List (Nat × ip_E) := [ip_n4 39 .lrem 40 0, ip_n4 40 (.lstore 8) 42 8, ip_n4 42 (.lload 6) 44 6, ip_n4 44 (.lstore 4) 46 4, ip_n4 46 (.lload 8) 48 8, ip_n4 48 (.lstore 6) 50 6, ip_n4 50 (.goto (-22)) 53 28, ip_n4 53 (.lload 4) 55 4, ip_n4 55 .lreturn 56 0]
set_option maxRecDepth 100000 in
noncomputable def ip_c187 : List (Nat × ip_E) := ip_d187_0 ++ (ip_d187_1)
set_option maxRecDepth 100000 in
noncomputable def ip_d188_0 : List (Nat × ip_E) := [ip_n4 0 (.lload_n 1) 1 1, ip_n4 1 (.lload_n 3) 2 3, ip_n7 2 (.invokestatic 135) 5 187 2 0 195, ip_n4 5 (.lload 5) 7 5, ip_n4 7 (.lload 7) 9 7, ip_n7 9 (.invokestatic 135) 12 187 2 0 195, ip_n7 12 (.invokestatic 135) 15 187 2 0 195, ip_n4 15 (.lstore 9) 17 9, ip_n4 17 (.lload 7) 19 7, ip_n9 19 (.lconst 0) 20 0 0 0 0 (.long 0) [], ip_n4 20 .lcmp 21 0, ip_n4 21 (.ifCond .ge 8) 24 29, ip_n4 24 (.lload 9) 26 9, ip_n4 26 .lneg 27 0, ip_n4 27 (.lstore 9) 29 9, ip_n4 29 (.aload_n 0) 30 0, ip_n4 30 (.lload_n 1) 31 1, ip_n4 31 (.lload 9) 33 9, ip_n4 33 .ldiv 34 0, ip_n7 34 (.putfield 139) 37 11 13 1 125, ip_n4 37 (.aload_n 0) 38 0, ip_n4 38 (.lload_n 3) 39 3, ip_n4 39 (.lload 9) 41 9, ip_n4 41 .ldiv 42 0]
set_option maxRecDepth 100000 in
noncomputable def ip_d188_1 : List (Nat × ip_E) := [ip_n7 42 (.putfield 143) 45 11 14 1 126, ip_n4 45 (.aload_n 0) 46 0, ip_n4 46 (.lload 5) 48 5, ip_n4 48 (.lload 9) 50 9, ip_n4 50 .ldiv 51 0, ip_n7 51 (.putfield 146) 54 11 15 1 127, ip_n4 54 (.aload_n 0) 55 0, ip_n4 55 (.lload 7) 57 7, ip_n4 57 (.lload 9) 59 9, ip_n4 59 .ldiv 60 0, ip_n7 60 (.putfield 149) 63 11 16 1 128, ip_n4 63 .return_ 64 0]
set_option maxRecDepth 100000 in
noncomputable def ip_c188 : List (Nat × ip_E) := ip_d188_0 ++ (ip_d188_1)
set_option maxRecDepth 100000 in
noncomputable def ip_c189 : List (Nat × ip_E) := [ip_n4 0 (.lload_n 0) 1 0, ip_n9 1 (.ldc2_w 152) 4 0 0 0 1342 (.long (-150)) [], ip_n4 4 .lcmp 5 0, ip_n4 5 (.ifCond .lt 15) 8 20, ip_n4 8 (.lload_n 0) 9 0, ip_n9 9 (.ldc2_w 154) 12 0 0 0 1343 (.long 150) [], ip_n4 12 .lcmp 13 0, ip_n4 13 (.ifCond .gt 7) 16 20, ip_n9 16 (.iconst 1) 17 0 0 0 0 (.int 1) [], ip_n4 17 (.goto 4) 20 21, ip_n9 20 (.iconst 0) 21 0 0 0 0 (.int 0) [], ip_n7 21 .ireturn 22 0 0 3 0]
set_option maxRecDepth 100000 in
noncomputable def ip_c190 : List (Nat × ip_E) := [ip_n4 0 (.aload_n 0) 1 0, ip_n7 1 (.getfield 139) 4 11 13 1 125, ip_n7 4 (.invokestatic 156) 7 189 1 0 196, ip_n4 7 (.ifCond .eq 38) 10 45, ip_n4 10 (.aload_n 0) 11 0, ip_n7 11 (.getfield 143) 14 11 14 1 126, ip_n7 14 (.invokestatic 156) 17 189 1 0 196, ip_n4 17 (.ifCond .eq 28) 20 45, ip_n4 20 (.aload_n 0) 21 0, ip_n7 21 (.getfield 146) 24 11 15 1 127, ip_n7 24 (.invokestatic 156) 27 189 1 0 196, ip_n4 27 (.ifCond .eq 18) 30 45, ip_n4 30 (.aload_n 0) 31 0, ip_n7 31 (.getfield 149) 34 11 16 1 128, ip_n9 34 (.ldc2_w 154) 37 0 0 0 1343 (.long 150) [], ip_n4 37 .lcmp 38 0, ip_n4 38 (.ifCond .gt 7) 41 45, ip_n9 41 (.iconst 1) 42 0 0 0 0 (.int 1) [], ip_n4 42 (.goto 4) 45 46, ip_n9 45 (.iconst 0) 46 0 0 0 0 (.int 0) [], ip_n7 46 .ireturn 47 0 0 3 0]
set_option maxRecDepth 100000 in
noncomputable def ip_d191_0 : List (Nat × ip_E) := [ip_n4 0 (.lload_n 3) 1 3, ip_n4 1 (.lload 11) 3 11, ip_n4 3 .lmul 4 0, ip_n4 4 (.lload 5) 6 5, ip_n4 6 (.lload 9) 8 9, ip_n4 8 .lmul 9 0, ip_n4 9 .ladd 10 0, ip_n4 10 (.lstore 15) 12 15, ip_n4 12 (.lload 5) 14 5, ip_n4 14 (.lload 11) 16 11, ip_n4 16 .lmul 17 0, ip_n4 17 (.lstore 17) 19 17, ip_n4 19 (.aload_n 0) 20 0, ip_n7 20 (.getfield 7) 23 11 1 2 102, ip_n9 23 (.iconst 0) 24 0 0 0 0 (.int 0) [], ip_n4 24 .iaload 25 0, ip_n4 25 .i2l 26 0, ip_n4 26 (.lstore 19) 28 19, ip_n4 28 (.aload_n 0) 29 0, ip_n7 29 (.getfield 7) 32 11 1 2 102, ip_n9 32 (.iconst 1) 33 0 0 0 0 (.int 1) [], ip_n4 33 .iaload 34 0, ip_n4 34 .i2l 35 0, ip_n4 35 (.lstore 21) 37 21]
set_option maxRecDepth 100000 in
noncomputable def ip_d191_1 : List (Nat × ip_E) := [ip_n4 37 (.aload_n 0) 38 0, ip_n7 38 (.getfield 7) 41 11 1 2 102, ip_n9 41 (.iconst 2) 42 0 0 0 0 (.int 2) [], ip_n4 42 .iaload 43 0, ip_n4 43 .i2l 44 0, ip_n4 44 (.lstore 23) 46 23, ip_n4 46 (.aload_n 0) 47 0, ip_n4 47 (.lload_n 1) 48 1, ip_n4 48 (.lload 7) 50 7, ip_n4 50 .lmul 51 0, ip_n4 51 (.lload 15) 53 15, ip_n4 53 (.lload 23) 55 23, ip_n4 55 .lmul 56 0, ip_n4 56 .ladd 57 0, ip_n4 57 (.lload 17) 59 17, ip_n4 59 (.lload 19) 61 19, ip_n4 61 .lmul 62 0, ip_n4 62 (.lload 23) 64 23, ip_n4 64 .lmul 65 0, ip_n4 65 .ladd 66 0, ip_n4 66 (.lload_n 1) 67 1, ip_n4 67 (.lload 9) 69 9, ip_n4 69 .lmul 70 0, ip_n4 70 (.lload_n 3) 71 3]
set_option maxRecDepth 100000 in
noncomputable def ip_d191_2 : List (Nat × ip_E) := [ip_n4 71 (.lload 7) 73 7, ip_n4 73 .lmul 74 0, ip_n4 74 .ladd 75 0, ip_n4 75 (.lload 15) 77 15, ip_n4 77 (.lload 21) 79 21, ip_n4 79 .lmul 80 0, ip_n4 80 .ladd 81 0, ip_n4 81 (.lload 17) 83 17, ip_n4 83 (.lload 19) 85 19, ip_n4 85 (.lload 21) 87 21, ip_n4 87 .lmul 88 0, ip_n4 88 (.lload 23) 90 23, ip_n4 90 .ladd 91 0, ip_n4 91 .lmul 92 0, ip_n4 92 .ladd 93 0, ip_n4 93 (.lload_n 1) 94 1, ip_n4 94 (.lload 11) 96 11, ip_n4 96 .lmul 97 0, ip_n4 97 (.lload_n 3) 98 3, ip_n4 98 (.lload 9) 100 9, ip_n4 100 .lmul 101 0, ip_n4 101 .ladd 102 0, ip_n4 102 (.lload 5) 104 5, ip_n4 104 (.lload 7) 106 7]
set_option maxRecDepth 100000 in
noncomputable def ip_d191_3 : List (Nat × ip_E) := [ip_n4 106 .lmul 107 0, ip_n4 107 .ladd 108 0, ip_n4 108 (.lload 15) 110 15, ip_n4 110 (.lload 19) 112 19, ip_n4 112 .lmul 113 0, ip_n4 113 .ladd 114 0, ip_n4 114 (.lload 17) 116 17, ip_n4 116 (.lload 19) 118 19, ip_n4 118 (.lload 19) 120 19, ip_n4 120 .lmul 121 0, ip_n4 121 (.lload 21) 123 21, ip_n4 123 .ladd 124 0, ip_n4 124 .lmul 125 0, ip_n4 125 .ladd 126 0, ip_n4 126 (.lload 13) 128 13, ip_n7 128 (.invokevirtual 160) 131 188 5 1 197, ip_n4 131 .return_ 132 0]
set_option maxRecDepth 100000 in
noncomputable def ip_c191 : List (Nat × ip_E) := ip_d191_0 ++ (ip_d191_1 ++ (ip_d191_2 ++ (ip_d191_3)))
set_option maxRecDepth 100000 in
noncomputable def ip_d192_0 : List (Nat × ip_E) := [ip_n4 0 (.aload_n 0) 1 0, ip_n4 1 (.lload 9) 3 9, ip_n4 3 (.lload 11) 5 11, ip_n4 5 (.lload 13) 7 13, ip_n7 7 (.invokevirtual 164) 10 182 4 1 198, ip_n4 10 (.lstore 17) 12 17, ip_n4 12 (.aload_n 0) 13 0, ip_n4 13 (.lload 9) 15 9, ip_n4 15 (.lload 11) 17 11, ip_n4 17 (.lload 13) 19 13, ip_n7 19 (.invokevirtual 167) 22 183 4 1 199, ip_n4 22 (.lstore 19) 24 19, ip_n4 24 (.aload_n 0) 25 0, ip_n4 25 (.lload 9) 27 9, ip_n4 27 (.lload 11) 29 11, ip_n4 29 (.lload 13) 31 13, ip_n7 31 (.invokevirtual 127) 34 184 4 1 193, ip_n4 34 (.lstore 21) 36 21, ip_n9 36 (.ldc2_w 108) 39 0 0 0 1378 (.long 2) [], ip_n4 39 (.lload 11) 41 11, ip_n4 41 .lmul 42 0, ip_n4 42 (.lload 13) 44 13, ip_n4 44 .lmul 45 0, ip_n4 45 (.lstore 23) 47 23]
set_option maxRecDepth 100000 in
noncomputable def ip_d192_1 : List (Nat × ip_E) := [ip_n4 47 (.lload 13) 49 13, ip_n4 49 (.lload 13) 51 13, ip_n4 51 .lmul 52 0, ip_n4 52 (.lstore 25) 54 25, ip_n4 54 (.aload_n 0) 55 0, ip_n7 55 (.getfield 7) 58 11 1 2 102, ip_n9 58 (.iconst 0) 59 0 0 0 0 (.int 0) [], ip_n4 59 .iaload 60 0, ip_n4 60 .i2l 61 0, ip_n4 61 (.lstore 27) 63 27, ip_n4 63 (.aload_n 0) 64 0, ip_n7 64 (.getfield 7) 67 11 1 2 102, ip_n9 67 (.iconst 1) 68 0 0 0 0 (.int 1) [], ip_n4 68 .iaload 69 0, ip_n4 69 .i2l 70 0, ip_n4 70 (.lstore 29) 72 29, ip_n4 72 (.aload_n 0) 73 0, ip_n7 73 (.getfield 7) 76 11 1 2 102, ip_n9 76 (.iconst 2) 77 0 0 0 0 (.int 2) [], ip_n4 77 .iaload 78 0, ip_n4 78 .i2l 79 0, ip_n4 79 (.lstore 31) 81 31, ip_n4 81 (.lload 9) 83 9, ip_n4 83 (.lload 9) 85 9]
set_option maxRecDepth 100000 in
noncomputable def ip_d192_2 : List (Nat × ip_E) := [ip_n4 85 .lmul 86 0, ip_n4 86 (.lload 23) 88 23, ip_n4 88 (.lload 31) 90 31, ip_n4 90 .lmul 91 0, ip_n4 91 .ladd 92 0, ip_n4 92 (.lload 25) 94 25, ip_n4 94 (.lload 27) 96 27, ip_n4 96 .lmul 97 0, ip_n4 97 (.lload 31) 99 31, ip_n4 99 .lmul 100 0, ip_n4 100 .ladd 101 0, ip_n4 101 (.lload 17) 103 17, ip_n4 103 (.lload 9) 105 9, ip_n4 105 .lmul 106 0, ip_n4 106 .lsub 107 0, ip_n4 107 (.lload 19) 109 19, ip_n4 109 .ladd 110 0, ip_n4 110 (.lstore 33) 112 33, ip_n9 112 (.ldc2_w 108) 115 0 0 0 1378 (.long 2) [], ip_n4 115 (.lload 9) 117 9, ip_n4 117 .lmul 118 0, ip_n4 118 (.lload 11) 120 11, ip_n4 120 .lmul 121 0, ip_n4 121 (.lload 23) 123 23]
set_option maxRecDepth 100000 in
noncomputable def ip_d192_3 : List (Nat × ip_E) := [ip_n4 123 (.lload 29) 125 29, ip_n4 125 .lmul 126 0, ip_n4 126 .ladd 127 0, ip_n4 127 (.lload 25) 129 25, ip_n4 129 (.lload 27) 131 27, ip_n4 131 (.lload 29) 133 29, ip_n4 133 .lmul 134 0, ip_n4 134 (.lload 31) 136 31, ip_n4 136 .ladd 137 0, ip_n4 137 .lmul 138 0, ip_n4 138 .ladd 139 0, ip_n4 139 (.lload 17) 141 17, ip_n4 141 (.lload 11) 143 11, ip_n4 143 .lmul 144 0, ip_n4 144 .lsub 145 0, ip_n4 145 (.lstore 35) 147 35, ip_n9 147 (.ldc2_w 108) 150 0 0 0 1378 (.long 2) [], ip_n4 150 (.lload 9) 152 9, ip_n4 152 .lmul 153 0, ip_n4 153 (.lload 13) 155 13, ip_n4 155 .lmul 156 0, ip_n4 156 (.lload 11) 158 11, ip_n4 158 (.lload 11) 160 11, ip_n4 160 .lmul 161 0]
set_option maxRecDepth 100000 in
noncomputable def ip_d192_4 : List (Nat × ip_E) := [ip_n4 161 .ladd 162 0, ip_n4 162 (.lload 23) 164 23, ip_n4 164 (.lload 27) 166 27, ip_n4 166 .lmul 167 0, ip_n4 167 .ladd 168 0, ip_n4 168 (.lload 25) 170 25, ip_n4 170 (.lload 27) 172 27, ip_n4 172 (.lload 27) 174 27, ip_n4 174 .lmul 175 0, ip_n4 175 (.lload 29) 177 29, ip_n4 177 .ladd 178 0, ip_n4 178 .lmul 179 0, ip_n4 179 .ladd 180 0, ip_n4 180 (.lload 17) 182 17, ip_n4 182 (.lload 13) 184 13, ip_n4 184 .lmul 185 0, ip_n4 185 .lsub 186 0, ip_n4 186 (.lstore 37) 188 37, ip_n4 188 (.aload_n 0) 189 0, ip_n4 189 (.lload 33) 191 33, ip_n4 191 (.lload 35) 193 35, ip_n4 193 (.lload 37) 195 37, ip_n4 195 (.lload 21) 197 21, ip_n7 197 (.invokevirtual 160) 200 188 5 1 197]
set_option maxRecDepth 100000 in
noncomputable def ip_d192_5 : List (Nat × ip_E) := [ip_n4 200 (.aload_n 0) 201 0, ip_n7 201 (.getfield 139) 204 11 13 1 125, ip_n4 204 (.lstore 39) 206 39, ip_n4 206 (.aload_n 0) 207 0, ip_n7 207 (.getfield 143) 210 11 14 1 126, ip_n4 210 (.lstore 41) 212 41, ip_n4 212 (.aload_n 0) 213 0, ip_n7 213 (.getfield 146) 216 11 15 1 127, ip_n4 216 (.lstore 43) 218 43, ip_n4 218 (.aload_n 0) 219 0, ip_n7 219 (.getfield 149) 222 11 16 1 128, ip_n4 222 (.lstore 45) 224 45, ip_n4 224 (.aload_n 0) 225 0, ip_n4 225 (.lload_n 1) 226 1, ip_n4 226 (.lload_n 3) 227 3, ip_n4 227 (.lload 5) 229 5, ip_n4 229 (.lload 39) 231 39, ip_n4 231 (.lload 41) 233 41, ip_n4 233 (.lload 43) 235 43, ip_n9 235 (.lconst 1) 236 0 0 0 0 (.long 1) [], ip_n7 236 (.invokevirtual 170) 239 191 8 1 200, ip_n4 239 (.lload 15) 241 15, ip_n4 241 (.lload 45) 243 45, ip_n7 243 (.invokestatic 135) 246 187 2 0 195]
set_option maxRecDepth 100000 in
noncomputable def ip_d192_6 : List (Nat × ip_E) := [ip_n4 246 (.lstore 47) 248 47, ip_n4 248 (.aload_n 0) 249 0, ip_n4 249 (.aload_n 0) 250 0, ip_n4 250 (.lload 15) 252 15, ip_n4 252 (.lload 47) 254 47, ip_n4 254 .ldiv 255 0, ip_n7 255 (.invokevirtual 174) 258 193 2 1 201, ip_n4 258 (.aload_n 0) 259 0, ip_n4 259 (.lload 15) 261 15, ip_n4 261 (.lload 47) 263 47, ip_n4 263 .ldiv 264 0, ip_n7 264 (.invokevirtual 178) 267 194 2 1 202, ip_n4 267 (.aload_n 0) 268 0, ip_n4 268 (.lload 15) 270 15, ip_n4 270 (.lload 47) 272 47, ip_n4 272 .ldiv 273 0, ip_n7 273 (.invokevirtual 181) 276 195 2 1 203, ip_n4 276 (.lload 7) 278 7, ip_n4 278 (.lload 45) 280 45, ip_n4 280 (.lload 47) 282 47, ip_n4 282 .ldiv 283 0, ip_n4 283 .lmul 284 0, ip_n7 284 (.invokevirtual 160) 287 188 5 1 197, ip_n4 287 .return_ 288 0]
set_option maxRecDepth 100000 in
noncomputable def ip_c192 : List (Nat × ip_E) := ip_d192_0 ++ (ip_d192_1 ++ (ip_d192_2 ++ (ip_d192_3 ++ (ip_d192_4 ++ (ip_d192_5 ++ (ip_d192_6))))))
set_option maxRecDepth 100000 in
noncomputable def ip_c193 : List (Nat × ip_E) := [ip_n4 0 (.aload_n 0) 1 0, ip_n7 1 (.getfield 139) 4 11 13 1 125, ip_n4 4 (.lload_n 1) 5 1, ip_n4 5 .lmul 6 0, ip_n4 6 .lreturn 7 0]
set_option maxRecDepth 100000 in
noncomputable def ip_c194 : List (Nat × ip_E) := [ip_n4 0 (.aload_n 0) 1 0, ip_n7 1 (.getfield 143) 4 11 14 1 126, ip_n4 4 (.lload_n 1) 5 1, ip_n4 5 .lmul 6 0, ip_n4 6 .lreturn 7 0]
set_option maxRecDepth 100000 in
noncomputable def ip_c195 : List (Nat × ip_E) := [ip_n4 0 (.aload_n 0) 1 0, ip_n7 1 (.getfield 146) 4 11 15 1 127, ip_n4 4 (.lload_n 1) 5 1, ip_n4 5 .lmul 6 0, ip_n4 6 .lreturn 7 0]
set_option maxRecDepth 100000 in
noncomputable def ip_c196 : List (Nat × ip_E) := [ip_n4 0 (.iload_n 0) 1 0, ip_n9 1 (.iconst 0) 2 0 0 0 0 (.int 0) [], ip_n9 2 (.iconst 5) 3 0 0 0 0 (.int 5) [], ip_n7 3 (.invokestatic 96) 6 166 3 0 185, ip_n7 6 .ireturn 7 0 0 3 0]
set_option maxRecDepth 100000 in
noncomputable def ip_c197 : List (Nat × ip_E) := [ip_n4 0 (.aload_n 0) 1 0, ip_n7 1 (.getfield 7) 4 11 1 2 102, ip_n9 4 (.bipush 9) 6 0 0 0 0 (.int 9) [], ip_n9 6 (.iconst 4) 7 0 0 0 0 (.int 4) [], ip_n4 7 (.iload_n 1) 8 1, ip_n4 8 .imul 9 0, ip_n4 9 .iadd 10 0, ip_n4 10 (.iload_n 2) 11 2, ip_n4 11 .iadd 12 0, ip_n4 12 .iaload 13 0, ip_n4 13 .ireturn 14 0]
set_option maxRecDepth 100000 in
noncomputable def ip_d198_0 : List (Nat × ip_E) := [ip_n4 0 (.aload_n 0) 1 0, ip_n7 1 (.getfield 7) 4 11 1 2 102, ip_n9 4 (.bipush 9) 6 0 0 0 0 (.int 9) [], ip_n9 6 (.iconst 4) 7 0 0 0 0 (.int 4) [], ip_n4 7 (.iload_n 1) 8 1, ip_n4 8 .imul 9 0, ip_n4 9 .iadd 10 0, ip_n4 10 (.aload_n 0) 11 0, ip_n7 11 (.getfield 139) 14 11 13 1 125, ip_n4 14 .l2i 15 0, ip_n4 15 .iastore 16 0, ip_n4 16 (.aload_n 0) 17 0, ip_n7 17 (.getfield 7) 20 11 1 2 102, ip_n9 20 (.bipush 9) 22 0 0 0 0 (.int 9) [], ip_n9 22 (.iconst 4) 23 0 0 0 0 (.int 4) [], ip_n4 23 (.iload_n 1) 24 1, ip_n4 24 .imul 25 0, ip_n4 25 .iadd 26 0, ip_n9 26 (.iconst 1) 27 0 0 0 0 (.int 1) [], ip_n4 27 .iadd 28 0, ip_n4 28 (.aload_n 0) 29 0, ip_n7 29 (.getfield 143) 32 11 14 1 126, ip_n4 32 .l2i 33 0, ip_n4 33 .iastore 34 0]
set_option maxRecDepth 100000 in
noncomputable def ip_d198_1 : List (Nat × ip_E) := [ip_n4 34 (.aload_n 0) 35 0, ip_n7 35 (.getfield 7) 38 11 1 2 102, ip_n9 38 (.bipush 9) 40 0 0 0 0 (.int 9) [], ip_n9 40 (.iconst 4) 41 0 0 0 0 (.int 4) [], ip_n4 41 (.iload_n 1) 42 1, ip_n4 42 .imul 43 0, ip_n4 43 .iadd 44 0, ip_n9 44 (.iconst 2) 45 0 0 0 0 (.int 2) [], ip_n4 45 .iadd 46 0, ip_n4 46 (.aload_n 0) 47 0, ip_n7 47 (.getfield 146) 50 11 15 1 127, ip_n4 50 .l2i 51 0, ip_n4 51 .iastore 52 0, ip_n4 52 (.aload_n 0) 53 0, ip_n7 53 (.getfield 7) 56 11 1 2 102, ip_n9 56 (.bipush 9) 58 0 0 0 0 (.int 9) [], ip_n9 58 (.iconst 4) 59 0 0 0 0 (.int 4) [], ip_n4 59 (.iload_n 1) 60 1, ip_n4 60 .imul 61 0, ip_n4 61 .iadd 62 0, ip_n9 62 (.iconst 3) 63 0 0 0 0 (.int 3) [], ip_n4 63 .iadd 64 0, ip_n4 64 (.aload_n 0) 65 0, ip_n7 65 (.getfield 149) 68 11 16 1 128]
set_option maxRecDepth 100000 in
noncomputable def ip_d198_2 : List (Nat × ip_E) := [ip_n4 68 .l2i 69 0, ip_n4 69 .iastore 70 0, ip_n4 70 (.aload_n 0) 71 0, ip_n4 71 (.aload_n 0) 72 0, ip_n4 72 (.aload_n 0) 73 0, ip_n7 73 (.getfield 139) 76 11 13 1 125, ip_n4 76 (.aload_n 0) 77 0, ip_n7 77 (.getfield 143) 80 11 14 1 126, ip_n4 80 (.aload_n 0) 81 0, ip_n7 81 (.getfield 146) 84 11 15 1 127, ip_n4 84 (.aload_n 0) 85 0, ip_n7 85 (.getfield 149) 88 11 16 1 128, ip_n7 88 (.invokevirtual 184) 91 186 5 1 204, ip_n7 91 (.invokevirtual 93) 94 168 2 1 184, ip_n4 94 .ireturn 95 0]
set_option maxRecDepth 100000 in
noncomputable def ip_c198 : List (Nat × ip_E) := ip_d198_0 ++ (ip_d198_1 ++ (ip_d198_2))
set_option maxRecDepth 100000 in
noncomputable def ip_d199_0 : List (Nat × ip_E) := [ip_n4 0 (.iload_n 0) 1 0, ip_n4 1 (.iload_n 0) 2 0, ip_n4 2 .imul 3 0, ip_n4 3 (.iload_n 1) 4 1, ip_n4 4 .imul 5 0, ip_n4 5 (.iload_n 1) 6 1, ip_n4 6 .imul 7 0, ip_n9 7 (.iconst 4) 8 0 0 0 0 (.int 4) [], ip_n4 8 (.iload_n 1) 9 1, ip_n4 9 .imul 10 0, ip_n4 10 (.iload_n 1) 11 1, ip_n4 11 .imul 12 0, ip_n4 12 (.iload_n 1) 13 1, ip_n4 13 .imul 14 0, ip_n4 14 .iadd 15 0, ip_n9 15 (.iconst 4) 16 0 0 0 0 (.int 4) [], ip_n4 16 (.iload_n 0) 17 0, ip_n4 17 .imul 18 0, ip_n4 18 (.iload_n 0) 19 0, ip_n4 19 .imul 20 0, ip_n4 20 (.iload_n 0) 21 0, ip_n4 21 .imul 22 0, ip_n4 22 (.iload_n 2) 23 2, ip_n4 23 .imul 24 0]
set_option maxRecDepth 100000 in
noncomputable def ip_d199_1 : List (Nat × ip_E) := [ip_n4 24 .isub 25 0, ip_n9 25 (.bipush 27) 27 0 0 0 0 (.int 27) [], ip_n4 27 (.iload_n 2) 28 2, ip_n4 28 .imul 29 0, ip_n4 29 (.iload_n 2) 30 2, ip_n4 30 .imul 31 0, ip_n4 31 .isub 32 0, ip_n9 32 (.bipush 18) 34 0 0 0 0 (.int 18) [], ip_n4 34 (.iload_n 0) 35 0, ip_n4 35 .imul 36 0, ip_n4 36 (.iload_n 1) 37 1, ip_n4 37 .imul 38 0, ip_n4 38 (.iload_n 2) 39 2, ip_n4 39 .imul 40 0, ip_n4 40 .isub 41 0, ip_n4 41 .ireturn 42 0]
set_option maxRecDepth 100000 in
noncomputable def ip_c199 : List (Nat × ip_E) := ip_d199_0 ++ (ip_d199_1)
set_option maxRecDepth 100000 in
noncomputable def ip_d200_0 : List (Nat × ip_E) := [ip_n4 0 (.iload_n 0) 1 0, ip_n4 1 (.iload_n 1) 2 1, ip_n4 2 (.iload_n 2) 3 2, ip_n7 3 (.invokestatic 188) 6 199 3 0 205, ip_n4 6 (.ifCond .ge 7) 9 13, ip_n9 9 (.iconst 1) 10 0 0 0 0 (.int 1) [], ip_n4 10 (.goto 4) 13 14, ip_n9 13 (.iconst 0) 14 0 0 0 0 (.int 0) [], ip_n4 14 (.istore_n 3) 15 3, ip_n9 15 (.bipush (-5)) 17 0 0 0 0 (.int (-5)) [], ip_n4 17 (.istore 4) 19 4, ip_n4 19 (.iload 4) 21 4, ip_n9 21 (.iconst 5) 22 0 0 0 0 (.int 5) [], ip_n4 22 (.if_icmp .gt 44) 25 66, ip_n4 25 (.iload_n 3) 26 3, ip_n4 26 (.ifCond .eq 32) 29 58, ip_n4 29 (.iload 4) 31 4, ip_n4 31 (.iload 4) 33 4, ip_n4 33 .imul 34 0, ip_n4 34 (.iload 4) 36 4, ip_n4 36 .imul 37 0, ip_n4 37 (.iload_n 0) 38 0, ip_n4 38 (.iload 4) 40 4, ip_n4 40 .imul 41 0]
set_option maxRecDepth 100000 in
noncomputable def ip_d200_1 : List (Nat × ip_E) := [ip_n4 41 (.iload 4) 43 4, ip_n4 43 .imul 44 0, ip_n4 44 (.iload_n 1) 45 1, ip_n4 45 (.iload 4) 47 4, ip_n4 47 .imul 48 0, ip_n4 48 .iadd 49 0, ip_n4 49 (.iload_n 2) 50 2, ip_n4 50 .iadd 51 0, ip_n4 51 (.if_icmp .eq 7) 54 58, ip_n9 54 (.iconst 1) 55 0 0 0 0 (.int 1) [], ip_n4 55 (.goto 4) 58 59, ip_n9 58 (.iconst 0) 59 0 0 0 0 (.int 0) [], ip_n4 59 (.istore_n 3) 60 3, ip_n9 60 (.iinc 4 1) 63 4 0 0 0 (.int 1) [], ip_n4 63 (.goto (-44)) 66 19, ip_n4 66 (.iload_n 3) 67 3, ip_n7 67 .ireturn 68 0 0 3 0]
set_option maxRecDepth 100000 in
noncomputable def ip_c200 : List (Nat × ip_E) := ip_d200_0 ++ (ip_d200_1)
set_option maxRecDepth 100000 in
noncomputable def ip_d201_0 : List (Nat × ip_E) := [ip_n4 0 (.aload_n 0) 1 0, ip_n9 1 (.iconst 0) 2 0 0 0 0 (.int 0) [], ip_n7 2 (.putfield 77) 5 11 0 0 124, ip_n4 5 (.iload_n 1) 6 1, ip_n9 6 (.bipush (-3)) 8 0 0 0 0 (.int (-3)) [], ip_n9 8 (.iconst 3) 9 0 0 0 0 (.int 3) [], ip_n7 9 (.invokestatic 96) 12 166 3 0 185, ip_n4 12 (.ifCond .eq 23) 15 35, ip_n4 15 (.iload_n 2) 16 2, ip_n9 16 (.bipush (-3)) 18 0 0 0 0 (.int (-3)) [], ip_n9 18 (.iconst 3) 19 0 0 0 0 (.int 3) [], ip_n7 19 (.invokestatic 96) 22 166 3 0 185, ip_n4 22 (.ifCond .eq 13) 25 35, ip_n4 25 (.iload_n 3) 26 3, ip_n9 26 (.bipush (-3)) 28 0 0 0 0 (.int (-3)) [], ip_n9 28 (.iconst 3) 29 0 0 0 0 (.int 3) [], ip_n7 29 (.invokestatic 96) 32 166 3 0 185, ip_n4 32 (.ifCond .ne 9) 35 41, ip_n4 35 (.aload_n 0) 36 0, ip_n9 36 (.iconst (-1)) 37 0 0 0 0 (.int (-1)) [], ip_n7 37 (.invokevirtual 86) 40 167 2 1 182, ip_n4 40 .ireturn 41 0, ip_n4 41 (.iload_n 1) 42 1, ip_n4 42 (.iload_n 2) 43 2]
set_option maxRecDepth 100000 in
noncomputable def ip_d201_1 : List (Nat × ip_E) := [ip_n4 43 (.iload_n 3) 44 3, ip_n7 44 (.invokestatic 192) 47 200 3 0 206, ip_n4 47 (.ifCond .ne 10) 50 57, ip_n4 50 (.aload_n 0) 51 0, ip_n9 51 (.bipush (-4)) 53 0 0 0 0 (.int (-4)) [], ip_n7 53 (.invokevirtual 86) 56 167 2 1 182, ip_n4 56 .ireturn 57 0, ip_n4 57 (.aload_n 0) 58 0, ip_n9 58 (.iconst 0) 59 0 0 0 0 (.int 0) [], ip_n7 59 (.invokevirtual 195) 62 170 2 1 207, ip_n4 62 (.aload_n 0) 63 0, ip_n4 63 (.iload_n 1) 64 1, ip_n4 64 (.iload_n 2) 65 2, ip_n4 65 (.iload_n 3) 66 3, ip_n7 66 (.invokevirtual 73) 69 169 4 1 181, ip_n4 69 (.aload_n 0) 70 0, ip_n4 70 (.iload_n 1) 71 1, ip_n4 71 (.iload_n 2) 72 2, ip_n4 72 (.iload_n 3) 73 3, ip_n7 73 (.invokestatic 188) 76 199 3 0 205, ip_n7 76 (.invokevirtual 93) 79 168 2 1 184, ip_n4 79 .ireturn 80 0]
set_option maxRecDepth 100000 in
noncomputable def ip_c201 : List (Nat × ip_E) := ip_d201_0 ++ (ip_d201_1)
set_option maxRecDepth 100000 in
noncomputable def ip_c202 : List (Nat × ip_E) := [ip_n4 0 (.aload_n 0) 1 0, ip_n9 1 (.iconst 0) 2 0 0 0 0 (.int 0) [], ip_n7 2 (.putfield 77) 5 11 0 0 124, ip_n4 5 (.iload_n 1) 6 1, ip_n9 6 (.iconst 0) 7 0 0 0 0 (.int 0) [], ip_n9 7 (.iconst 1) 8 0 0 0 0 (.int 1) [], ip_n7 8 (.invokestatic 96) 11 166 3 0 185, ip_n4 11 (.ifCond .ne 9) 14 20, ip_n4 14 (.aload_n 0) 15 0, ip_n9 15 (.iconst (-1)) 16 0 0 0 0 (.int (-1)) [], ip_n7 16 (.invokevirtual 86) 19 167 2 1 182, ip_n4 19 .ireturn 20 0, ip_n4 20 (.aload_n 0) 21 0, ip_n7 21 (.getfield 199) 24 11 3 0 129, ip_n4 24 (.istore_n 2) 25 2, ip_n4 25 (.aload_n 0) 26 0, ip_n4 26 (.iload_n 1) 27 1, ip_n7 27 (.putfield 199) 30 11 3 0 129, ip_n4 30 (.aload_n 0) 31 0, ip_n4 31 (.iload_n 2) 32 2, ip_n7 32 (.invokevirtual 93) 35 168 2 1 184, ip_n4 35 .ireturn 36 0]
set_option maxRecDepth 100000 in
noncomputable def ip_d203_0 : List (Nat × ip_E) := [ip_n4 0 (.aload_n 0) 1 0, ip_n9 1 (.iconst 0) 2 0 0 0 0 (.int 0) [], ip_n7 2 (.putfield 77) 5 11 0 0 124, ip_n4 5 (.iload_n 2) 6 2, ip_n4 6 .i2l 7 0, ip_n7 7 (.invokestatic 156) 10 189 1 0 196, ip_n4 10 (.ifCond .eq 34) 13 44, ip_n4 13 (.iload_n 3) 14 3, ip_n4 14 .i2l 15 0, ip_n7 15 (.invokestatic 156) 18 189 1 0 196, ip_n4 18 (.ifCond .eq 26) 21 44, ip_n4 21 (.iload 4) 23 4, ip_n4 23 .i2l 24 0, ip_n7 24 (.invokestatic 156) 27 189 1 0 196, ip_n4 27 (.ifCond .eq 17) 30 44, ip_n4 30 (.iload 5) 32 5, ip_n4 32 .i2l 33 0, ip_n7 33 (.invokestatic 156) 36 189 1 0 196, ip_n4 36 (.ifCond .eq 8) 39 44, ip_n4 39 (.iload 5) 41 5, ip_n4 41 (.ifCond .ne 9) 44 50, ip_n4 44 (.aload_n 0) 45 0, ip_n9 45 (.iconst (-1)) 46 0 0 0 0 (.int (-1)) [], ip_n7 46 (.invokevirtual 86) 49 167 2 1 182]
set_option maxRecDepth 100000 in
noncomputable def ip_d203_1 : List (Nat × ip_E) := [ip_n4 49 .ireturn 50 0, ip_n4 50 (.iload_n 1) 51 1, ip_n7 51 (.invokestatic 202) 54 196 1 0 208, ip_n4 54 (.ifCond .ne 10) 57 64, ip_n4 57 (.aload_n 0) 58 0, ip_n9 58 (.bipush (-2)) 60 0 0 0 0 (.int (-2)) [], ip_n7 60 (.invokevirtual 86) 63 167 2 1 182, ip_n4 63 .ireturn 64 0, ip_n4 64 (.aload_n 0) 65 0, ip_n9 65 (.iconst 1) 66 0 0 0 0 (.int 1) [], ip_n7 66 (.invokevirtual 195) 69 170 2 1 207, ip_n4 69 (.aload_n 0) 70 0, ip_n4 70 (.iload_n 2) 71 2, ip_n4 71 .i2l 72 0, ip_n4 72 (.iload_n 3) 73 3, ip_n4 73 .i2l 74 0, ip_n4 74 (.iload 4) 76 4, ip_n4 76 .i2l 77 0, ip_n4 77 (.iload 5) 79 5, ip_n4 79 .i2l 80 0, ip_n7 80 (.invokevirtual 160) 83 188 5 1 197, ip_n4 83 (.aload_n 0) 84 0, ip_n4 84 (.iload_n 1) 85 1, ip_n7 85 (.invokevirtual 206) 88 198 2 1 209]
set_option maxRecDepth 100000 in
noncomputable def ip_d203_2 : List (Nat × ip_E) := [ip_n4 88 .ireturn 89 0]
set_option maxRecDepth 100000 in
noncomputable def ip_c203 : List (Nat × ip_E) := ip_d203_0 ++ (ip_d203_1 ++ (ip_d203_2))
set_option maxRecDepth 100000 in
noncomputable def ip_d204_0 : List (Nat × ip_E) := [ip_n4 0 (.aload_n 0) 1 0, ip_n9 1 (.iconst 0) 2 0 0 0 0 (.int 0) [], ip_n7 2 (.putfield 77) 5 11 0 0 124, ip_n4 5 (.iload_n 1) 6 1, ip_n7 6 (.invokestatic 202) 9 196 1 0 208, ip_n4 9 (.ifCond .ne 10) 12 19, ip_n4 12 (.aload_n 0) 13 0, ip_n9 13 (.bipush (-2)) 15 0 0 0 0 (.int (-2)) [], ip_n7 15 (.invokevirtual 86) 18 167 2 1 182, ip_n4 18 .ireturn 19 0, ip_n4 19 (.lload_n 2) 20 2, ip_n9 20 (.bipush 52) 22 0 0 0 0 (.int 52) [], ip_n4 22 .lshr 23 0, ip_n9 23 (.ldc2_w 209) 26 0 0 0 1400 (.long 2047) [], ip_n4 26 .land 27 0, ip_n4 27 .l2i 28 0, ip_n4 28 (.istore 4) 30 4, ip_n4 30 (.lload_n 2) 31 2, ip_n9 31 (.ldc2_w 211) 34 0 0 0 1401 (.long 4503599627370495) [], ip_n4 34 .land 35 0, ip_n4 35 (.lstore 5) 37 5, ip_n4 37 (.iload 4) 39 4, ip_n9 39 (.sipush 2047) 42 0 0 0 0 (.int 2047) [], ip_n4 42 (.if_icmp .eq 15) 45 57]
set_option maxRecDepth 100000 in
noncomputable def ip_d204_1 : List (Nat × ip_E) := [ip_n4 45 (.iload 4) 47 4, ip_n4 47 (.ifCond .ne 17) 50 64, ip_n4 50 (.lload 5) 52 5, ip_n9 52 (.lconst 0) 53 0 0 0 0 (.long 0) [], ip_n4 53 .lcmp 54 0, ip_n4 54 (.ifCond .eq 10) 57 64, ip_n4 57 (.aload_n 0) 58 0, ip_n9 58 (.bipush (-5)) 60 0 0 0 0 (.int (-5)) [], ip_n7 60 (.invokevirtual 86) 63 167 2 1 182, ip_n4 63 .ireturn 64 0, ip_n4 64 (.iload 4) 66 4, ip_n4 66 (.ifCond .ne 7) 69 73, ip_n9 69 (.lconst 0) 70 0 0 0 0 (.long 0) [], ip_n4 70 (.goto 9) 73 79, ip_n4 73 (.lload 5) 75 5, ip_n9 75 (.ldc2_w 213) 78 0 0 0 1402 (.long 4503599627370496) [], ip_n4 78 .ladd 79 0, ip_n4 79 (.lstore 7) 81 7, ip_n4 81 (.iload 4) 83 4, ip_n9 83 (.sipush 1075) 86 0 0 0 0 (.int 1075) [], ip_n4 86 .isub 87 0, ip_n4 87 (.istore 9) 89 9, ip_n4 89 (.lload 7) 91 7, ip_n9 91 (.lconst 0) 92 0 0 0 0 (.long 0) []]
set_option maxRecDepth 100000 in
noncomputable def ip_d204_2 : List (Nat × ip_E) := [ip_n4 92 .lcmp 93 0, ip_n4 93 (.ifCond .eq 28) 96 121, ip_n4 96 (.lload 7) 98 7, ip_n9 98 (.ldc2_w 108) 101 0 0 0 1378 (.long 2) [], ip_n4 101 .lrem 102 0, ip_n9 102 (.lconst 0) 103 0 0 0 0 (.long 0) [], ip_n4 103 .lcmp 104 0, ip_n4 104 (.ifCond .ne 17) 107 121, ip_n4 107 (.lload 7) 109 7, ip_n9 109 (.ldc2_w 108) 112 0 0 0 1378 (.long 2) [], ip_n4 112 .ldiv 113 0, ip_n4 113 (.lstore 7) 115 7, ip_n9 115 (.iinc 9 1) 118 9 0 0 0 (.int 1) [], ip_n4 118 (.goto (-29)) 121 89, ip_n4 121 (.lload 7) 123 7, ip_n9 123 (.ldc2_w 154) 126 0 0 0 1343 (.long 150) [], ip_n4 126 .lcmp 127 0, ip_n4 127 (.ifCond .gt 22) 130 149, ip_n4 130 (.lload 7) 132 7, ip_n9 132 (.lconst 0) 133 0 0 0 0 (.long 0) [], ip_n4 133 .lcmp 134 0, ip_n4 134 (.ifCond .eq 22) 137 156, ip_n4 137 (.iload 9) 139 9, ip_n9 139 (.bipush (-7)) 141 0 0 0 0 (.int (-7)) []]
set_option maxRecDepth 100000 in
noncomputable def ip_d204_3 : List (Nat × ip_E) := [ip_n9 141 (.bipush 7) 143 0 0 0 0 (.int 7) [], ip_n7 143 (.invokestatic 96) 146 166 3 0 185, ip_n4 146 (.ifCond .ne 10) 149 156, ip_n4 149 (.aload_n 0) 150 0, ip_n9 150 (.bipush (-5)) 152 0 0 0 0 (.int (-5)) [], ip_n7 152 (.invokevirtual 86) 155 167 2 1 182, ip_n4 155 .ireturn 156 0, ip_n9 156 (.lconst 1) 157 0 0 0 0 (.long 1) [], ip_n4 157 (.lstore 10) 159 10, ip_n9 159 (.iconst 0) 160 0 0 0 0 (.int 0) [], ip_n4 160 (.istore 12) 162 12, ip_n4 162 (.iload 12) 164 12, ip_n4 164 (.iload 9) 166 9, ip_n4 166 (.if_icmp .ge 24) 169 190, ip_n4 169 (.lload 7) 171 7, ip_n9 171 (.lconst 0) 172 0 0 0 0 (.long 0) [], ip_n4 172 .lcmp 173 0, ip_n4 173 (.ifCond .eq 17) 176 190, ip_n4 176 (.lload 7) 178 7, ip_n9 178 (.ldc2_w 108) 181 0 0 0 1378 (.long 2) [], ip_n4 181 .lmul 182 0, ip_n4 182 (.lstore 7) 184 7, ip_n9 184 (.iinc 12 1) 187 12 0 0 0 (.int 1) [], ip_n4 187 (.goto (-25)) 190 162]
set_option maxRecDepth 100000 in
noncomputable def ip_d204_4 : List (Nat × ip_E) := [ip_n9 190 (.iconst 0) 191 0 0 0 0 (.int 0) [], ip_n4 191 (.istore 12) 193 12, ip_n4 193 (.iload 12) 195 12, ip_n4 195 (.iload 9) 197 9, ip_n4 197 (.if_icmp .le 24) 200 221, ip_n4 200 (.lload 7) 202 7, ip_n9 202 (.lconst 0) 203 0 0 0 0 (.long 0) [], ip_n4 203 .lcmp 204 0, ip_n4 204 (.ifCond .eq 17) 207 221, ip_n4 207 (.lload 10) 209 10, ip_n9 209 (.ldc2_w 108) 212 0 0 0 1378 (.long 2) [], ip_n4 212 .lmul 213 0, ip_n4 213 (.lstore 10) 215 10, ip_n9 215 (.iinc 12 (-1)) 218 12 0 0 0 (.int (-1)) [], ip_n4 218 (.goto (-25)) 221 193, ip_n4 221 (.lload 7) 223 7, ip_n9 223 (.ldc2_w 154) 226 0 0 0 1343 (.long 150) [], ip_n4 226 .lcmp 227 0, ip_n4 227 (.ifCond .le 10) 230 237, ip_n4 230 (.aload_n 0) 231 0, ip_n9 231 (.bipush (-5)) 233 0 0 0 0 (.int (-5)) [], ip_n7 233 (.invokevirtual 86) 236 167 2 1 182, ip_n4 236 .ireturn 237 0, ip_n4 237 (.aload_n 0) 238 0]
set_option maxRecDepth 100000 in
noncomputable def ip_d204_5 : List (Nat × ip_E) := [ip_n9 238 (.iconst 2) 239 0 0 0 0 (.int 2) [], ip_n7 239 (.invokevirtual 195) 242 170 2 1 207, ip_n4 242 (.aload_n 0) 243 0, ip_n4 243 (.lload_n 2) 244 2, ip_n9 244 (.lconst 0) 245 0 0 0 0 (.long 0) [], ip_n4 245 .lcmp 246 0, ip_n4 246 (.ifCond .ge 9) 249 255, ip_n4 249 (.lload 7) 251 7, ip_n4 251 .lneg 252 0, ip_n4 252 (.goto 5) 255 257, ip_n4 255 (.lload 7) 257 7, ip_n9 257 (.lconst 0) 258 0 0 0 0 (.long 0) [], ip_n9 258 (.lconst 0) 259 0 0 0 0 (.long 0) [], ip_n4 259 (.lload 10) 261 10, ip_n7 261 (.invokevirtual 160) 264 188 5 1 197, ip_n4 264 (.aload_n 0) 265 0, ip_n4 265 (.iload_n 1) 266 1, ip_n7 266 (.invokevirtual 206) 269 198 2 1 209, ip_n4 269 .ireturn 270 0]
set_option maxRecDepth 100000 in
noncomputable def ip_c204 : List (Nat × ip_E) := ip_d204_0 ++ (ip_d204_1 ++ (ip_d204_2 ++ (ip_d204_3 ++ (ip_d204_4 ++ (ip_d204_5)))))
set_option maxRecDepth 100000 in
noncomputable def ip_d205_0 : List (Nat × ip_E) := [ip_n4 0 (.aload_n 0) 1 0, ip_n4 1 (.iload_n 2) 2 2, ip_n9 2 (.iconst 0) 3 0 0 0 0 (.int 0) [], ip_n7 3 (.invokevirtual 215) 6 197 3 1 210, ip_n4 6 .i2l 7 0, ip_n4 7 (.lstore 4) 9 4, ip_n4 9 (.aload_n 0) 10 0, ip_n4 10 (.iload_n 2) 11 2, ip_n9 11 (.iconst 1) 12 0 0 0 0 (.int 1) [], ip_n7 12 (.invokevirtual 215) 15 197 3 1 210, ip_n4 15 .i2l 16 0, ip_n4 16 (.lstore 6) 18 6, ip_n4 18 (.aload_n 0) 19 0, ip_n4 19 (.iload_n 2) 20 2, ip_n9 20 (.iconst 2) 21 0 0 0 0 (.int 2) [], ip_n7 21 (.invokevirtual 215) 24 197 3 1 210, ip_n4 24 .i2l 25 0, ip_n4 25 (.lstore 8) 27 8, ip_n4 27 (.aload_n 0) 28 0, ip_n4 28 (.iload_n 2) 29 2, ip_n9 29 (.iconst 3) 30 0 0 0 0 (.int 3) [], ip_n7 30 (.invokevirtual 215) 33 197 3 1 210, ip_n4 33 .i2l 34 0, ip_n4 34 (.lstore 10) 36 10]
set_option maxRecDepth 100000 in
noncomputable def ip_d205_1 : List (Nat × ip_E) := [ip_n4 36 (.aload_n 0) 37 0, ip_n4 37 (.iload_n 3) 38 3, ip_n9 38 (.iconst 0) 39 0 0 0 0 (.int 0) [], ip_n7 39 (.invokevirtual 215) 42 197 3 1 210, ip_n4 42 .i2l 43 0, ip_n4 43 (.lstore 12) 45 12, ip_n4 45 (.aload_n 0) 46 0, ip_n4 46 (.iload_n 3) 47 3, ip_n9 47 (.iconst 1) 48 0 0 0 0 (.int 1) [], ip_n7 48 (.invokevirtual 215) 51 197 3 1 210, ip_n4 51 .i2l 52 0, ip_n4 52 (.lstore 14) 54 14, ip_n4 54 (.aload_n 0) 55 0, ip_n4 55 (.iload_n 3) 56 3, ip_n9 56 (.iconst 2) 57 0 0 0 0 (.int 2) [], ip_n7 57 (.invokevirtual 215) 60 197 3 1 210, ip_n4 60 .i2l 61 0, ip_n4 61 (.lstore 16) 63 16, ip_n4 63 (.aload_n 0) 64 0, ip_n4 64 (.iload_n 3) 65 3, ip_n9 65 (.iconst 3) 66 0 0 0 0 (.int 3) [], ip_n7 66 (.invokevirtual 215) 69 197 3 1 210, ip_n4 69 .i2l 70 0, ip_n4 70 (.lstore 18) 72 18]
set_option maxRecDepth 100000 in
noncomputable def ip_d205_2 : List (Nat × ip_E) := [ip_n4 72 (.iload_n 1) 73 1, ip_n9 73 (.iconst 1) 74 0 0 0 0 (.int 1) [], ip_n4 74 (.if_icmp .ne 7) 77 81, ip_n9 77 (.iconst (-1)) 78 0 0 0 0 (.int (-1)) [], ip_n4 78 (.goto 4) 81 82, ip_n9 81 (.iconst 1) 82 0 0 0 0 (.int 1) [], ip_n4 82 (.istore 20) 84 20, ip_n4 84 (.iload_n 1) 85 1, ip_n9 85 (.iconst 2) 86 0 0 0 0 (.int 2) [], ip_n4 86 (.if_icmp .ge 60) 89 146, ip_n4 89 (.aload_n 0) 90 0, ip_n4 90 (.lload 4) 92 4, ip_n4 92 (.lload 18) 94 18, ip_n4 94 .lmul 95 0, ip_n4 95 (.iload 20) 97 20, ip_n4 97 .i2l 98 0, ip_n4 98 (.lload 12) 100 12, ip_n4 100 .lmul 101 0, ip_n4 101 (.lload 10) 103 10, ip_n4 103 .lmul 104 0, ip_n4 104 .ladd 105 0, ip_n4 105 (.lload 6) 107 6, ip_n4 107 (.lload 18) 109 18, ip_n4 109 .lmul 110 0]
set_option maxRecDepth 100000 in
noncomputable def ip_d205_3 : List (Nat × ip_E) := [ip_n4 110 (.iload 20) 112 20, ip_n4 112 .i2l 113 0, ip_n4 113 (.lload 14) 115 14, ip_n4 115 .lmul 116 0, ip_n4 116 (.lload 10) 118 10, ip_n4 118 .lmul 119 0, ip_n4 119 .ladd 120 0, ip_n4 120 (.lload 8) 122 8, ip_n4 122 (.lload 18) 124 18, ip_n4 124 .lmul 125 0, ip_n4 125 (.iload 20) 127 20, ip_n4 127 .i2l 128 0, ip_n4 128 (.lload 16) 130 16, ip_n4 130 .lmul 131 0, ip_n4 131 (.lload 10) 133 10, ip_n4 133 .lmul 134 0, ip_n4 134 .ladd 135 0, ip_n4 135 (.lload 10) 137 10, ip_n4 137 (.lload 18) 139 18, ip_n4 139 .lmul 140 0, ip_n7 140 (.invokevirtual 160) 143 188 5 1 197, ip_n4 143 (.goto 52) 146 195, ip_n4 146 (.iload_n 1) 147 1, ip_n9 147 (.iconst 2) 148 0 0 0 0 (.int 2) []]
set_option maxRecDepth 100000 in
noncomputable def ip_d205_4 : List (Nat × ip_E) := [ip_n4 148 (.if_icmp .ne 27) 151 175, ip_n4 151 (.aload_n 0) 152 0, ip_n4 152 (.lload 4) 154 4, ip_n4 154 (.lload 6) 156 6, ip_n4 156 (.lload 8) 158 8, ip_n4 158 (.lload 12) 160 12, ip_n4 160 (.lload 14) 162 14, ip_n4 162 (.lload 16) 164 16, ip_n4 164 (.lload 10) 166 10, ip_n4 166 (.lload 18) 168 18, ip_n4 168 .lmul 169 0, ip_n7 169 (.invokevirtual 170) 172 191 8 1 200, ip_n4 172 (.goto 23) 175 195, ip_n4 175 (.aload_n 0) 176 0, ip_n4 176 (.lload 4) 178 4, ip_n4 178 (.lload 6) 180 6, ip_n4 180 (.lload 8) 182 8, ip_n4 182 (.lload 10) 184 10, ip_n4 184 (.lload 12) 186 12, ip_n4 186 (.lload 14) 188 14, ip_n4 188 (.lload 16) 190 16, ip_n4 190 (.lload 18) 192 18, ip_n7 192 (.invokevirtual 219) 195 192 9 1 211, ip_n4 195 .return_ 196 0]
set_option maxRecDepth 100000 in
noncomputable def ip_c205 : List (Nat × ip_E) := ip_d205_0 ++ (ip_d205_1 ++ (ip_d205_2 ++ (ip_d205_3 ++ (ip_d205_4))))
set_option maxRecDepth 100000 in
noncomputable def ip_c206 : List (Nat × ip_E) := [ip_n4 0 (.aload_n 0) 1 0, ip_n4 1 (.iload_n 1) 2 1, ip_n9 2 (.iconst 0) 3 0 0 0 0 (.int 0) [], ip_n7 3 (.invokevirtual 215) 6 197 3 1 210, ip_n4 6 (.ifCond .ne 25) 9 31, ip_n4 9 (.aload_n 0) 10 0, ip_n4 10 (.iload_n 1) 11 1, ip_n9 11 (.iconst 1) 12 0 0 0 0 (.int 1) [], ip_n7 12 (.invokevirtual 215) 15 197 3 1 210, ip_n4 15 (.ifCond .ne 16) 18 31, ip_n4 18 (.aload_n 0) 19 0, ip_n4 19 (.iload_n 1) 20 1, ip_n9 20 (.iconst 2) 21 0 0 0 0 (.int 2) [], ip_n7 21 (.invokevirtual 215) 24 197 3 1 210, ip_n4 24 (.ifCond .ne 7) 27 31, ip_n9 27 (.iconst 1) 28 0 0 0 0 (.int 1) [], ip_n4 28 (.goto 4) 31 32, ip_n9 31 (.iconst 0) 32 0 0 0 0 (.int 0) [], ip_n7 32 .ireturn 33 0 0 3 0]
set_option maxRecDepth 100000 in
noncomputable def ip_d207_0 : List (Nat × ip_E) := [ip_n4 0 (.aload_n 0) 1 0, ip_n9 1 (.iconst 0) 2 0 0 0 0 (.int 0) [], ip_n7 2 (.putfield 77) 5 11 0 0 124, ip_n4 5 (.iload_n 1) 6 1, ip_n9 6 (.iconst 0) 7 0 0 0 0 (.int 0) [], ip_n9 7 (.iconst 3) 8 0 0 0 0 (.int 3) [], ip_n7 8 (.invokestatic 96) 11 166 3 0 185, ip_n4 11 (.ifCond .ne 9) 14 20, ip_n4 14 (.aload_n 0) 15 0, ip_n9 15 (.iconst (-1)) 16 0 0 0 0 (.int (-1)) [], ip_n7 16 (.invokevirtual 86) 19 167 2 1 182, ip_n4 19 .ireturn 20 0, ip_n4 20 (.iload_n 2) 21 2, ip_n7 21 (.invokestatic 202) 24 196 1 0 208, ip_n4 24 (.ifCond .eq 18) 27 42, ip_n4 27 (.iload_n 3) 28 3, ip_n7 28 (.invokestatic 202) 31 196 1 0 208, ip_n4 31 (.ifCond .eq 11) 34 42, ip_n4 34 (.iload 4) 36 4, ip_n7 36 (.invokestatic 202) 39 196 1 0 208, ip_n4 39 (.ifCond .ne 10) 42 49, ip_n4 42 (.aload_n 0) 43 0, ip_n9 43 (.bipush (-2)) 45 0 0 0 0 (.int (-2)) [], ip_n7 45 (.invokevirtual 86) 48 167 2 1 182]
set_option maxRecDepth 100000 in
noncomputable def ip_d207_1 : List (Nat × ip_E) := [ip_n4 48 .ireturn 49 0, ip_n4 49 (.iload_n 1) 50 1, ip_n9 50 (.iconst 3) 51 0 0 0 0 (.int 3) [], ip_n4 51 (.if_icmp .ne 18) 54 69, ip_n4 54 (.aload_n 0) 55 0, ip_n4 55 (.iload_n 3) 56 3, ip_n7 56 (.invokevirtual 223) 59 206 2 1 212, ip_n4 59 (.ifCond .eq 10) 62 69, ip_n4 62 (.aload_n 0) 63 0, ip_n9 63 (.bipush (-4)) 65 0 0 0 0 (.int (-4)) [], ip_n7 65 (.invokevirtual 86) 68 167 2 1 182, ip_n4 68 .ireturn 69 0, ip_n4 69 (.aload_n 0) 70 0, ip_n4 70 (.iload_n 1) 71 1, ip_n4 71 (.iload_n 2) 72 2, ip_n4 72 (.iload_n 3) 73 3, ip_n7 73 (.invokevirtual 226) 76 205 4 1 213, ip_n4 76 (.aload_n 0) 77 0, ip_n7 77 (.invokevirtual 229) 80 190 1 1 214, ip_n4 80 (.ifCond .ne 10) 83 90, ip_n4 83 (.aload_n 0) 84 0, ip_n9 84 (.bipush (-5)) 86 0 0 0 0 (.int (-5)) [], ip_n7 86 (.invokevirtual 86) 89 167 2 1 182, ip_n4 89 .ireturn 90 0]
set_option maxRecDepth 100000 in
noncomputable def ip_d207_2 : List (Nat × ip_E) := [ip_n4 90 (.aload_n 0) 91 0, ip_n9 91 (.iconst 3) 92 0 0 0 0 (.int 3) [], ip_n7 92 (.invokevirtual 195) 95 170 2 1 207, ip_n4 95 (.aload_n 0) 96 0, ip_n4 96 (.iload 4) 98 4, ip_n7 98 (.invokevirtual 206) 101 198 2 1 209, ip_n4 101 .ireturn 102 0]
set_option maxRecDepth 100000 in
noncomputable def ip_c207 : List (Nat × ip_E) := ip_d207_0 ++ (ip_d207_1 ++ (ip_d207_2))
set_option maxRecDepth 100000 in
noncomputable def ip_c208 : List (Nat × ip_E) := [ip_n4 0 (.aload_n 0) 1 0, ip_n7 1 (.getfield 7) 4 11 1 2 102, ip_n9 4 (.sipush 153) 7 0 0 0 0 (.int 153) [], ip_n9 7 (.bipush 8) 9 0 0 0 0 (.int 8) [], ip_n4 9 (.iload_n 1) 10 1, ip_n4 10 .imul 11 0, ip_n4 11 .iadd 12 0, ip_n4 12 (.iload_n 2) 13 2, ip_n4 13 .iadd 14 0, ip_n4 14 .iaload 15 0, ip_n4 15 .ireturn 16 0]
set_option maxRecDepth 100000 in
noncomputable def ip_d209_0 : List (Nat × ip_E) := [ip_n9 0 (.sipush 153) 3 0 0 0 0 (.int 153) [], ip_n9 3 (.bipush 8) 5 0 0 0 0 (.int 8) [], ip_n4 5 (.iload_n 1) 6 1, ip_n4 6 .imul 7 0, ip_n4 7 .iadd 8 0, ip_n9 8 (.iconst 4) 9 0 0 0 0 (.int 4) [], ip_n4 9 (.iload_n 2) 10 2, ip_n4 10 .imul 11 0, ip_n4 11 .iadd 12 0, ip_n4 12 (.istore_n 3) 13 3, ip_n4 13 (.aload_n 0) 14 0, ip_n4 14 (.aload_n 0) 15 0, ip_n7 15 (.getfield 7) 18 11 1 2 102, ip_n4 18 (.iload_n 3) 19 3, ip_n4 19 .iaload 20 0, ip_n4 20 .i2l 21 0, ip_n4 21 (.aload_n 0) 22 0, ip_n7 22 (.getfield 7) 25 11 1 2 102, ip_n4 25 (.iload_n 3) 26 3, ip_n9 26 (.iconst 1) 27 0 0 0 0 (.int 1) [], ip_n4 27 .iadd 28 0, ip_n4 28 .iaload 29 0, ip_n4 29 .i2l 30 0, ip_n4 30 (.aload_n 0) 31 0]
set_option maxRecDepth 100000 in
noncomputable def ip_d209_1 : List (Nat × ip_E) := [ip_n7 31 (.getfield 7) 34 11 1 2 102, ip_n4 34 (.iload_n 3) 35 3, ip_n9 35 (.iconst 2) 36 0 0 0 0 (.int 2) [], ip_n4 36 .iadd 37 0, ip_n4 37 .iaload 38 0, ip_n4 38 .i2l 39 0, ip_n4 39 (.aload_n 0) 40 0, ip_n7 40 (.getfield 7) 43 11 1 2 102, ip_n4 43 (.iload_n 3) 44 3, ip_n9 44 (.iconst 3) 45 0 0 0 0 (.int 3) [], ip_n4 45 .iadd 46 0, ip_n4 46 .iaload 47 0, ip_n4 47 .i2l 48 0, ip_n7 48 (.invokevirtual 184) 51 186 5 1 204, ip_n4 51 .ireturn 52 0]
set_option maxRecDepth 100000 in
noncomputable def ip_c209 : List (Nat × ip_E) := ip_d209_0 ++ (ip_d209_1)
set_option maxRecDepth 100000 in
noncomputable def ip_d210_0 : List (Nat × ip_E) := [ip_n4 0 (.aload_n 0) 1 0, ip_n4 1 (.aload_n 0) 2 0, ip_n4 2 (.iload_n 1) 3 1, ip_n9 3 (.iconst 0) 4 0 0 0 0 (.int 0) [], ip_n7 4 (.invokevirtual 215) 7 197 3 1 210, ip_n4 7 .i2l 8 0, ip_n4 8 (.aload_n 0) 9 0, ip_n4 9 (.iload_n 1) 10 1, ip_n9 10 (.iconst 1) 11 0 0 0 0 (.int 1) [], ip_n7 11 (.invokevirtual 215) 14 197 3 1 210, ip_n4 14 .i2l 15 0, ip_n4 15 (.aload_n 0) 16 0, ip_n4 16 (.iload_n 1) 17 1, ip_n9 17 (.iconst 2) 18 0 0 0 0 (.int 2) [], ip_n7 18 (.invokevirtual 215) 21 197 3 1 210, ip_n4 21 .i2l 22 0, ip_n7 22 (.invokevirtual 131) 25 185 4 1 194, ip_n4 25 (.ifCond .le 31) 28 56, ip_n4 28 (.aload_n 0) 29 0, ip_n4 29 (.aload_n 0) 30 0, ip_n4 30 (.iload_n 2) 31 2, ip_n9 31 (.iconst 0) 32 0 0 0 0 (.int 0) [], ip_n7 32 (.invokevirtual 215) 35 197 3 1 210, ip_n4 35 .i2l 36 0]
set_option maxRecDepth 100000 in
noncomputable def ip_d210_1 : List (Nat × ip_E) := [ip_n4 36 (.aload_n 0) 37 0, ip_n4 37 (.iload_n 2) 38 2, ip_n9 38 (.iconst 1) 39 0 0 0 0 (.int 1) [], ip_n7 39 (.invokevirtual 215) 42 197 3 1 210, ip_n4 42 .i2l 43 0, ip_n4 43 (.aload_n 0) 44 0, ip_n4 44 (.iload_n 2) 45 2, ip_n9 45 (.iconst 2) 46 0 0 0 0 (.int 2) [], ip_n7 46 (.invokevirtual 215) 49 197 3 1 210, ip_n4 49 .i2l 50 0, ip_n7 50 (.invokevirtual 131) 53 185 4 1 194, ip_n4 53 (.ifCond .gt 5) 56 58, ip_n9 56 (.iconst 0) 57 0 0 0 0 (.int 0) [], ip_n7 57 .ireturn 58 0 0 3 0, ip_n4 58 (.aload_n 0) 59 0, ip_n4 59 (.aload_n 0) 60 0, ip_n4 60 (.iload_n 1) 61 1, ip_n9 61 (.iconst 0) 62 0 0 0 0 (.int 0) [], ip_n7 62 (.invokevirtual 215) 65 197 3 1 210, ip_n4 65 .i2l 66 0, ip_n4 66 (.aload_n 0) 67 0, ip_n4 67 (.iload_n 1) 68 1, ip_n9 68 (.iconst 1) 69 0 0 0 0 (.int 1) [], ip_n7 69 (.invokevirtual 215) 72 197 3 1 210]
set_option maxRecDepth 100000 in
noncomputable def ip_d210_2 : List (Nat × ip_E) := [ip_n4 72 .i2l 73 0, ip_n4 73 (.aload_n 0) 74 0, ip_n4 74 (.iload_n 1) 75 1, ip_n9 75 (.iconst 2) 76 0 0 0 0 (.int 2) [], ip_n7 76 (.invokevirtual 215) 79 197 3 1 210, ip_n4 79 .i2l 80 0, ip_n4 80 (.aload_n 0) 81 0, ip_n4 81 (.iload_n 1) 82 1, ip_n9 82 (.iconst 3) 83 0 0 0 0 (.int 3) [], ip_n7 83 (.invokevirtual 215) 86 197 3 1 210, ip_n4 86 .i2l 87 0, ip_n7 87 (.invokevirtual 184) 90 186 5 1 204, ip_n9 90 (.bipush 99) 92 0 0 0 0 (.int 99) [], ip_n4 92 (.if_icmp .gt 44) 95 136, ip_n4 95 (.aload_n 0) 96 0, ip_n4 96 (.aload_n 0) 97 0, ip_n4 97 (.iload_n 2) 98 2, ip_n9 98 (.iconst 0) 99 0 0 0 0 (.int 0) [], ip_n7 99 (.invokevirtual 215) 102 197 3 1 210, ip_n4 102 .i2l 103 0, ip_n4 103 (.aload_n 0) 104 0, ip_n4 104 (.iload_n 2) 105 2, ip_n9 105 (.iconst 1) 106 0 0 0 0 (.int 1) [], ip_n7 106 (.invokevirtual 215) 109 197 3 1 210]
set_option maxRecDepth 100000 in
noncomputable def ip_d210_3 : List (Nat × ip_E) := [ip_n4 109 .i2l 110 0, ip_n4 110 (.aload_n 0) 111 0, ip_n4 111 (.iload_n 2) 112 2, ip_n9 112 (.iconst 2) 113 0 0 0 0 (.int 2) [], ip_n7 113 (.invokevirtual 215) 116 197 3 1 210, ip_n4 116 .i2l 117 0, ip_n4 117 (.aload_n 0) 118 0, ip_n4 118 (.iload_n 2) 119 2, ip_n9 119 (.iconst 3) 120 0 0 0 0 (.int 3) [], ip_n7 120 (.invokevirtual 215) 123 197 3 1 210, ip_n4 123 .i2l 124 0, ip_n7 124 (.invokevirtual 184) 127 186 5 1 204, ip_n9 127 (.bipush 99) 129 0 0 0 0 (.int 99) [], ip_n4 129 (.if_icmp .gt 7) 132 136, ip_n9 132 (.iconst 1) 133 0 0 0 0 (.int 1) [], ip_n4 133 (.goto 4) 136 137, ip_n9 136 (.iconst 0) 137 0 0 0 0 (.int 0) [], ip_n7 137 .ireturn 138 0 0 3 0]
set_option maxRecDepth 100000 in
noncomputable def ip_c210 : List (Nat × ip_E) := ip_d210_0 ++ (ip_d210_1 ++ (ip_d210_2 ++ (ip_d210_3)))
set_option maxRecDepth 100000 in
noncomputable def ip_d211_0 : List (Nat × ip_E) := [ip_n9 0 (.iconst 0) 1 0 0 0 0 (.int 0) [], ip_n4 1 (.istore 4) 3 4, ip_n4 3 (.iload 4) 5 4, ip_n9 5 (.iconst 4) 6 0 0 0 0 (.int 4) [], ip_n4 6 (.if_icmp .ge 45) 9 51, ip_n4 9 (.aload_n 0) 10 0, ip_n7 10 (.getfield 7) 13 11 1 2 102, ip_n9 13 (.sipush 153) 16 0 0 0 0 (.int 153) [], ip_n4 16 (.iload 4) 18 4, ip_n4 18 .iadd 19 0, ip_n4 19 (.aload_n 0) 20 0, ip_n4 20 (.iload_n 1) 21 1, ip_n4 21 (.iload 4) 23 4, ip_n7 23 (.invokevirtual 215) 26 197 3 1 210, ip_n4 26 .iastore 27 0, ip_n4 27 (.aload_n 0) 28 0, ip_n7 28 (.getfield 7) 31 11 1 2 102, ip_n9 31 (.sipush 157) 34 0 0 0 0 (.int 157) [], ip_n4 34 (.iload 4) 36 4, ip_n4 36 .iadd 37 0, ip_n4 37 (.aload_n 0) 38 0, ip_n4 38 (.iload_n 2) 39 2, ip_n4 39 (.iload 4) 41 4, ip_n7 41 (.invokevirtual 215) 44 197 3 1 210]
set_option maxRecDepth 100000 in
noncomputable def ip_d211_1 : List (Nat × ip_E) := [ip_n4 44 .iastore 45 0, ip_n9 45 (.iinc 4 1) 48 4 0 0 0 (.int 1) [], ip_n4 48 (.goto (-45)) 51 3, ip_n4 51 (.aload_n 0) 52 0, ip_n7 52 (.getfield 7) 55 11 1 2 102, ip_n9 55 (.iconst 3) 56 0 0 0 0 (.int 3) [], ip_n9 56 (.iconst 1) 57 0 0 0 0 (.int 1) [], ip_n4 57 .iastore 58 0, ip_n4 58 (.aload_n 0) 59 0, ip_n7 59 (.getfield 7) 62 11 1 2 102, ip_n9 62 (.iconst 4) 63 0 0 0 0 (.int 4) [], ip_n4 63 (.iload_n 3) 64 3, ip_n4 64 .iastore 65 0, ip_n4 65 (.aload_n 0) 66 0, ip_n7 66 (.getfield 7) 69 11 1 2 102, ip_n9 69 (.iconst 5) 70 0 0 0 0 (.int 5) [], ip_n9 70 (.iconst 0) 71 0 0 0 0 (.int 0) [], ip_n4 71 .iastore 72 0, ip_n4 72 (.aload_n 0) 73 0, ip_n7 73 (.getfield 7) 76 11 1 2 102, ip_n9 76 (.bipush 6) 78 0 0 0 0 (.int 6) [], ip_n9 78 (.iconst (-1)) 79 0 0 0 0 (.int (-1)) [], ip_n4 79 .iastore 80 0, ip_n4 80 (.aload_n 0) 81 0]
set_option maxRecDepth 100000 in
noncomputable def ip_d211_2 : List (Nat × ip_E) := [ip_n7 81 (.getfield 7) 84 11 1 2 102, ip_n9 84 (.bipush 7) 86 0 0 0 0 (.int 7) [], ip_n9 86 (.iconst 0) 87 0 0 0 0 (.int 0) [], ip_n4 87 .iastore 88 0, ip_n9 88 (.iconst 0) 89 0 0 0 0 (.int 0) [], ip_n4 89 (.istore 4) 91 4, ip_n4 91 (.iload 4) 93 4, ip_n9 93 (.bipush 9) 95 0 0 0 0 (.int 9) [], ip_n4 95 (.if_icmp .ge 28) 98 123, ip_n4 98 (.aload_n 0) 99 0, ip_n7 99 (.getfield 13) 102 11 2 2 103, ip_n4 102 (.iload 4) 104 4, ip_n4 104 (.iload 4) 106 4, ip_n9 106 (.iconst 4) 107 0 0 0 0 (.int 4) [], ip_n4 107 .irem 108 0, ip_n4 108 (.ifCond .ne 7) 111 115, ip_n9 111 (.lconst 1) 112 0 0 0 0 (.long 1) [], ip_n4 112 (.goto 4) 115 116, ip_n9 115 (.lconst 0) 116 0 0 0 0 (.long 0) [], ip_n4 116 .lastore 117 0, ip_n9 117 (.iinc 4 1) 120 4 0 0 0 (.int 1) [], ip_n4 120 (.goto (-29)) 123 91, ip_n4 123 .return_ 124 0]
set_option maxRecDepth 100000 in
noncomputable def ip_c211 : List (Nat × ip_E) := ip_d211_0 ++ (ip_d211_1 ++ (ip_d211_2))
set_option maxRecDepth 100000 in
noncomputable def ip_d212_0 : List (Nat × ip_E) := [ip_n4 0 (.aload_n 0) 1 0, ip_n9 1 (.iconst 0) 2 0 0 0 0 (.int 0) [], ip_n7 2 (.putfield 77) 5 11 0 0 124, ip_n4 5 (.iload_n 1) 6 1, ip_n7 6 (.invokestatic 202) 9 196 1 0 208, ip_n4 9 (.ifCond .eq 10) 12 19, ip_n4 12 (.iload_n 2) 13 2, ip_n7 13 (.invokestatic 202) 16 196 1 0 208, ip_n4 16 (.ifCond .ne 10) 19 26, ip_n4 19 (.aload_n 0) 20 0, ip_n9 20 (.bipush (-2)) 22 0 0 0 0 (.int (-2)) [], ip_n7 22 (.invokevirtual 86) 25 167 2 1 182, ip_n4 25 .ireturn 26 0, ip_n4 26 (.aload_n 0) 27 0, ip_n4 27 (.iload_n 1) 28 1, ip_n4 28 (.iload_n 2) 29 2, ip_n7 29 (.invokevirtual 233) 32 210 3 1 215, ip_n4 32 (.ifCond .ne 10) 35 42, ip_n4 35 (.aload_n 0) 36 0, ip_n9 36 (.bipush (-4)) 38 0 0 0 0 (.int (-4)) [], ip_n7 38 (.invokevirtual 86) 41 167 2 1 182, ip_n4 41 .ireturn 42 0, ip_n4 42 (.aload_n 0) 43 0, ip_n9 43 (.iconst 4) 44 0 0 0 0 (.int 4) []]
set_option maxRecDepth 100000 in
noncomputable def ip_d212_1 : List (Nat × ip_E) := [ip_n7 44 (.invokevirtual 195) 47 170 2 1 207, ip_n4 47 (.aload_n 0) 48 0, ip_n4 48 (.iload_n 1) 49 1, ip_n4 49 (.iload_n 2) 50 2, ip_n4 50 (.aload_n 0) 51 0, ip_n7 51 (.getfield 199) 54 11 3 0 129, ip_n7 54 (.invokevirtual 237) 57 211 4 1 216, ip_n4 57 (.aload_n 0) 58 0, ip_n4 58 (.aload_n 0) 59 0, ip_n9 59 (.iconst 0) 60 0 0 0 0 (.int 0) [], ip_n9 60 (.iconst 0) 61 0 0 0 0 (.int 0) [], ip_n7 61 (.invokevirtual 240) 64 209 3 1 217, ip_n7 64 (.invokevirtual 93) 67 168 2 1 184, ip_n4 67 .ireturn 68 0]
set_option maxRecDepth 100000 in
noncomputable def ip_c212 : List (Nat × ip_E) := ip_d212_0 ++ (ip_d212_1)
set_option maxRecDepth 100000 in
noncomputable def ip_d213_0 : List (Nat × ip_E) := [ip_n4 0 (.aload_n 0) 1 0, ip_n7 1 (.getfield 7) 4 11 1 2 102, ip_n9 4 (.iconst 5) 5 0 0 0 0 (.int 5) [], ip_n4 5 .iaload 6 0, ip_n4 6 (.istore_n 1) 7 1, ip_n4 7 (.aload_n 0) 8 0, ip_n4 8 (.aload_n 0) 9 0, ip_n4 9 (.iload_n 1) 10 1, ip_n9 10 (.iconst 0) 11 0 0 0 0 (.int 0) [], ip_n7 11 (.invokevirtual 240) 14 209 3 1 217, ip_n7 14 (.putfield 243) 17 11 17 0 130, ip_n4 17 (.aload_n 0) 18 0, ip_n4 18 (.aload_n 0) 19 0, ip_n4 19 (.iload_n 1) 20 1, ip_n9 20 (.iconst 1) 21 0 0 0 0 (.int 1) [], ip_n7 21 (.invokevirtual 240) 24 209 3 1 217, ip_n7 24 (.putfield 246) 27 11 18 0 131, ip_n4 27 (.aload_n 0) 28 0, ip_n4 28 (.aload_n 0) 29 0, ip_n4 29 (.iload_n 1) 30 1, ip_n9 30 (.iconst 3) 31 0 0 0 0 (.int 3) [], ip_n7 31 (.invokevirtual 249) 34 208 3 1 218, ip_n4 34 .i2l 35 0, ip_n7 35 (.putfield 252) 38 11 22 1 132]
set_option maxRecDepth 100000 in
noncomputable def ip_d213_1 : List (Nat × ip_E) := [ip_n4 38 (.aload_n 0) 39 0, ip_n4 39 (.aload_n 0) 40 0, ip_n4 40 (.iload_n 1) 41 1, ip_n9 41 (.iconst 0) 42 0 0 0 0 (.int 0) [], ip_n7 42 (.invokevirtual 249) 45 208 3 1 218, ip_n4 45 .i2l 46 0, ip_n4 46 (.aload_n 0) 47 0, ip_n7 47 (.getfield 243) 50 11 17 0 130, ip_n4 50 .i2l 51 0, ip_n4 51 (.aload_n 0) 52 0, ip_n7 52 (.getfield 252) 55 11 22 1 132, ip_n4 55 .lmul 56 0, ip_n4 56 .lsub 57 0, ip_n7 57 (.putfield 255) 60 11 19 1 133, ip_n4 60 (.aload_n 0) 61 0, ip_n4 61 (.aload_n 0) 62 0, ip_n4 62 (.iload_n 1) 63 1, ip_n9 63 (.iconst 1) 64 0 0 0 0 (.int 1) [], ip_n7 64 (.invokevirtual 249) 67 208 3 1 218, ip_n4 67 .i2l 68 0, ip_n7 68 (.putfield 258) 71 11 20 1 134, ip_n4 71 (.aload_n 0) 72 0, ip_n4 72 (.aload_n 0) 73 0, ip_n4 73 (.iload_n 1) 74 1]
set_option maxRecDepth 100000 in
noncomputable def ip_d213_2 : List (Nat × ip_E) := [ip_n9 74 (.iconst 2) 75 0 0 0 0 (.int 2) [], ip_n7 75 (.invokevirtual 249) 78 208 3 1 218, ip_n4 78 .i2l 79 0, ip_n7 79 (.putfield 261) 82 11 21 1 135, ip_n4 82 (.aload_n 0) 83 0, ip_n4 83 (.aload_n 0) 84 0, ip_n4 84 (.iload_n 1) 85 1, ip_n9 85 (.bipush 7) 87 0 0 0 0 (.int 7) [], ip_n7 87 (.invokevirtual 249) 90 208 3 1 218, ip_n4 90 .i2l 91 0, ip_n7 91 (.putfield 264) 94 11 26 1 136, ip_n4 94 (.aload_n 0) 95 0, ip_n4 95 (.aload_n 0) 96 0, ip_n4 96 (.iload_n 1) 97 1, ip_n9 97 (.iconst 4) 98 0 0 0 0 (.int 4) [], ip_n7 98 (.invokevirtual 249) 101 208 3 1 218, ip_n4 101 .i2l 102 0, ip_n4 102 (.aload_n 0) 103 0, ip_n7 103 (.getfield 246) 106 11 18 0 131, ip_n4 106 .i2l 107 0, ip_n4 107 (.aload_n 0) 108 0, ip_n7 108 (.getfield 264) 111 11 26 1 136, ip_n4 111 .lmul 112 0, ip_n4 112 .lsub 113 0]
set_option maxRecDepth 100000 in
noncomputable def ip_d213_3 : List (Nat × ip_E) := [ip_n7 113 (.putfield 267) 116 11 23 1 137, ip_n4 116 (.aload_n 0) 117 0, ip_n4 117 (.aload_n 0) 118 0, ip_n4 118 (.iload_n 1) 119 1, ip_n9 119 (.iconst 5) 120 0 0 0 0 (.int 5) [], ip_n7 120 (.invokevirtual 249) 123 208 3 1 218, ip_n4 123 .i2l 124 0, ip_n7 124 (.putfield 270) 127 11 24 1 138, ip_n4 127 (.aload_n 0) 128 0, ip_n4 128 (.aload_n 0) 129 0, ip_n4 129 (.iload_n 1) 130 1, ip_n9 130 (.bipush 6) 132 0 0 0 0 (.int 6) [], ip_n7 132 (.invokevirtual 249) 135 208 3 1 218, ip_n4 135 .i2l 136 0, ip_n7 136 (.putfield 273) 139 11 25 1 139, ip_n4 139 (.aload_n 0) 140 0, ip_n4 140 (.aload_n 0) 141 0, ip_n7 141 (.getfield 7) 144 11 1 2 102, ip_n9 144 (.iconst 4) 145 0 0 0 0 (.int 4) [], ip_n4 145 .iaload 146 0, ip_n9 146 (.iconst 1) 147 0 0 0 0 (.int 1) [], ip_n4 147 (.if_icmp .ne 71) 150 218, ip_n4 150 (.aload_n 0) 151 0, ip_n4 151 (.aload_n 0) 152 0]
set_option maxRecDepth 100000 in
noncomputable def ip_d213_4 : List (Nat × ip_E) := [ip_n7 152 (.getfield 255) 155 11 19 1 133, ip_n4 155 (.aload_n 0) 156 0, ip_n7 156 (.getfield 264) 159 11 26 1 136, ip_n4 159 .lmul 160 0, ip_n4 160 (.aload_n 0) 161 0, ip_n7 161 (.getfield 267) 164 11 23 1 137, ip_n4 164 (.aload_n 0) 165 0, ip_n7 165 (.getfield 252) 168 11 22 1 132, ip_n4 168 .lmul 169 0, ip_n4 169 .lsub 170 0, ip_n4 170 (.aload_n 0) 171 0, ip_n7 171 (.getfield 258) 174 11 20 1 134, ip_n4 174 (.aload_n 0) 175 0, ip_n7 175 (.getfield 264) 178 11 26 1 136, ip_n4 178 .lmul 179 0, ip_n4 179 (.aload_n 0) 180 0, ip_n7 180 (.getfield 270) 183 11 24 1 138, ip_n4 183 (.aload_n 0) 184 0, ip_n7 184 (.getfield 252) 187 11 22 1 132, ip_n4 187 .lmul 188 0, ip_n4 188 .lsub 189 0, ip_n4 189 (.aload_n 0) 190 0, ip_n7 190 (.getfield 261) 193 11 21 1 135, ip_n4 193 (.aload_n 0) 194 0]
set_option maxRecDepth 100000 in
noncomputable def ip_d213_5 : List (Nat × ip_E) := [ip_n7 194 (.getfield 264) 197 11 26 1 136, ip_n4 197 .lmul 198 0, ip_n4 198 (.aload_n 0) 199 0, ip_n7 199 (.getfield 273) 202 11 25 1 139, ip_n4 202 (.aload_n 0) 203 0, ip_n7 203 (.getfield 252) 206 11 22 1 132, ip_n4 206 .lmul 207 0, ip_n4 207 .lsub 208 0, ip_n7 208 (.invokevirtual 131) 211 185 4 1 194, ip_n4 211 (.ifCond .ge 7) 214 218, ip_n9 214 (.iconst 1) 215 0 0 0 0 (.int 1) [], ip_n4 215 (.goto 4) 218 219, ip_n9 218 (.iconst 0) 219 0 0 0 0 (.int 0) [], ip_n7 219 (.putfield 276) 222 11 27 3 140, ip_n4 222 (.aload_n 0) 223 0, ip_n7 223 (.getfield 276) 226 11 27 3 140, ip_n4 226 (.ifCond .ne 4) 229 230, ip_n4 229 .return_ 230 0, ip_n4 230 (.aload_n 0) 231 0, ip_n7 231 (.getfield 255) 234 11 19 1 133, ip_n4 234 (.lstore_n 2) 235 2, ip_n4 235 (.aload_n 0) 236 0, ip_n4 236 (.aload_n 0) 237 0, ip_n7 237 (.getfield 267) 240 11 23 1 137]
set_option maxRecDepth 100000 in
noncomputable def ip_d213_6 : List (Nat × ip_E) := [ip_n7 240 (.putfield 255) 243 11 19 1 133, ip_n4 243 (.aload_n 0) 244 0, ip_n4 244 (.lload_n 2) 245 2, ip_n7 245 (.putfield 267) 248 11 23 1 137, ip_n4 248 (.aload_n 0) 249 0, ip_n7 249 (.getfield 258) 252 11 20 1 134, ip_n4 252 (.lstore_n 2) 253 2, ip_n4 253 (.aload_n 0) 254 0, ip_n4 254 (.aload_n 0) 255 0, ip_n7 255 (.getfield 270) 258 11 24 1 138, ip_n7 258 (.putfield 258) 261 11 20 1 134, ip_n4 261 (.aload_n 0) 262 0, ip_n4 262 (.lload_n 2) 263 2, ip_n7 263 (.putfield 270) 266 11 24 1 138, ip_n4 266 (.aload_n 0) 267 0, ip_n7 267 (.getfield 261) 270 11 21 1 135, ip_n4 270 (.lstore_n 2) 271 2, ip_n4 271 (.aload_n 0) 272 0, ip_n4 272 (.aload_n 0) 273 0, ip_n7 273 (.getfield 273) 276 11 25 1 139, ip_n7 276 (.putfield 261) 279 11 21 1 135, ip_n4 279 (.aload_n 0) 280 0, ip_n4 280 (.lload_n 2) 281 2, ip_n7 281 (.putfield 273) 284 11 25 1 139]
set_option maxRecDepth 100000 in
noncomputable def ip_d213_7 : List (Nat × ip_E) := [ip_n4 284 (.aload_n 0) 285 0, ip_n7 285 (.getfield 252) 288 11 22 1 132, ip_n4 288 (.lstore_n 2) 289 2, ip_n4 289 (.aload_n 0) 290 0, ip_n4 290 (.aload_n 0) 291 0, ip_n7 291 (.getfield 264) 294 11 26 1 136, ip_n7 294 (.putfield 252) 297 11 22 1 132, ip_n4 297 (.aload_n 0) 298 0, ip_n4 298 (.lload_n 2) 299 2, ip_n7 299 (.putfield 264) 302 11 26 1 136, ip_n4 302 .return_ 303 0]
set_option maxRecDepth 100000 in
noncomputable def ip_c213 : List (Nat × ip_E) := ip_d213_0 ++ (ip_d213_1 ++ (ip_d213_2 ++ (ip_d213_3 ++ (ip_d213_4 ++ (ip_d213_5 ++ (ip_d213_6 ++ (ip_d213_7)))))))
set_option maxRecDepth 100000 in
noncomputable def ip_c214 : List (Nat × ip_E) := [ip_n4 0 (.aload_n 0) 1 0, ip_n7 1 (.invokevirtual 280) 4 213 1 1 219, ip_n4 4 (.aload_n 0) 5 0, ip_n7 5 (.getfield 255) 8 11 19 1 133, ip_n9 8 (.lconst 0) 9 0 0 0 0 (.long 0) [], ip_n4 9 .lcmp 10 0, ip_n4 10 (.ifCond .ne 25) 13 35, ip_n4 13 (.aload_n 0) 14 0, ip_n7 14 (.getfield 258) 17 11 20 1 134, ip_n9 17 (.lconst 0) 18 0 0 0 0 (.long 0) [], ip_n4 18 .lcmp 19 0, ip_n4 19 (.ifCond .ne 16) 22 35, ip_n4 22 (.aload_n 0) 23 0, ip_n7 23 (.getfield 261) 26 11 21 1 135, ip_n9 26 (.lconst 0) 27 0 0 0 0 (.long 0) [], ip_n4 27 .lcmp 28 0, ip_n4 28 (.ifCond .ne 7) 31 35, ip_n9 31 (.iconst 1) 32 0 0 0 0 (.int 1) [], ip_n4 32 (.goto 4) 35 36, ip_n9 35 (.iconst 0) 36 0 0 0 0 (.int 0) [], ip_n7 36 .ireturn 37 0 0 3 0]
set_option maxRecDepth 100000 in
noncomputable def ip_c215 : List (Nat × ip_E) := [ip_n4 0 (.lload_n 1) 1 1, ip_n9 1 (.ldc2_w 283) 4 0 0 0 1495 (.long 9223372036854775807) [], ip_n4 4 (.lload_n 3) 5 3, ip_n4 5 .lsub 6 0, ip_n4 6 .lcmp 7 0, ip_n4 7 (.ifCond .le 8) 10 15, ip_n4 10 (.aload_n 0) 11 0, ip_n9 11 (.iconst 1) 12 0 0 0 0 (.int 1) [], ip_n7 12 (.putfield 285) 15 11 29 3 141, ip_n4 15 (.aload_n 0) 16 0, ip_n7 16 (.getfield 285) 19 11 29 3 141, ip_n4 19 (.ifCond .eq 7) 22 26, ip_n9 22 (.lconst 0) 23 0 0 0 0 (.long 0) [], ip_n4 23 (.goto 6) 26 29, ip_n4 26 (.lload_n 1) 27 1, ip_n4 27 (.lload_n 3) 28 3, ip_n4 28 .ladd 29 0, ip_n4 29 .lreturn 30 0]
set_option maxRecDepth 100000 in
noncomputable def ip_c216 : List (Nat × ip_E) := [ip_n4 0 (.lload_n 3) 1 3, ip_n9 1 (.lconst 0) 2 0 0 0 0 (.long 0) [], ip_n4 2 .lcmp 3 0, ip_n4 3 (.ifCond .eq 18) 6 21, ip_n4 6 (.lload_n 1) 7 1, ip_n9 7 (.ldc2_w 283) 10 0 0 0 1495 (.long 9223372036854775807) [], ip_n4 10 (.lload_n 3) 11 3, ip_n4 11 .ldiv 12 0, ip_n4 12 .lcmp 13 0, ip_n4 13 (.ifCond .le 8) 16 21, ip_n4 16 (.aload_n 0) 17 0, ip_n9 17 (.iconst 1) 18 0 0 0 0 (.int 1) [], ip_n7 18 (.putfield 285) 21 11 29 3 141, ip_n4 21 (.aload_n 0) 22 0, ip_n7 22 (.getfield 285) 25 11 29 3 141, ip_n4 25 (.ifCond .eq 7) 28 32, ip_n9 28 (.lconst 0) 29 0 0 0 0 (.long 0) [], ip_n4 29 (.goto 6) 32 35, ip_n4 32 (.lload_n 1) 33 1, ip_n4 33 (.lload_n 3) 34 3, ip_n4 34 .lmul 35 0, ip_n4 35 .lreturn 36 0]
set_option maxRecDepth 100000 in
noncomputable def ip_d217_0 : List (Nat × ip_E) := [ip_n9 0 (.iconst 0) 1 0 0 0 0 (.int 0) [], ip_n4 1 (.istore 5) 3 5, ip_n4 3 (.iload 5) 5 5, ip_n9 5 (.bipush 9) 7 0 0 0 0 (.int 9) [], ip_n4 7 (.if_icmp .ge 112) 10 119, ip_n4 10 (.aload_n 0) 11 0, ip_n7 11 (.getfield 39) 14 11 28 2 111, ip_n4 14 (.iload 5) 16 5, ip_n4 16 (.iload 4) 18 4, ip_n9 18 (.iconst 1) 19 0 0 0 0 (.int 1) [], ip_n4 19 (.if_icmp .ne 12) 22 31, ip_n4 22 (.aload_n 1) 23 1, ip_n4 23 (.iload 5) 25 5, ip_n9 25 (.iconst 2) 26 0 0 0 0 (.int 2) [], ip_n4 26 .iadd 27 0, ip_n4 27 .laload 28 0, ip_n4 28 (.goto 9) 31 37, ip_n4 31 (.aload_n 1) 32 1, ip_n4 32 (.iload 5) 34 5, ip_n9 34 (.iconst 1) 35 0 0 0 0 (.int 1) [], ip_n4 35 .iadd 36 0, ip_n4 36 .laload 37 0, ip_n4 37 .lastore 38 0, ip_n4 38 (.aload_n 0) 39 0]
set_option maxRecDepth 100000 in
noncomputable def ip_d217_1 : List (Nat × ip_E) := [ip_n7 39 (.getfield 39) 42 11 28 2 111, ip_n4 42 (.iload 5) 44 5, ip_n9 44 (.iconst 1) 45 0 0 0 0 (.int 1) [], ip_n4 45 .iadd 46 0, ip_n4 46 (.iload 4) 48 4, ip_n9 48 (.iconst 1) 49 0 0 0 0 (.int 1) [], ip_n4 49 (.if_icmp .ne 12) 52 61, ip_n4 52 (.aload_n 1) 53 1, ip_n4 53 (.iload 5) 55 5, ip_n9 55 (.iconst 1) 56 0 0 0 0 (.int 1) [], ip_n4 56 .iadd 57 0, ip_n4 57 .laload 58 0, ip_n4 58 (.goto 9) 61 67, ip_n4 61 (.aload_n 1) 62 1, ip_n4 62 (.iload 5) 64 5, ip_n9 64 (.iconst 2) 65 0 0 0 0 (.int 2) [], ip_n4 65 .iadd 66 0, ip_n4 66 .laload 67 0, ip_n4 67 .lastore 68 0, ip_n4 68 (.aload_n 0) 69 0, ip_n7 69 (.getfield 39) 72 11 28 2 111, ip_n4 72 (.iload 5) 74 5, ip_n9 74 (.iconst 2) 75 0 0 0 0 (.int 2) [], ip_n4 75 .iadd 76 0]
set_option maxRecDepth 100000 in
noncomputable def ip_d217_2 : List (Nat × ip_E) := [ip_n4 76 (.aload_n 0) 77 0, ip_n4 77 (.aload_n 1) 78 1, ip_n4 78 (.iload 5) 80 5, ip_n4 80 .laload 81 0, ip_n4 81 (.aload_n 0) 82 0, ip_n4 82 (.aload_n 0) 83 0, ip_n4 83 (.aload_n 1) 84 1, ip_n4 84 (.iload 5) 86 5, ip_n9 86 (.iconst 1) 87 0 0 0 0 (.int 1) [], ip_n4 87 .iadd 88 0, ip_n4 88 .laload 89 0, ip_n4 89 (.iload_n 2) 90 2, ip_n4 90 .i2l 91 0, ip_n7 91 (.invokevirtual 288) 94 216 3 1 220, ip_n4 94 (.aload_n 0) 95 0, ip_n4 95 (.aload_n 1) 96 1, ip_n4 96 (.iload 5) 98 5, ip_n9 98 (.iconst 2) 99 0 0 0 0 (.int 2) [], ip_n4 99 .iadd 100 0, ip_n4 100 .laload 101 0, ip_n4 101 (.iload_n 3) 102 3, ip_n4 102 .i2l 103 0, ip_n7 103 (.invokevirtual 288) 106 216 3 1 220, ip_n7 106 (.invokevirtual 291) 109 215 3 1 221]
set_option maxRecDepth 100000 in
noncomputable def ip_d217_3 : List (Nat × ip_E) := [ip_n7 109 (.invokevirtual 291) 112 215 3 1 221, ip_n4 112 .lastore 113 0, ip_n9 113 (.iinc 5 3) 116 5 0 0 0 (.int 3) [], ip_n4 116 (.goto (-113)) 119 3, ip_n4 119 .return_ 120 0]
set_option maxRecDepth 100000 in
noncomputable def ip_c217 : List (Nat × ip_E) := ip_d217_0 ++ (ip_d217_1 ++ (ip_d217_2 ++ (ip_d217_3)))
set_option maxRecDepth 100000 in
noncomputable def ip_d218_0 : List (Nat × ip_E) := [ip_n4 0 (.aload_n 0) 1 0, ip_n7 1 (.invokevirtual 229) 4 190 1 1 214, ip_n4 4 (.ifCond .eq 28) 7 32, ip_n4 7 (.aload_n 0) 8 0, ip_n4 8 (.aload_n 0) 9 0, ip_n7 9 (.getfield 139) 12 11 13 1 125, ip_n4 12 (.aload_n 0) 13 0, ip_n7 13 (.getfield 143) 16 11 14 1 126, ip_n4 16 (.aload_n 0) 17 0, ip_n7 17 (.getfield 146) 20 11 15 1 127, ip_n4 20 (.aload_n 0) 21 0, ip_n7 21 (.getfield 149) 24 11 16 1 128, ip_n7 24 (.invokevirtual 184) 27 186 5 1 204, ip_n9 27 (.bipush 99) 29 0 0 0 0 (.int 99) [], ip_n4 29 (.if_icmp .le 5) 32 34, ip_n9 32 (.iconst 0) 33 0 0 0 0 (.int 0) [], ip_n7 33 .ireturn 34 0 0 3 0, ip_n4 34 (.aload_n 0) 35 0, ip_n7 35 (.getfield 42) 38 11 30 2 112, ip_n4 38 (.iload_n 1) 39 1, ip_n4 39 (.aload_n 0) 40 0, ip_n7 40 (.getfield 139) 43 11 13 1 125, ip_n4 43 .l2i 44 0, ip_n4 44 .iastore 45 0]
set_option maxRecDepth 100000 in
noncomputable def ip_d218_1 : List (Nat × ip_E) := [ip_n4 45 (.aload_n 0) 46 0, ip_n7 46 (.getfield 42) 49 11 30 2 112, ip_n4 49 (.iload_n 1) 50 1, ip_n9 50 (.iconst 1) 51 0 0 0 0 (.int 1) [], ip_n4 51 .iadd 52 0, ip_n4 52 (.aload_n 0) 53 0, ip_n7 53 (.getfield 143) 56 11 14 1 126, ip_n4 56 .l2i 57 0, ip_n4 57 .iastore 58 0, ip_n4 58 (.aload_n 0) 59 0, ip_n7 59 (.getfield 42) 62 11 30 2 112, ip_n4 62 (.iload_n 1) 63 1, ip_n9 63 (.iconst 2) 64 0 0 0 0 (.int 2) [], ip_n4 64 .iadd 65 0, ip_n4 65 (.aload_n 0) 66 0, ip_n7 66 (.getfield 146) 69 11 15 1 127, ip_n4 69 .l2i 70 0, ip_n4 70 .iastore 71 0, ip_n4 71 (.aload_n 0) 72 0, ip_n7 72 (.getfield 42) 75 11 30 2 112, ip_n4 75 (.iload_n 1) 76 1, ip_n9 76 (.iconst 3) 77 0 0 0 0 (.int 3) [], ip_n4 77 .iadd 78 0, ip_n4 78 (.aload_n 0) 79 0]
set_option maxRecDepth 100000 in
noncomputable def ip_d218_2 : List (Nat × ip_E) := [ip_n7 79 (.getfield 149) 82 11 16 1 128, ip_n4 82 .l2i 83 0, ip_n4 83 .iastore 84 0, ip_n9 84 (.iconst 1) 85 0 0 0 0 (.int 1) [], ip_n7 85 .ireturn 86 0 0 3 0]
set_option maxRecDepth 100000 in
noncomputable def ip_c218 : List (Nat × ip_E) := ip_d218_0 ++ (ip_d218_1 ++ (ip_d218_2))
set_option maxRecDepth 100000 in
noncomputable def ip_d219_0 : List (Nat × ip_E) := [ip_n4 0 (.aload_n 0) 1 0, ip_n7 1 (.getfield 7) 4 11 1 2 102, ip_n9 4 (.iconst 5) 5 0 0 0 0 (.int 5) [], ip_n4 5 .iaload 6 0, ip_n9 6 (.bipush 60) 8 0 0 0 0 (.int 60) [], ip_n4 8 (.if_icmp .ne 5) 11 13, ip_n9 11 (.iconst 0) 12 0 0 0 0 (.int 0) [], ip_n7 12 .ireturn 13 0 0 3 0, ip_n4 13 (.aload_n 0) 14 0, ip_n7 14 (.invokevirtual 280) 17 213 1 1 219, ip_n4 17 (.aload_n 0) 18 0, ip_n9 18 (.iconst 0) 19 0 0 0 0 (.int 0) [], ip_n7 19 (.putfield 285) 22 11 29 3 141, ip_n4 22 (.aload_n 0) 23 0, ip_n4 23 (.aload_n 0) 24 0, ip_n7 24 (.getfield 13) 27 11 2 2 103, ip_n4 27 (.aload_n 0) 28 0, ip_n7 28 (.getfield 243) 31 11 17 0 130, ip_n4 31 (.aload_n 0) 32 0, ip_n7 32 (.getfield 246) 35 11 18 0 131, ip_n4 35 (.aload_n 0) 36 0, ip_n7 36 (.getfield 276) 39 11 27 3 140, ip_n4 39 (.ifCond .eq 7) 42 46, ip_n9 42 (.iconst 1) 43 0 0 0 0 (.int 1) []]
set_option maxRecDepth 100000 in
noncomputable def ip_d219_1 : List (Nat × ip_E) := [ip_n4 43 (.goto 4) 46 47, ip_n9 46 (.iconst 0) 47 0 0 0 0 (.int 0) [], ip_n7 47 (.invokevirtual 294) 50 217 5 1 222, ip_n4 50 (.aload_n 0) 51 0, ip_n7 51 (.getfield 285) 54 11 29 3 141, ip_n4 54 (.ifCond .eq 5) 57 59, ip_n9 57 (.iconst 0) 58 0 0 0 0 (.int 0) [], ip_n7 58 .ireturn 59 0 0 3 0, ip_n4 59 (.aload_n 0) 60 0, ip_n4 60 (.aload_n 0) 61 0, ip_n7 61 (.getfield 267) 64 11 23 1 137, ip_n4 64 (.aload_n 0) 65 0, ip_n7 65 (.getfield 270) 68 11 24 1 138, ip_n4 68 (.aload_n 0) 69 0, ip_n7 69 (.getfield 273) 72 11 25 1 139, ip_n4 72 (.aload_n 0) 73 0, ip_n7 73 (.getfield 264) 76 11 26 1 136, ip_n4 76 (.aload_n 0) 77 0, ip_n7 77 (.getfield 255) 80 11 19 1 133, ip_n4 80 (.aload_n 0) 81 0, ip_n7 81 (.getfield 258) 84 11 20 1 134, ip_n4 84 (.aload_n 0) 85 0, ip_n7 85 (.getfield 261) 88 11 21 1 135, ip_n4 88 (.aload_n 0) 89 0]
set_option maxRecDepth 100000 in
noncomputable def ip_d219_2 : List (Nat × ip_E) := [ip_n7 89 (.getfield 252) 92 11 22 1 132, ip_n7 92 (.invokevirtual 219) 95 192 9 1 211, ip_n4 95 (.aload_n 0) 96 0, ip_n9 96 (.iconst 0) 97 0 0 0 0 (.int 0) [], ip_n7 97 (.invokevirtual 298) 100 218 2 1 223, ip_n4 100 (.ifCond .ne 5) 103 105, ip_n9 103 (.iconst 0) 104 0 0 0 0 (.int 0) [], ip_n7 104 .ireturn 105 0 0 3 0, ip_n4 105 (.aload_n 0) 106 0, ip_n9 106 (.lconst 1) 107 0 0 0 0 (.long 1) [], ip_n9 107 (.lconst 0) 108 0 0 0 0 (.long 0) [], ip_n9 108 (.lconst 0) 109 0 0 0 0 (.long 0) [], ip_n9 109 (.lconst 1) 110 0 0 0 0 (.long 1) [], ip_n4 110 (.aload_n 0) 111 0, ip_n7 111 (.getfield 255) 114 11 19 1 133, ip_n4 114 (.aload_n 0) 115 0, ip_n7 115 (.getfield 258) 118 11 20 1 134, ip_n4 118 (.aload_n 0) 119 0, ip_n7 119 (.getfield 261) 122 11 21 1 135, ip_n4 122 (.aload_n 0) 123 0, ip_n7 123 (.getfield 252) 126 11 22 1 132, ip_n7 126 (.invokevirtual 219) 129 192 9 1 211, ip_n4 129 (.aload_n 0) 130 0, ip_n9 130 (.iconst 4) 131 0 0 0 0 (.int 4) []]
set_option maxRecDepth 100000 in
noncomputable def ip_d219_3 : List (Nat × ip_E) := [ip_n7 131 (.invokevirtual 298) 134 218 2 1 223, ip_n7 134 .ireturn 135 0 0 3 0]
set_option maxRecDepth 100000 in
noncomputable def ip_c219 : List (Nat × ip_E) := ip_d219_0 ++ (ip_d219_1 ++ (ip_d219_2 ++ (ip_d219_3)))
set_option maxRecDepth 100000 in
noncomputable def ip_d220_0 : List (Nat × ip_E) := [ip_n4 0 (.aload_n 0) 1 0, ip_n7 1 (.getfield 7) 4 11 1 2 102, ip_n9 4 (.iconst 5) 5 0 0 0 0 (.int 5) [], ip_n4 5 .iaload 6 0, ip_n4 6 (.istore_n 1) 7 1, ip_n9 7 (.iconst 0) 8 0 0 0 0 (.int 0) [], ip_n4 8 (.istore_n 2) 9 2, ip_n4 9 (.iload_n 2) 10 2, ip_n9 10 (.bipush 8) 12 0 0 0 0 (.int 8) [], ip_n4 12 (.if_icmp .ge 32) 15 44, ip_n4 15 (.aload_n 0) 16 0, ip_n7 16 (.getfield 7) 19 11 1 2 102, ip_n9 19 (.sipush 153) 22 0 0 0 0 (.int 153) [], ip_n9 22 (.bipush 8) 24 0 0 0 0 (.int 8) [], ip_n4 24 (.iload_n 1) 25 1, ip_n9 25 (.iconst 1) 26 0 0 0 0 (.int 1) [], ip_n4 26 .iadd 27 0, ip_n4 27 .imul 28 0, ip_n4 28 .iadd 29 0, ip_n4 29 (.iload_n 2) 30 2, ip_n4 30 .iadd 31 0, ip_n4 31 (.aload_n 0) 32 0, ip_n7 32 (.getfield 42) 35 11 30 2 112, ip_n4 35 (.iload_n 2) 36 2]
set_option maxRecDepth 100000 in
noncomputable def ip_d220_1 : List (Nat × ip_E) := [ip_n4 36 .iaload 37 0, ip_n4 37 .iastore 38 0, ip_n9 38 (.iinc 2 1) 41 2 0 0 0 (.int 1) [], ip_n4 41 (.goto (-32)) 44 9, ip_n4 44 (.aload_n 0) 45 0, ip_n7 45 (.getfield 7) 48 11 1 2 102, ip_n9 48 (.sipush 641) 51 0 0 0 0 (.int 641) [], ip_n9 51 (.iconst 3) 52 0 0 0 0 (.int 3) [], ip_n4 52 (.iload_n 1) 53 1, ip_n4 53 .imul 54 0, ip_n4 54 .iadd 55 0, ip_n4 55 (.aload_n 0) 56 0, ip_n7 56 (.getfield 243) 59 11 17 0 130, ip_n4 59 .iastore 60 0, ip_n4 60 (.aload_n 0) 61 0, ip_n7 61 (.getfield 7) 64 11 1 2 102, ip_n9 64 (.sipush 641) 67 0 0 0 0 (.int 641) [], ip_n9 67 (.iconst 3) 68 0 0 0 0 (.int 3) [], ip_n4 68 (.iload_n 1) 69 1, ip_n4 69 .imul 70 0, ip_n4 70 .iadd 71 0, ip_n9 71 (.iconst 1) 72 0 0 0 0 (.int 1) [], ip_n4 72 .iadd 73 0, ip_n4 73 (.aload_n 0) 74 0]
set_option maxRecDepth 100000 in
noncomputable def ip_d220_2 : List (Nat × ip_E) := [ip_n7 74 (.getfield 246) 77 11 18 0 131, ip_n4 77 .iastore 78 0, ip_n4 78 (.aload_n 0) 79 0, ip_n7 79 (.getfield 7) 82 11 1 2 102, ip_n9 82 (.sipush 641) 85 0 0 0 0 (.int 641) [], ip_n9 85 (.iconst 3) 86 0 0 0 0 (.int 3) [], ip_n4 86 (.iload_n 1) 87 1, ip_n4 87 .imul 88 0, ip_n4 88 .iadd 89 0, ip_n9 89 (.iconst 2) 90 0 0 0 0 (.int 2) [], ip_n4 90 .iadd 91 0, ip_n4 91 (.aload_n 0) 92 0, ip_n7 92 (.getfield 276) 95 11 27 3 140, ip_n4 95 (.ifCond .eq 7) 98 102, ip_n9 98 (.iconst 1) 99 0 0 0 0 (.int 1) [], ip_n4 99 (.goto 4) 102 103, ip_n9 102 (.iconst 0) 103 0 0 0 0 (.int 0) [], ip_n4 103 .iastore 104 0, ip_n9 104 (.iconst 0) 105 0 0 0 0 (.int 0) [], ip_n4 105 (.istore_n 2) 106 2, ip_n4 106 (.iload_n 2) 107 2, ip_n9 107 (.bipush 9) 109 0 0 0 0 (.int 9) [], ip_n4 109 (.if_icmp .ge 21) 112 130, ip_n4 112 (.aload_n 0) 113 0]
set_option maxRecDepth 100000 in
noncomputable def ip_d220_3 : List (Nat × ip_E) := [ip_n7 113 (.getfield 13) 116 11 2 2 103, ip_n4 116 (.iload_n 2) 117 2, ip_n4 117 (.aload_n 0) 118 0, ip_n7 118 (.getfield 39) 121 11 28 2 111, ip_n4 121 (.iload_n 2) 122 2, ip_n4 122 .laload 123 0, ip_n4 123 .lastore 124 0, ip_n9 124 (.iinc 2 1) 127 2 0 0 0 (.int 1) [], ip_n4 127 (.goto (-21)) 130 106, ip_n4 130 (.aload_n 0) 131 0, ip_n7 131 (.getfield 7) 134 11 1 2 102, ip_n9 134 (.iconst 5) 135 0 0 0 0 (.int 5) [], ip_n4 135 (.iload_n 1) 136 1, ip_n9 136 (.iconst 1) 137 0 0 0 0 (.int 1) [], ip_n4 137 .iadd 138 0, ip_n4 138 .iastore 139 0, ip_n4 139 (.aload_n 0) 140 0, ip_n7 140 (.invokevirtual 301) 143 222 1 1 224, ip_n4 143 .return_ 144 0]
set_option maxRecDepth 100000 in
noncomputable def ip_c220 : List (Nat × ip_E) := ip_d220_0 ++ (ip_d220_1 ++ (ip_d220_2 ++ (ip_d220_3)))
set_option maxRecDepth 100000 in
noncomputable def ip_c221 : List (Nat × ip_E) := [ip_n9 0 (.iconst 0) 1 0 0 0 0 (.int 0) [], ip_n4 1 (.istore_n 3) 2 3, ip_n4 2 (.iload_n 3) 3 3, ip_n9 3 (.bipush 8) 5 0 0 0 0 (.int 8) [], ip_n4 5 (.if_icmp .ge 26) 8 31, ip_n4 8 (.aload_n 0) 9 0, ip_n4 9 (.iload_n 1) 10 1, ip_n4 10 (.iload_n 3) 11 3, ip_n7 11 (.invokevirtual 249) 14 208 3 1 218, ip_n4 14 (.aload_n 0) 15 0, ip_n4 15 (.iload_n 2) 16 2, ip_n4 16 (.iload_n 3) 17 3, ip_n7 17 (.invokevirtual 249) 20 208 3 1 218, ip_n4 20 (.if_icmp .eq 5) 23 25, ip_n9 23 (.iconst 0) 24 0 0 0 0 (.int 0) [], ip_n7 24 .ireturn 25 0 0 3 0, ip_n9 25 (.iinc 3 1) 28 3 0 0 0 (.int 1) [], ip_n4 28 (.goto (-26)) 31 2, ip_n9 31 (.iconst 1) 32 0 0 0 0 (.int 1) [], ip_n7 32 .ireturn 33 0 0 3 0]
set_option maxRecDepth 100000 in
noncomputable def ip_d222_0 : List (Nat × ip_E) := [ip_n4 0 (.aload_n 0) 1 0, ip_n7 1 (.getfield 7) 4 11 1 2 102, ip_n9 4 (.iconst 5) 5 0 0 0 0 (.int 5) [], ip_n4 5 .iaload 6 0, ip_n4 6 (.istore_n 1) 7 1, ip_n9 7 (.iconst 0) 8 0 0 0 0 (.int 0) [], ip_n4 8 (.istore_n 2) 9 2, ip_n4 9 (.iload_n 2) 10 2, ip_n4 10 (.iload_n 1) 11 1, ip_n4 11 (.if_icmp .ge 50) 14 61, ip_n4 14 (.aload_n 0) 15 0, ip_n7 15 (.getfield 7) 18 11 1 2 102, ip_n9 18 (.bipush 6) 20 0 0 0 0 (.int 6) [], ip_n4 20 .iaload 21 0, ip_n9 21 (.iconst (-1)) 22 0 0 0 0 (.int (-1)) [], ip_n4 22 (.if_icmp .ne 39) 25 61, ip_n4 25 (.aload_n 0) 26 0, ip_n4 26 (.iload_n 2) 27 2, ip_n4 27 (.iload_n 1) 28 1, ip_n7 28 (.invokevirtual 304) 31 221 3 1 225, ip_n4 31 (.ifCond .ne 6) 34 37, ip_n4 34 (.goto 21) 37 55, ip_n4 37 (.aload_n 0) 38 0, ip_n7 38 (.getfield 7) 41 11 1 2 102]
set_option maxRecDepth 100000 in
noncomputable def ip_d222_1 : List (Nat × ip_E) := [ip_n9 41 (.bipush 6) 43 0 0 0 0 (.int 6) [], ip_n4 43 (.iload_n 2) 44 2, ip_n4 44 .iastore 45 0, ip_n4 45 (.aload_n 0) 46 0, ip_n7 46 (.getfield 7) 49 11 1 2 102, ip_n9 49 (.bipush 7) 51 0 0 0 0 (.int 7) [], ip_n4 51 (.iload_n 1) 52 1, ip_n4 52 (.iload_n 2) 53 2, ip_n4 53 .isub 54 0, ip_n4 54 .iastore 55 0, ip_n9 55 (.iinc 2 1) 58 2 0 0 0 (.int 1) [], ip_n4 58 (.goto (-49)) 61 9, ip_n4 61 .return_ 62 0]
set_option maxRecDepth 100000 in
noncomputable def ip_c222 : List (Nat × ip_E) := ip_d222_0 ++ (ip_d222_1)
set_option maxRecDepth 100000 in
noncomputable def ip_d223_0 : List (Nat × ip_E) := [ip_n4 0 (.aload_n 0) 1 0, ip_n9 1 (.iconst 0) 2 0 0 0 0 (.int 0) [], ip_n7 2 (.putfield 77) 5 11 0 0 124, ip_n4 5 (.aload_n 0) 6 0, ip_n7 6 (.getfield 7) 9 11 1 2 102, ip_n9 9 (.iconst 3) 10 0 0 0 0 (.int 3) [], ip_n4 10 .iaload 11 0, ip_n4 11 (.ifCond .eq 10) 14 21, ip_n4 14 (.aload_n 0) 15 0, ip_n7 15 (.invokevirtual 307) 18 214 1 1 226, ip_n4 18 (.ifCond .eq 10) 21 28, ip_n4 21 (.aload_n 0) 22 0, ip_n9 22 (.bipush (-3)) 24 0 0 0 0 (.int (-3)) [], ip_n7 24 (.invokevirtual 86) 27 167 2 1 182, ip_n4 27 .ireturn 28 0, ip_n4 28 (.aload_n 0) 29 0, ip_n7 29 (.invokevirtual 310) 32 219 1 1 227, ip_n4 32 (.ifCond .ne 10) 35 42, ip_n4 35 (.aload_n 0) 36 0, ip_n9 36 (.bipush (-5)) 38 0 0 0 0 (.int (-5)) [], ip_n7 38 (.invokevirtual 86) 41 167 2 1 182, ip_n4 41 .ireturn 42 0, ip_n4 42 (.aload_n 0) 43 0, ip_n9 43 (.iconst 5) 44 0 0 0 0 (.int 5) []]
set_option maxRecDepth 100000 in
noncomputable def ip_d223_1 : List (Nat × ip_E) := [ip_n7 44 (.invokevirtual 195) 47 170 2 1 207, ip_n4 47 (.aload_n 0) 48 0, ip_n7 48 (.invokevirtual 313) 51 220 1 1 228, ip_n4 51 (.aload_n 0) 52 0, ip_n4 52 (.aload_n 0) 53 0, ip_n7 53 (.getfield 7) 56 11 1 2 102, ip_n9 56 (.iconst 5) 57 0 0 0 0 (.int 5) [], ip_n4 57 .iaload 58 0, ip_n7 58 (.invokevirtual 93) 61 168 2 1 184, ip_n4 61 .ireturn 62 0]
set_option maxRecDepth 100000 in
noncomputable def ip_c223 : List (Nat × ip_E) := ip_d223_0 ++ (ip_d223_1)
set_option maxRecDepth 100000 in
noncomputable def ip_d224_0 : List (Nat × ip_E) := [ip_n4 0 (.aload_n 0) 1 0, ip_n9 1 (.iconst 0) 2 0 0 0 0 (.int 0) [], ip_n7 2 (.putfield 77) 5 11 0 0 124, ip_n4 5 (.iload_n 1) 6 1, ip_n9 6 (.iconst 1) 7 0 0 0 0 (.int 1) [], ip_n9 7 (.bipush 60) 9 0 0 0 0 (.int 60) [], ip_n7 9 (.invokestatic 96) 12 166 3 0 185, ip_n4 12 (.ifCond .ne 9) 15 21, ip_n4 15 (.aload_n 0) 16 0, ip_n9 16 (.iconst (-1)) 17 0 0 0 0 (.int (-1)) [], ip_n7 17 (.invokevirtual 86) 20 167 2 1 182, ip_n4 20 .ireturn 21 0, ip_n4 21 (.aload_n 0) 22 0, ip_n7 22 (.getfield 7) 25 11 1 2 102, ip_n9 25 (.iconst 3) 26 0 0 0 0 (.int 3) [], ip_n4 26 .iaload 27 0, ip_n4 27 (.ifCond .eq 10) 30 37, ip_n4 30 (.aload_n 0) 31 0, ip_n7 31 (.invokevirtual 307) 34 214 1 1 226, ip_n4 34 (.ifCond .eq 10) 37 44, ip_n4 37 (.aload_n 0) 38 0, ip_n9 38 (.bipush (-3)) 40 0 0 0 0 (.int (-3)) [], ip_n7 40 (.invokevirtual 86) 43 167 2 1 182, ip_n4 43 .ireturn 44 0]
set_option maxRecDepth 100000 in
noncomputable def ip_d224_1 : List (Nat × ip_E) := [ip_n4 44 (.aload_n 0) 45 0, ip_n7 45 (.invokevirtual 310) 48 219 1 1 227, ip_n4 48 (.ifCond .ne 10) 51 58, ip_n4 51 (.aload_n 0) 52 0, ip_n9 52 (.bipush (-5)) 54 0 0 0 0 (.int (-5)) [], ip_n7 54 (.invokevirtual 86) 57 167 2 1 182, ip_n4 57 .ireturn 58 0, ip_n4 58 (.aload_n 0) 59 0, ip_n9 59 (.bipush 6) 61 0 0 0 0 (.int 6) [], ip_n7 61 (.invokevirtual 195) 64 170 2 1 207, ip_n9 64 (.iconst 1) 65 0 0 0 0 (.int 1) [], ip_n4 65 (.istore_n 2) 66 2, ip_n9 66 (.iconst 0) 67 0 0 0 0 (.int 0) [], ip_n4 67 (.istore_n 3) 68 3, ip_n4 68 (.iload_n 2) 69 2, ip_n4 69 (.ifCond .eq 59) 72 128, ip_n4 72 (.aload_n 0) 73 0, ip_n7 73 (.getfield 7) 76 11 1 2 102, ip_n9 76 (.bipush 6) 78 0 0 0 0 (.int 6) [], ip_n4 78 .iaload 79 0, ip_n4 79 (.istore 4) 81 4, ip_n4 81 (.aload_n 0) 82 0, ip_n7 82 (.invokevirtual 313) 85 220 1 1 228, ip_n9 85 (.iinc 3 1) 88 3 0 0 0 (.int 1) []]
set_option maxRecDepth 100000 in
noncomputable def ip_d224_2 : List (Nat × ip_E) := [ip_n4 88 (.iload_n 3) 89 3, ip_n4 89 (.iload_n 1) 90 1, ip_n4 90 (.if_icmp .ge 33) 93 123, ip_n4 93 (.aload_n 0) 94 0, ip_n7 94 (.getfield 7) 97 11 1 2 102, ip_n9 97 (.bipush 6) 99 0 0 0 0 (.int 6) [], ip_n4 99 .iaload 100 0, ip_n4 100 (.iload 4) 102 4, ip_n4 102 (.if_icmp .ne 21) 105 123, ip_n4 105 (.aload_n 0) 106 0, ip_n7 106 (.invokevirtual 307) 109 214 1 1 226, ip_n4 109 (.ifCond .ne 14) 112 123, ip_n4 112 (.aload_n 0) 113 0, ip_n7 113 (.invokevirtual 310) 116 219 1 1 227, ip_n4 116 (.ifCond .eq 7) 119 123, ip_n9 119 (.iconst 1) 120 0 0 0 0 (.int 1) [], ip_n4 120 (.goto 4) 123 124, ip_n9 123 (.iconst 0) 124 0 0 0 0 (.int 0) [], ip_n4 124 (.istore_n 2) 125 2, ip_n4 125 (.goto (-57)) 128 68, ip_n4 128 (.aload_n 0) 129 0, ip_n4 129 (.iload_n 3) 130 3, ip_n7 130 (.invokevirtual 93) 133 168 2 1 184, ip_n4 133 .ireturn 134 0]
set_option maxRecDepth 100000 in
noncomputable def ip_c224 : List (Nat × ip_E) := ip_d224_0 ++ (ip_d224_1 ++ (ip_d224_2))
set_option maxRecDepth 100000 in
noncomputable def ip_d225_0 : List (Nat × ip_E) := [ip_n4 0 (.aload_n 0) 1 0, ip_n9 1 (.iconst 0) 2 0 0 0 0 (.int 0) [], ip_n7 2 (.putfield 77) 5 11 0 0 124, ip_n4 5 (.iload_n 1) 6 1, ip_n7 6 (.invokestatic 202) 9 196 1 0 208, ip_n4 9 (.ifCond .eq 10) 12 19, ip_n4 12 (.iload_n 2) 13 2, ip_n7 13 (.invokestatic 202) 16 196 1 0 208, ip_n4 16 (.ifCond .ne 10) 19 26, ip_n4 19 (.aload_n 0) 20 0, ip_n9 20 (.bipush (-2)) 22 0 0 0 0 (.int (-2)) [], ip_n7 22 (.invokevirtual 86) 25 167 2 1 182, ip_n4 25 .ireturn 26 0, ip_n4 26 (.aload_n 0) 27 0, ip_n7 27 (.getfield 7) 30 11 1 2 102, ip_n9 30 (.iconst 3) 31 0 0 0 0 (.int 3) [], ip_n4 31 .iaload 32 0, ip_n4 32 (.ifCond .ne 10) 35 42, ip_n4 35 (.aload_n 0) 36 0, ip_n9 36 (.bipush (-3)) 38 0 0 0 0 (.int (-3)) [], ip_n7 38 (.invokevirtual 86) 41 167 2 1 182, ip_n4 41 .ireturn 42 0, ip_n4 42 (.aload_n 0) 43 0, ip_n9 43 (.bipush 7) 45 0 0 0 0 (.int 7) []]
set_option maxRecDepth 100000 in
noncomputable def ip_d225_1 : List (Nat × ip_E) := [ip_n7 45 (.invokevirtual 195) 48 170 2 1 207, ip_n9 48 (.sipush 153) 51 0 0 0 0 (.int 153) [], ip_n9 51 (.bipush 8) 53 0 0 0 0 (.int 8) [], ip_n4 53 (.aload_n 0) 54 0, ip_n7 54 (.getfield 7) 57 11 1 2 102, ip_n9 57 (.iconst 5) 58 0 0 0 0 (.int 5) [], ip_n4 58 .iaload 59 0, ip_n4 59 .imul 60 0, ip_n4 60 .iadd 61 0, ip_n4 61 (.istore_n 3) 62 3, ip_n9 62 (.iconst 0) 63 0 0 0 0 (.int 0) [], ip_n4 63 (.istore 4) 65 4, ip_n4 65 (.iload 4) 67 4, ip_n9 67 (.iconst 4) 68 0 0 0 0 (.int 4) [], ip_n4 68 (.if_icmp .ge 32) 71 100, ip_n4 71 (.aload_n 0) 72 0, ip_n7 72 (.getfield 7) 75 11 1 2 102, ip_n9 75 (.bipush 9) 77 0 0 0 0 (.int 9) [], ip_n9 77 (.iconst 4) 78 0 0 0 0 (.int 4) [], ip_n4 78 (.iload_n 1) 79 1, ip_n4 79 .imul 80 0, ip_n4 80 .iadd 81 0, ip_n4 81 (.iload 4) 83 4, ip_n4 83 .iadd 84 0]
set_option maxRecDepth 100000 in
noncomputable def ip_d225_2 : List (Nat × ip_E) := [ip_n4 84 (.aload_n 0) 85 0, ip_n7 85 (.getfield 7) 88 11 1 2 102, ip_n4 88 (.iload_n 3) 89 3, ip_n4 89 (.iload 4) 91 4, ip_n4 91 .iadd 92 0, ip_n4 92 .iaload 93 0, ip_n4 93 .iastore 94 0, ip_n9 94 (.iinc 4 1) 97 4 0 0 0 (.int 1) [], ip_n4 97 (.goto (-32)) 100 65, ip_n9 100 (.iconst 0) 101 0 0 0 0 (.int 0) [], ip_n4 101 (.istore 4) 103 4, ip_n4 103 (.iload 4) 105 4, ip_n9 105 (.iconst 4) 106 0 0 0 0 (.int 4) [], ip_n4 106 (.if_icmp .ge 34) 109 140, ip_n4 109 (.aload_n 0) 110 0, ip_n7 110 (.getfield 7) 113 11 1 2 102, ip_n9 113 (.bipush 9) 115 0 0 0 0 (.int 9) [], ip_n9 115 (.iconst 4) 116 0 0 0 0 (.int 4) [], ip_n4 116 (.iload_n 2) 117 2, ip_n4 117 .imul 118 0, ip_n4 118 .iadd 119 0, ip_n4 119 (.iload 4) 121 4, ip_n4 121 .iadd 122 0, ip_n4 122 (.aload_n 0) 123 0]
set_option maxRecDepth 100000 in
noncomputable def ip_d225_3 : List (Nat × ip_E) := [ip_n7 123 (.getfield 7) 126 11 1 2 102, ip_n4 126 (.iload_n 3) 127 3, ip_n9 127 (.iconst 4) 128 0 0 0 0 (.int 4) [], ip_n4 128 .iadd 129 0, ip_n4 129 (.iload 4) 131 4, ip_n4 131 .iadd 132 0, ip_n4 132 .iaload 133 0, ip_n4 133 .iastore 134 0, ip_n9 134 (.iinc 4 1) 137 4 0 0 0 (.int 1) [], ip_n4 137 (.goto (-34)) 140 103, ip_n4 140 (.aload_n 0) 141 0, ip_n4 141 (.aload_n 0) 142 0, ip_n4 142 (.aload_n 0) 143 0, ip_n7 143 (.getfield 7) 146 11 1 2 102, ip_n9 146 (.iconst 5) 147 0 0 0 0 (.int 5) [], ip_n4 147 .iaload 148 0, ip_n9 148 (.iconst 1) 149 0 0 0 0 (.int 1) [], ip_n7 149 (.invokevirtual 240) 152 209 3 1 217, ip_n7 152 (.invokevirtual 93) 155 168 2 1 184, ip_n4 155 .ireturn 156 0]
set_option maxRecDepth 100000 in
noncomputable def ip_c225 : List (Nat × ip_E) := ip_d225_0 ++ (ip_d225_1 ++ (ip_d225_2 ++ (ip_d225_3)))
set_option maxRecDepth 100000 in
noncomputable def ip_c226 : List (Nat × ip_E) := [ip_n9 0 (.bipush 24) 2 0 0 0 0 (.int 24) [], ip_n4 2 (.istore_n 2) 3 2, ip_n4 3 (.iload_n 2) 4 2, ip_n4 4 (.ifCond .lt 35) 7 39, ip_n4 7 (.aload_n 0) 8 0, ip_n7 8 (.getfield 45) 11 11 31 2 113, ip_n4 11 (.aload_n 0) 12 0, ip_n7 12 (.getfield 316) 15 11 32 0 142, ip_n4 15 (.iload_n 1) 16 1, ip_n4 16 (.iload_n 2) 17 2, ip_n4 17 .ishr 18 0, ip_n9 18 (.sipush 255) 21 0 0 0 0 (.int 255) [], ip_n4 21 .iand 22 0, ip_n4 22 .iastore 23 0, ip_n4 23 (.aload_n 0) 24 0, ip_n4 24 .dup 25 0, ip_n7 25 (.getfield 316) 28 11 32 0 142, ip_n9 28 (.iconst 1) 29 0 0 0 0 (.int 1) [], ip_n4 29 .iadd 30 0, ip_n7 30 (.putfield 316) 33 11 32 0 142, ip_n9 33 (.iinc 2 (-8)) 36 2 0 0 0 (.int (-8)) [], ip_n4 36 (.goto (-33)) 39 3, ip_n4 39 .return_ 40 0]
set_option maxRecDepth 100000 in
noncomputable def ip_c227 : List (Nat × ip_E) := [ip_n4 0 (.aload_n 0) 1 0, ip_n9 1 (.iconst 0) 2 0 0 0 0 (.int 0) [], ip_n7 2 (.putfield 77) 5 11 0 0 124, ip_n4 5 (.aload_n 0) 6 0, ip_n7 6 (.getfield 316) 9 11 32 0 142, ip_n9 9 (.bipush 20) 11 0 0 0 0 (.int 20) [], ip_n4 11 .iadd 12 0, ip_n9 12 (.sipush 200) 15 0 0 0 0 (.int 200) [], ip_n4 15 (.if_icmp .le 5) 18 20, ip_n9 18 (.iconst (-1)) 19 0 0 0 0 (.int (-1)) [], ip_n4 19 .ireturn 20 0, ip_n4 20 (.aload_n 0) 21 0, ip_n4 21 (.iload_n 1) 22 1, ip_n7 22 (.invokevirtual 319) 25 226 2 1 229, ip_n4 25 (.aload_n 0) 26 0, ip_n4 26 (.iload_n 2) 27 2, ip_n7 27 (.invokevirtual 319) 30 226 2 1 229, ip_n4 30 (.aload_n 0) 31 0, ip_n4 31 (.iload_n 3) 32 3, ip_n7 32 (.invokevirtual 319) 35 226 2 1 229, ip_n4 35 (.aload_n 0) 36 0, ip_n4 36 (.iload 4) 38 4, ip_n7 38 (.invokevirtual 319) 41 226 2 1 229, ip_n4 41 (.aload_n 0) 42 0, ip_n4 42 (.iload 5) 44 5, ip_n7 44 (.invokevirtual 319) 47 226 2 1 229, ip_n4 47 (.aload_n 0) 48 0, ip_n7 48 (.getfield 316) 51 11 32 0 142, ip_n4 51 .ireturn 52 0]
set_option maxRecDepth 100000 in
noncomputable def ip_c228 : List (Nat × ip_E) := [ip_n4 0 (.aload_n 0) 1 0, ip_n9 1 (.iconst 0) 2 0 0 0 0 (.int 0) [], ip_n7 2 (.putfield 77) 5 11 0 0 124, ip_n4 5 (.iload_n 1) 6 1, ip_n9 6 (.iconst 0) 7 0 0 0 0 (.int 0) [], ip_n4 7 (.aload_n 0) 8 0, ip_n7 8 (.getfield 316) 11 11 32 0 142, ip_n7 11 (.invokestatic 96) 14 166 3 0 185, ip_n4 14 (.ifCond .ne 5) 17 19, ip_n9 17 (.iconst (-1)) 18 0 0 0 0 (.int (-1)) [], ip_n4 18 .ireturn 19 0, ip_n4 19 (.aload_n 0) 20 0, ip_n4 20 (.iload_n 1) 21 1, ip_n7 21 (.putfield 316) 24 11 32 0 142, ip_n4 24 (.iload_n 1) 25 1, ip_n4 25 .ireturn 26 0]
set_option maxRecDepth 100000 in
noncomputable def ip_c229 : List (Nat × ip_E) := [ip_n4 0 (.aload_n 0) 1 0, ip_n7 1 (.getfield 322) 4 11 34 0 143, ip_n4 4 (.aload_n 0) 5 0, ip_n7 5 (.getfield 325) 8 11 36 0 144, ip_n4 8 (.if_icmp .ge 35) 11 43, ip_n4 11 (.aload_n 0) 12 0, ip_n7 12 (.getfield 45) 15 11 31 2 113, ip_n4 15 (.aload_n 0) 16 0, ip_n7 16 (.getfield 322) 19 11 34 0 143, ip_n4 19 .iaload 20 0, ip_n9 20 (.bipush 48) 22 0 0 0 0 (.int 48) [], ip_n4 22 (.if_icmp .lt 21) 25 43, ip_n4 25 (.aload_n 0) 26 0, ip_n7 26 (.getfield 45) 29 11 31 2 113, ip_n4 29 (.aload_n 0) 30 0, ip_n7 30 (.getfield 322) 33 11 34 0 143, ip_n4 33 .iaload 34 0, ip_n9 34 (.bipush 57) 36 0 0 0 0 (.int 57) [], ip_n4 36 (.if_icmp .gt 7) 39 43, ip_n9 39 (.iconst 1) 40 0 0 0 0 (.int 1) [], ip_n4 40 (.goto 4) 43 44, ip_n9 43 (.iconst 0) 44 0 0 0 0 (.int 0) [], ip_n7 44 .ireturn 45 0 0 3 0]
set_option maxRecDepth 100000 in
noncomputable def ip_d230_0 : List (Nat × ip_E) := [ip_n4 0 (.aload_n 0) 1 0, ip_n7 1 (.getfield 322) 4 11 34 0 143, ip_n4 4 (.aload_n 0) 5 0, ip_n7 5 (.getfield 325) 8 11 36 0 144, ip_n4 8 (.if_icmp .ge 30) 11 38, ip_n4 11 (.aload_n 0) 12 0, ip_n7 12 (.getfield 45) 15 11 31 2 113, ip_n4 15 (.aload_n 0) 16 0, ip_n7 16 (.getfield 322) 19 11 34 0 143, ip_n4 19 .iaload 20 0, ip_n9 20 (.bipush 32) 22 0 0 0 0 (.int 32) [], ip_n4 22 (.if_icmp .ne 16) 25 38, ip_n4 25 (.aload_n 0) 26 0, ip_n4 26 .dup 27 0, ip_n7 27 (.getfield 322) 30 11 34 0 143, ip_n9 30 (.iconst 1) 31 0 0 0 0 (.int 1) [], ip_n4 31 .iadd 32 0, ip_n7 32 (.putfield 322) 35 11 34 0 143, ip_n4 35 (.goto (-35)) 38 0, ip_n4 38 (.aload_n 0) 39 0, ip_n4 39 (.aload_n 0) 40 0, ip_n7 40 (.getfield 322) 43 11 34 0 143, ip_n7 43 (.putfield 328) 46 11 35 0 145, ip_n4 46 (.aload_n 0) 47 0]
set_option maxRecDepth 100000 in
noncomputable def ip_d230_1 : List (Nat × ip_E) := [ip_n4 47 (.aload_n 0) 48 0, ip_n7 48 (.getfield 322) 51 11 34 0 143, ip_n4 51 (.aload_n 0) 52 0, ip_n7 52 (.getfield 325) 55 11 36 0 144, ip_n4 55 (.if_icmp .ge 15) 58 70, ip_n4 58 (.aload_n 0) 59 0, ip_n7 59 (.getfield 45) 62 11 31 2 113, ip_n4 62 (.aload_n 0) 63 0, ip_n7 63 (.getfield 322) 66 11 34 0 143, ip_n4 66 .iaload 67 0, ip_n4 67 (.goto 4) 70 71, ip_n9 70 (.iconst (-1)) 71 0 0 0 0 (.int (-1)) [], ip_n7 71 (.putfield 331) 74 11 38 0 146, ip_n4 74 (.aload_n 0) 75 0, ip_n4 75 (.aload_n 0) 76 0, ip_n7 76 (.getfield 322) 79 11 34 0 143, ip_n4 79 (.aload_n 0) 80 0, ip_n7 80 (.getfield 325) 83 11 36 0 144, ip_n4 83 (.if_icmp .ge 8) 86 91, ip_n9 86 (.bipush (-2)) 88 0 0 0 0 (.int (-2)) [], ip_n4 88 (.goto 4) 91 92, ip_n9 91 (.iconst (-1)) 92 0 0 0 0 (.int (-1)) [], ip_n7 92 (.putfield 334) 95 11 37 0 147, ip_n4 95 (.aload_n 0) 96 0]
set_option maxRecDepth 100000 in
noncomputable def ip_d230_2 : List (Nat × ip_E) := [ip_n7 96 (.invokevirtual 337) 99 229 1 1 230, ip_n4 99 (.ifCond .ne 14) 102 113, ip_n4 102 (.aload_n 0) 103 0, ip_n4 103 .dup 104 0, ip_n7 104 (.getfield 322) 107 11 34 0 143, ip_n9 107 (.iconst 1) 108 0 0 0 0 (.int 1) [], ip_n4 108 .iadd 109 0, ip_n7 109 (.putfield 322) 112 11 34 0 143, ip_n4 112 .return_ 113 0, ip_n4 113 (.aload_n 0) 114 0, ip_n9 114 (.iconst 0) 115 0 0 0 0 (.int 0) [], ip_n7 115 (.putfield 334) 118 11 37 0 147, ip_n4 118 (.aload_n 0) 119 0, ip_n7 119 (.invokevirtual 337) 122 229 1 1 230, ip_n4 122 (.ifCond .eq 55) 125 177, ip_n4 125 (.aload_n 0) 126 0, ip_n9 126 (.bipush 10) 128 0 0 0 0 (.int 10) [], ip_n4 128 (.aload_n 0) 129 0, ip_n7 129 (.getfield 334) 132 11 37 0 147, ip_n4 132 .imul 133 0, ip_n4 133 (.aload_n 0) 134 0, ip_n7 134 (.getfield 45) 137 11 31 2 113, ip_n4 137 (.aload_n 0) 138 0, ip_n7 138 (.getfield 322) 141 11 34 0 143]
set_option maxRecDepth 100000 in
noncomputable def ip_d230_3 : List (Nat × ip_E) := [ip_n4 141 .iaload 142 0, ip_n4 142 .iadd 143 0, ip_n9 143 (.bipush 48) 145 0 0 0 0 (.int 48) [], ip_n4 145 .isub 146 0, ip_n7 146 (.putfield 334) 149 11 37 0 147, ip_n4 149 (.aload_n 0) 150 0, ip_n7 150 (.getfield 334) 153 11 37 0 147, ip_n9 153 (.bipush 100) 155 0 0 0 0 (.int 100) [], ip_n4 155 (.if_icmp .le 9) 158 164, ip_n4 158 (.aload_n 0) 159 0, ip_n9 159 (.bipush 100) 161 0 0 0 0 (.int 100) [], ip_n7 161 (.putfield 334) 164 11 37 0 147, ip_n4 164 (.aload_n 0) 165 0, ip_n4 165 .dup 166 0, ip_n7 166 (.getfield 322) 169 11 34 0 143, ip_n9 169 (.iconst 1) 170 0 0 0 0 (.int 1) [], ip_n4 170 .iadd 171 0, ip_n7 171 (.putfield 322) 174 11 34 0 143, ip_n4 174 (.goto (-56)) 177 118, ip_n4 177 .return_ 178 0]
set_option maxRecDepth 100000 in
noncomputable def ip_c230 : List (Nat × ip_E) := ip_d230_0 ++ (ip_d230_1 ++ (ip_d230_2 ++ (ip_d230_3)))
set_option maxRecDepth 100000 in
noncomputable def ip_c231 : List (Nat × ip_E) := [ip_n4 0 (.aload_n 0) 1 0, ip_n7 1 (.getfield 334) 4 11 37 0 147, ip_n4 4 (.ifCond .lt 16) 7 20, ip_n4 7 (.aload_n 0) 8 0, ip_n7 8 (.getfield 334) 11 11 37 0 147, ip_n9 11 (.bipush 100) 13 0 0 0 0 (.int 100) [], ip_n4 13 (.if_icmp .ge 7) 16 20, ip_n9 16 (.iconst 1) 17 0 0 0 0 (.int 1) [], ip_n4 17 (.goto 4) 20 21, ip_n9 20 (.iconst 0) 21 0 0 0 0 (.int 0) [], ip_n7 21 .ireturn 22 0 0 3 0]
set_option maxRecDepth 100000 in
noncomputable def ip_d232_0 : List (Nat × ip_E) := [ip_n9 0 (.iconst 0) 1 0 0 0 0 (.int 0) [], ip_n4 1 (.istore_n 2) 2 2, ip_n4 2 (.iload_n 2) 3 2, ip_n9 3 (.iconst 2) 4 0 0 0 0 (.int 2) [], ip_n4 4 (.if_icmp .ge 36) 7 40, ip_n4 7 (.aload_n 0) 8 0, ip_n7 8 (.invokevirtual 340) 11 231 1 1 231, ip_n4 11 (.ifCond .ne 5) 14 16, ip_n9 14 (.iconst 0) 15 0 0 0 0 (.int 0) [], ip_n7 15 .ireturn 16 0 0 3 0, ip_n4 16 (.aload_n 0) 17 0, ip_n7 17 (.getfield 52) 20 11 39 2 115, ip_n9 20 (.iconst 3) 21 0 0 0 0 (.int 3) [], ip_n4 21 (.iload_n 1) 22 1, ip_n4 22 .imul 23 0, ip_n4 23 (.iload_n 2) 24 2, ip_n4 24 .iadd 25 0, ip_n4 25 (.aload_n 0) 26 0, ip_n7 26 (.getfield 334) 29 11 37 0 147, ip_n4 29 .iastore 30 0, ip_n4 30 (.aload_n 0) 31 0, ip_n7 31 (.invokevirtual 343) 34 230 1 1 232, ip_n9 34 (.iinc 2 1) 37 2 0 0 0 (.int 1) [], ip_n4 37 (.goto (-35)) 40 2]
set_option maxRecDepth 100000 in
noncomputable def ip_d232_1 : List (Nat × ip_E) := [ip_n4 40 (.aload_n 0) 41 0, ip_n7 41 (.getfield 334) 44 11 37 0 147, ip_n9 44 (.bipush (-2)) 46 0 0 0 0 (.int (-2)) [], ip_n4 46 (.if_icmp .ne 16) 49 62, ip_n4 49 (.aload_n 0) 50 0, ip_n7 50 (.getfield 331) 53 11 38 0 146, ip_n9 53 (.bipush 116) 55 0 0 0 0 (.int 116) [], ip_n4 55 (.if_icmp .ne 7) 58 62, ip_n9 58 (.iconst 1) 59 0 0 0 0 (.int 1) [], ip_n4 59 (.goto 4) 62 63, ip_n9 62 (.iconst 0) 63 0 0 0 0 (.int 0) [], ip_n4 63 (.istore_n 2) 64 2, ip_n4 64 (.aload_n 0) 65 0, ip_n7 65 (.getfield 52) 68 11 39 2 115, ip_n9 68 (.iconst 3) 69 0 0 0 0 (.int 3) [], ip_n4 69 (.iload_n 1) 70 1, ip_n4 70 .imul 71 0, ip_n9 71 (.iconst 2) 72 0 0 0 0 (.int 2) [], ip_n4 72 .iadd 73 0, ip_n4 73 (.iload_n 2) 74 2, ip_n4 74 (.ifCond .eq 7) 77 81, ip_n9 77 (.iconst 1) 78 0 0 0 0 (.int 1) [], ip_n4 78 (.goto 4) 81 82, ip_n9 81 (.iconst 0) 82 0 0 0 0 (.int 0) []]
set_option maxRecDepth 100000 in
noncomputable def ip_d232_2 : List (Nat × ip_E) := [ip_n4 82 .iastore 83 0, ip_n4 83 (.iload_n 2) 84 2, ip_n4 84 (.ifCond .eq 7) 87 91, ip_n4 87 (.aload_n 0) 88 0, ip_n7 88 (.invokevirtual 343) 91 230 1 1 232, ip_n9 91 (.iconst 1) 92 0 0 0 0 (.int 1) [], ip_n7 92 .ireturn 93 0 0 3 0]
set_option maxRecDepth 100000 in
noncomputable def ip_c232 : List (Nat × ip_E) := ip_d232_0 ++ (ip_d232_1 ++ (ip_d232_2))
set_option maxRecDepth 100000 in
noncomputable def ip_d233_0 : List (Nat × ip_E) := [ip_n9 0 (.iconst 0) 1 0 0 0 0 (.int 0) [], ip_n4 1 (.istore_n 1) 2 1, ip_n4 2 (.aload_n 0) 3 0, ip_n7 3 (.invokevirtual 343) 6 230 1 1 232, ip_n4 6 (.iload_n 1) 7 1, ip_n9 7 (.bipush 40) 9 0 0 0 0 (.int 40) [], ip_n4 9 (.if_icmp .ge 51) 12 60, ip_n4 12 (.aload_n 0) 13 0, ip_n4 13 (.iload_n 1) 14 1, ip_n7 14 (.invokevirtual 346) 17 232 2 1 233, ip_n4 17 (.ifCond .eq 43) 20 60, ip_n9 20 (.iinc 1 1) 23 1 0 0 0 (.int 1) [], ip_n4 23 (.aload_n 0) 24 0, ip_n7 24 (.getfield 334) 27 11 37 0 147, ip_n9 27 (.iconst (-1)) 28 0 0 0 0 (.int (-1)) [], ip_n4 28 (.if_icmp .ne 5) 31 33, ip_n4 31 (.iload_n 1) 32 1, ip_n4 32 .ireturn 33 0, ip_n4 33 (.aload_n 0) 34 0, ip_n7 34 (.getfield 331) 37 11 38 0 146, ip_n9 37 (.bipush 59) 39 0 0 0 0 (.int 59) [], ip_n4 39 (.if_icmp .ne 12) 42 51, ip_n4 42 (.aload_n 0) 43 0, ip_n7 43 (.getfield 334) 46 11 37 0 147]
set_option maxRecDepth 100000 in
noncomputable def ip_d233_1 : List (Nat × ip_E) := [ip_n9 46 (.bipush (-2)) 48 0 0 0 0 (.int (-2)) [], ip_n4 48 (.if_icmp .eq 5) 51 53, ip_n9 51 (.iconst (-1)) 52 0 0 0 0 (.int (-1)) [], ip_n4 52 .ireturn 53 0, ip_n4 53 (.aload_n 0) 54 0, ip_n7 54 (.invokevirtual 343) 57 230 1 1 232, ip_n4 57 (.goto (-51)) 60 6, ip_n9 60 (.iconst (-1)) 61 0 0 0 0 (.int (-1)) [], ip_n4 61 .ireturn 62 0]
set_option maxRecDepth 100000 in
noncomputable def ip_c233 : List (Nat × ip_E) := ip_d233_0 ++ (ip_d233_1)
set_option maxRecDepth 100000 in
noncomputable def ip_d234_0 : List (Nat × ip_E) := [ip_n4 0 (.aload_n 0) 1 0, ip_n9 1 (.iconst 0) 2 0 0 0 0 (.int 0) [], ip_n7 2 (.putfield 77) 5 11 0 0 124, ip_n4 5 (.aload_n 0) 6 0, ip_n4 6 (.aload_n 0) 7 0, ip_n7 7 (.getfield 316) 10 11 32 0 142, ip_n7 10 (.putfield 325) 13 11 36 0 144, ip_n4 13 (.aload_n 0) 14 0, ip_n9 14 (.iconst 0) 15 0 0 0 0 (.int 0) [], ip_n7 15 (.putfield 322) 18 11 34 0 143, ip_n4 18 (.aload_n 0) 19 0, ip_n9 19 (.iconst 0) 20 0 0 0 0 (.int 0) [], ip_n7 20 (.putfield 316) 23 11 32 0 142, ip_n4 23 (.aload_n 0) 24 0, ip_n7 24 (.invokevirtual 349) 27 233 1 1 234, ip_n4 27 (.istore_n 1) 28 1, ip_n4 28 (.aload_n 0) 29 0, ip_n4 29 (.iload_n 1) 30 1, ip_n9 30 (.iconst (-1)) 31 0 0 0 0 (.int (-1)) [], ip_n4 31 (.if_icmp .ne 10) 34 41, ip_n4 34 (.aload_n 0) 35 0, ip_n7 35 (.getfield 328) 38 11 35 0 145, ip_n4 38 (.goto 4) 41 42, ip_n9 41 (.iconst (-1)) 42 0 0 0 0 (.int (-1)) []]
set_option maxRecDepth 100000 in
noncomputable def ip_d234_1 : List (Nat × ip_E) := [ip_n7 42 (.putfield 48) 45 11 33 0 114, ip_n4 45 (.iload_n 1) 46 1, ip_n9 46 (.iconst (-1)) 47 0 0 0 0 (.int (-1)) [], ip_n4 47 (.if_icmp .ne 10) 50 57, ip_n4 50 (.aload_n 0) 51 0, ip_n9 51 (.bipush (-6)) 53 0 0 0 0 (.int (-6)) [], ip_n7 53 (.invokevirtual 86) 56 167 2 1 182, ip_n4 56 .ireturn 57 0, ip_n4 57 (.aload_n 0) 58 0, ip_n9 58 (.bipush 8) 60 0 0 0 0 (.int 8) [], ip_n7 60 (.invokevirtual 195) 63 170 2 1 207, ip_n4 63 (.aload_n 0) 64 0, ip_n7 64 (.getfield 7) 67 11 1 2 102, ip_n9 67 (.bipush 8) 69 0 0 0 0 (.int 8) [], ip_n4 69 (.iload_n 1) 70 1, ip_n4 70 .iastore 71 0, ip_n9 71 (.iconst 0) 72 0 0 0 0 (.int 0) [], ip_n4 72 (.istore_n 2) 73 2, ip_n4 73 (.iload_n 2) 74 2, ip_n9 74 (.iconst 3) 75 0 0 0 0 (.int 3) [], ip_n4 75 (.iload_n 1) 76 1, ip_n4 76 .imul 77 0, ip_n4 77 (.if_icmp .ge 24) 80 101, ip_n4 80 (.aload_n 0) 81 0]
set_option maxRecDepth 100000 in
noncomputable def ip_d234_2 : List (Nat × ip_E) := [ip_n7 81 (.getfield 7) 84 11 1 2 102, ip_n9 84 (.bipush 33) 86 0 0 0 0 (.int 33) [], ip_n4 86 (.iload_n 2) 87 2, ip_n4 87 .iadd 88 0, ip_n4 88 (.aload_n 0) 89 0, ip_n7 89 (.getfield 52) 92 11 39 2 115, ip_n4 92 (.iload_n 2) 93 2, ip_n4 93 .iaload 94 0, ip_n4 94 .iastore 95 0, ip_n9 95 (.iinc 2 1) 98 2 0 0 0 (.int 1) [], ip_n4 98 (.goto (-25)) 101 73, ip_n4 101 (.aload_n 0) 102 0, ip_n4 102 (.iload_n 1) 103 1, ip_n7 103 (.invokevirtual 93) 106 168 2 1 184, ip_n4 106 .ireturn 107 0]
set_option maxRecDepth 100000 in
noncomputable def ip_c234 : List (Nat × ip_E) := ip_d234_0 ++ (ip_d234_1 ++ (ip_d234_2))
set_option maxRecDepth 100000 in
noncomputable def ip_c235 : List (Nat × ip_E) := [ip_n4 0 (.aload_n 0) 1 0, ip_n9 1 (.iconst 0) 2 0 0 0 0 (.int 0) [], ip_n7 2 (.putfield 77) 5 11 0 0 124, ip_n4 5 (.aload_n 0) 6 0, ip_n7 6 (.getfield 48) 9 11 33 0 114, ip_n4 9 .ireturn 10 0]
set_option maxRecDepth 100000 in
noncomputable def ip_d236_0 : List (Nat × ip_E) := [ip_n4 0 (.aload_n 0) 1 0, ip_n9 1 (.iconst 0) 2 0 0 0 0 (.int 0) [], ip_n7 2 (.putfield 77) 5 11 0 0 124, ip_n4 5 (.iload_n 1) 6 1, ip_n7 6 (.invokestatic 202) 9 196 1 0 208, ip_n4 9 (.ifCond .eq 12) 12 21, ip_n4 12 (.iload_n 2) 13 2, ip_n9 13 (.iconst 0) 14 0 0 0 0 (.int 0) [], ip_n9 14 (.iconst 5) 15 0 0 0 0 (.int 5) [], ip_n7 15 (.invokestatic 96) 18 166 3 0 185, ip_n4 18 (.ifCond .ne 7) 21 25, ip_n9 21 (.ldc_w 352) 24 0 0 0 1568 (.int (-2147483648)) [], ip_n4 24 .ireturn 25 0, ip_n4 25 (.iload_n 2) 26 2, ip_n9 26 (.iconst 4) 27 0 0 0 0 (.int 4) [], ip_n4 27 (.if_icmp .ge 10) 30 37, ip_n4 30 (.aload_n 0) 31 0, ip_n4 31 (.iload_n 1) 32 1, ip_n4 32 (.iload_n 2) 33 2, ip_n7 33 (.invokevirtual 215) 36 197 3 1 210, ip_n4 36 .ireturn 37 0, ip_n4 37 (.iload_n 2) 38 2, ip_n9 38 (.iconst 4) 39 0 0 0 0 (.int 4) [], ip_n4 39 (.if_icmp .ne 31) 42 70]
set_option maxRecDepth 100000 in
noncomputable def ip_d236_1 : List (Nat × ip_E) := [ip_n4 42 (.aload_n 0) 43 0, ip_n4 43 (.aload_n 0) 44 0, ip_n4 44 (.iload_n 1) 45 1, ip_n9 45 (.iconst 0) 46 0 0 0 0 (.int 0) [], ip_n7 46 (.invokevirtual 215) 49 197 3 1 210, ip_n4 49 .i2l 50 0, ip_n4 50 (.aload_n 0) 51 0, ip_n4 51 (.iload_n 1) 52 1, ip_n9 52 (.iconst 1) 53 0 0 0 0 (.int 1) [], ip_n7 53 (.invokevirtual 215) 56 197 3 1 210, ip_n4 56 .i2l 57 0, ip_n4 57 (.aload_n 0) 58 0, ip_n4 58 (.iload_n 1) 59 1, ip_n9 59 (.iconst 2) 60 0 0 0 0 (.int 2) [], ip_n7 60 (.invokevirtual 215) 63 197 3 1 210, ip_n4 63 .i2l 64 0, ip_n7 64 (.invokevirtual 131) 67 185 4 1 194, ip_n4 67 (.goto 35) 70 102, ip_n4 70 (.aload_n 0) 71 0, ip_n4 71 (.aload_n 0) 72 0, ip_n4 72 (.iload_n 1) 73 1, ip_n9 73 (.iconst 0) 74 0 0 0 0 (.int 0) [], ip_n7 74 (.invokevirtual 215) 77 197 3 1 210, ip_n4 77 .i2l 78 0]
set_option maxRecDepth 100000 in
noncomputable def ip_d236_2 : List (Nat × ip_E) := [ip_n4 78 (.aload_n 0) 79 0, ip_n4 79 (.iload_n 1) 80 1, ip_n9 80 (.iconst 1) 81 0 0 0 0 (.int 1) [], ip_n7 81 (.invokevirtual 215) 84 197 3 1 210, ip_n4 84 .i2l 85 0, ip_n4 85 (.aload_n 0) 86 0, ip_n4 86 (.iload_n 1) 87 1, ip_n9 87 (.iconst 2) 88 0 0 0 0 (.int 2) [], ip_n7 88 (.invokevirtual 215) 91 197 3 1 210, ip_n4 91 .i2l 92 0, ip_n4 92 (.aload_n 0) 93 0, ip_n4 93 (.iload_n 1) 94 1, ip_n9 94 (.iconst 3) 95 0 0 0 0 (.int 3) [], ip_n7 95 (.invokevirtual 215) 98 197 3 1 210, ip_n4 98 .i2l 99 0, ip_n7 99 (.invokevirtual 184) 102 186 5 1 204, ip_n4 102 .ireturn 103 0]
set_option maxRecDepth 100000 in
noncomputable def ip_c236 : List (Nat × ip_E) := ip_d236_0 ++ (ip_d236_1 ++ (ip_d236_2))
set_option maxRecDepth 100000 in
noncomputable def ip_d237_0 : List (Nat × ip_E) := [ip_n4 0 (.aload_n 0) 1 0, ip_n9 1 (.iconst 0) 2 0 0 0 0 (.int 0) [], ip_n7 2 (.putfield 77) 5 11 0 0 124, ip_n4 5 (.iload_n 1) 6 1, ip_n7 6 (.invokestatic 202) 9 196 1 0 208, ip_n4 9 (.ifCond .eq 21) 12 30, ip_n4 12 (.iload_n 2) 13 2, ip_n9 13 (.iconst 0) 14 0 0 0 0 (.int 0) [], ip_n9 14 (.iconst 2) 15 0 0 0 0 (.int 2) [], ip_n7 15 (.invokestatic 96) 18 166 3 0 185, ip_n4 18 (.ifCond .eq 12) 21 30, ip_n4 21 (.iload_n 3) 22 3, ip_n9 22 (.iconst 0) 23 0 0 0 0 (.int 0) [], ip_n9 23 (.iconst 2) 24 0 0 0 0 (.int 2) [], ip_n7 24 (.invokestatic 96) 27 166 3 0 185, ip_n4 27 (.ifCond .ne 7) 30 34, ip_n9 30 (.ldc2_w 353) 33 0 0 0 1573 (.long (-9223372036854775808)) [], ip_n4 33 .lreturn 34 0, ip_n4 34 (.aload_n 0) 35 0, ip_n4 35 (.iload_n 1) 36 1, ip_n9 36 (.iconst 0) 37 0 0 0 0 (.int 0) [], ip_n7 37 (.invokevirtual 215) 40 197 3 1 210, ip_n4 40 .i2l 41 0, ip_n4 41 (.lstore 4) 43 4]
set_option maxRecDepth 100000 in
noncomputable def ip_d237_1 : List (Nat × ip_E) := [ip_n4 43 (.aload_n 0) 44 0, ip_n4 44 (.iload_n 1) 45 1, ip_n9 45 (.iconst 1) 46 0 0 0 0 (.int 1) [], ip_n7 46 (.invokevirtual 215) 49 197 3 1 210, ip_n4 49 .i2l 50 0, ip_n4 50 (.lstore 6) 52 6, ip_n4 52 (.aload_n 0) 53 0, ip_n4 53 (.iload_n 1) 54 1, ip_n9 54 (.iconst 2) 55 0 0 0 0 (.int 2) [], ip_n7 55 (.invokevirtual 215) 58 197 3 1 210, ip_n4 58 .i2l 59 0, ip_n4 59 (.lstore 8) 61 8, ip_n9 61 (.iconst 0) 62 0 0 0 0 (.int 0) [], ip_n4 62 (.istore 10) 64 10, ip_n4 64 (.iload 10) 66 10, ip_n4 66 (.iload_n 2) 67 2, ip_n4 67 (.if_icmp .ge 59) 70 126, ip_n4 70 (.lload 8) 72 8, ip_n4 72 (.aload_n 0) 73 0, ip_n7 73 (.getfield 7) 76 11 1 2 102, ip_n9 76 (.iconst 2) 77 0 0 0 0 (.int 2) [], ip_n4 77 .iaload 78 0, ip_n4 78 .i2l 79 0, ip_n4 79 .lmul 80 0]
set_option maxRecDepth 100000 in
noncomputable def ip_d237_2 : List (Nat × ip_E) := [ip_n4 80 (.lstore 11) 82 11, ip_n4 82 (.lload 4) 84 4, ip_n4 84 (.lload 8) 86 8, ip_n4 86 (.aload_n 0) 87 0, ip_n7 87 (.getfield 7) 90 11 1 2 102, ip_n9 90 (.iconst 1) 91 0 0 0 0 (.int 1) [], ip_n4 91 .iaload 92 0, ip_n4 92 .i2l 93 0, ip_n4 93 .lmul 94 0, ip_n4 94 .ladd 95 0, ip_n4 95 (.lstore 13) 97 13, ip_n4 97 (.lload 6) 99 6, ip_n4 99 (.lload 8) 101 8, ip_n4 101 (.aload_n 0) 102 0, ip_n7 102 (.getfield 7) 105 11 1 2 102, ip_n9 105 (.iconst 0) 106 0 0 0 0 (.int 0) [], ip_n4 106 .iaload 107 0, ip_n4 107 .i2l 108 0, ip_n4 108 .lmul 109 0, ip_n4 109 .ladd 110 0, ip_n4 110 (.lstore 8) 112 8, ip_n4 112 (.lload 11) 114 11, ip_n4 114 (.lstore 4) 116 4, ip_n4 116 (.lload 13) 118 13]
set_option maxRecDepth 100000 in
noncomputable def ip_d237_3 : List (Nat × ip_E) := [ip_n4 118 (.lstore 6) 120 6, ip_n9 120 (.iinc 10 1) 123 10 0 0 0 (.int 1) [], ip_n4 123 (.goto (-59)) 126 64, ip_n4 126 (.iload_n 3) 127 3, ip_n4 127 (.ifCond .ne 8) 130 135, ip_n4 130 (.lload 4) 132 4, ip_n4 132 (.goto 15) 135 147, ip_n4 135 (.iload_n 3) 136 3, ip_n9 136 (.iconst 1) 137 0 0 0 0 (.int 1) [], ip_n4 137 (.if_icmp .ne 8) 140 145, ip_n4 140 (.lload 6) 142 6, ip_n4 142 (.goto 5) 145 147, ip_n4 145 (.lload 8) 147 8, ip_n4 147 .lreturn 148 0]
set_option maxRecDepth 100000 in
noncomputable def ip_c237 : List (Nat × ip_E) := ip_d237_0 ++ (ip_d237_1 ++ (ip_d237_2 ++ (ip_d237_3)))
set_option maxRecDepth 100000 in
noncomputable def ip_d238_0 : List (Nat × ip_E) := [ip_n4 0 (.aload_n 0) 1 0, ip_n9 1 (.iconst 0) 2 0 0 0 0 (.int 0) [], ip_n7 2 (.putfield 77) 5 11 0 0 124, ip_n4 5 (.iload_n 1) 6 1, ip_n7 6 (.invokestatic 202) 9 196 1 0 208, ip_n4 9 (.ifCond .eq 21) 12 30, ip_n4 12 (.iload_n 2) 13 2, ip_n9 13 (.iconst 0) 14 0 0 0 0 (.int 0) [], ip_n9 14 (.iconst 2) 15 0 0 0 0 (.int 2) [], ip_n7 15 (.invokestatic 96) 18 166 3 0 185, ip_n4 18 (.ifCond .eq 12) 21 30, ip_n4 21 (.iload_n 3) 22 3, ip_n9 22 (.iconst 0) 23 0 0 0 0 (.int 0) [], ip_n9 23 (.iconst 1) 24 0 0 0 0 (.int 1) [], ip_n7 24 (.invokestatic 96) 27 166 3 0 185, ip_n4 27 (.ifCond .ne 7) 30 34, ip_n9 30 (.ldc2_w 353) 33 0 0 0 1573 (.long (-9223372036854775808)) [], ip_n4 33 .lreturn 34 0, ip_n4 34 (.aload_n 0) 35 0, ip_n4 35 (.iload_n 1) 36 1, ip_n9 36 (.iconst 0) 37 0 0 0 0 (.int 0) [], ip_n7 37 (.invokevirtual 215) 40 197 3 1 210, ip_n4 40 .i2l 41 0, ip_n4 41 (.lstore 4) 43 4]
set_option maxRecDepth 100000 in
noncomputable def ip_d238_1 : List (Nat × ip_E) := [ip_n4 43 (.aload_n 0) 44 0, ip_n4 44 (.iload_n 1) 45 1, ip_n9 45 (.iconst 1) 46 0 0 0 0 (.int 1) [], ip_n7 46 (.invokevirtual 215) 49 197 3 1 210, ip_n4 49 .i2l 50 0, ip_n4 50 (.lstore 6) 52 6, ip_n4 52 (.aload_n 0) 53 0, ip_n4 53 (.iload_n 1) 54 1, ip_n9 54 (.iconst 2) 55 0 0 0 0 (.int 2) [], ip_n7 55 (.invokevirtual 215) 58 197 3 1 210, ip_n4 58 .i2l 59 0, ip_n4 59 (.lstore 8) 61 8, ip_n4 61 (.aload_n 0) 62 0, ip_n4 62 (.iload_n 1) 63 1, ip_n9 63 (.iconst 3) 64 0 0 0 0 (.int 3) [], ip_n7 64 (.invokevirtual 215) 67 197 3 1 210, ip_n4 67 .i2l 68 0, ip_n4 68 (.lstore 10) 70 10, ip_n4 70 (.iload_n 2) 71 2, ip_n4 71 (.ifCond .ne 16) 74 87, ip_n4 74 (.aload_n 0) 75 0, ip_n4 75 (.lload 4) 77 4, ip_n4 77 (.lload 6) 79 6, ip_n4 79 (.lload 8) 81 8]
set_option maxRecDepth 100000 in
noncomputable def ip_d238_2 : List (Nat × ip_E) := [ip_n7 81 (.invokevirtual 127) 84 184 4 1 193, ip_n4 84 (.goto 31) 87 115, ip_n4 87 (.iload_n 2) 88 2, ip_n9 88 (.iconst 1) 89 0 0 0 0 (.int 1) [], ip_n4 89 (.if_icmp .ne 16) 92 105, ip_n4 92 (.aload_n 0) 93 0, ip_n4 93 (.lload 4) 95 4, ip_n4 95 (.lload 6) 97 6, ip_n4 97 (.lload 8) 99 8, ip_n7 99 (.invokevirtual 164) 102 182 4 1 198, ip_n4 102 (.goto 13) 105 115, ip_n4 105 (.aload_n 0) 106 0, ip_n4 106 (.lload 4) 108 4, ip_n4 108 (.lload 6) 110 6, ip_n4 110 (.lload 8) 112 8, ip_n7 112 (.invokevirtual 167) 115 183 4 1 199, ip_n4 115 (.lstore 12) 117 12, ip_n4 117 (.iload_n 2) 118 2, ip_n4 118 (.ifCond .ne 14) 121 132, ip_n4 121 (.lload 10) 123 10, ip_n4 123 (.lload 10) 125 10, ip_n4 125 .lmul 126 0, ip_n4 126 (.lload 10) 128 10, ip_n4 128 .lmul 129 0]
set_option maxRecDepth 100000 in
noncomputable def ip_d238_3 : List (Nat × ip_E) := [ip_n4 129 (.goto 18) 132 147, ip_n4 132 (.iload_n 2) 133 2, ip_n9 133 (.iconst 1) 134 0 0 0 0 (.int 1) [], ip_n4 134 (.if_icmp .ne 8) 137 142, ip_n4 137 (.lload 10) 139 10, ip_n4 139 (.goto 8) 142 147, ip_n4 142 (.lload 10) 144 10, ip_n4 144 (.lload 10) 146 10, ip_n4 146 .lmul 147 0, ip_n4 147 (.lstore 14) 149 14, ip_n4 149 (.lload 14) 151 14, ip_n4 151 (.lload 12) 153 12, ip_n7 153 (.invokestatic 135) 156 187 2 0 195, ip_n4 156 (.lstore 16) 158 16, ip_n4 158 (.iload_n 3) 159 3, ip_n4 159 (.ifCond .ne 11) 162 170, ip_n4 162 (.lload 12) 164 12, ip_n4 164 (.lload 16) 166 16, ip_n4 166 .ldiv 167 0, ip_n4 167 (.goto 8) 170 175, ip_n4 170 (.lload 14) 172 14, ip_n4 172 (.lload 16) 174 16, ip_n4 174 .ldiv 175 0, ip_n4 175 .lreturn 176 0]
set_option maxRecDepth 100000 in
noncomputable def ip_c238 : List (Nat × ip_E) := ip_d238_0 ++ (ip_d238_1 ++ (ip_d238_2 ++ (ip_d238_3)))
set_option maxRecDepth 100000 in
noncomputable def ip_d239_0 : List (Nat × ip_E) := [ip_n4 0 (.aload_n 0) 1 0, ip_n9 1 (.iconst 0) 2 0 0 0 0 (.int 0) [], ip_n7 2 (.putfield 77) 5 11 0 0 124, ip_n4 5 (.iload_n 1) 6 1, ip_n7 6 (.invokestatic 202) 9 196 1 0 208, ip_n4 9 (.ifCond .eq 10) 12 19, ip_n4 12 (.iload_n 2) 13 2, ip_n7 13 (.invokestatic 202) 16 196 1 0 208, ip_n4 16 (.ifCond .ne 6) 19 22, ip_n9 19 (.bipush (-2)) 21 0 0 0 0 (.int (-2)) [], ip_n4 21 .ireturn 22 0, ip_n4 22 (.aload_n 0) 23 0, ip_n4 23 (.iload_n 1) 24 1, ip_n9 24 (.iconst 3) 25 0 0 0 0 (.int 3) [], ip_n7 25 (.invokevirtual 215) 28 197 3 1 210, ip_n4 28 .i2l 29 0, ip_n4 29 (.lstore_n 3) 30 3, ip_n4 30 (.aload_n 0) 31 0, ip_n4 31 (.iload_n 2) 32 2, ip_n9 32 (.iconst 3) 33 0 0 0 0 (.int 3) [], ip_n7 33 (.invokevirtual 215) 36 197 3 1 210, ip_n4 36 .i2l 37 0, ip_n4 37 (.lstore 5) 39 5, ip_n4 39 (.aload_n 0) 40 0]
set_option maxRecDepth 100000 in
noncomputable def ip_d239_1 : List (Nat × ip_E) := [ip_n4 40 (.aload_n 0) 41 0, ip_n4 41 (.iload_n 1) 42 1, ip_n9 42 (.iconst 0) 43 0 0 0 0 (.int 0) [], ip_n7 43 (.invokevirtual 215) 46 197 3 1 210, ip_n4 46 .i2l 47 0, ip_n4 47 (.lload 5) 49 5, ip_n4 49 .lmul 50 0, ip_n4 50 (.aload_n 0) 51 0, ip_n4 51 (.iload_n 2) 52 2, ip_n9 52 (.iconst 0) 53 0 0 0 0 (.int 0) [], ip_n7 53 (.invokevirtual 215) 56 197 3 1 210, ip_n4 56 .i2l 57 0, ip_n4 57 (.lload_n 3) 58 3, ip_n4 58 .lmul 59 0, ip_n4 59 .lsub 60 0, ip_n4 60 (.aload_n 0) 61 0, ip_n4 61 (.iload_n 1) 62 1, ip_n9 62 (.iconst 1) 63 0 0 0 0 (.int 1) [], ip_n7 63 (.invokevirtual 215) 66 197 3 1 210, ip_n4 66 .i2l 67 0, ip_n4 67 (.lload 5) 69 5, ip_n4 69 .lmul 70 0, ip_n4 70 (.aload_n 0) 71 0, ip_n4 71 (.iload_n 2) 72 2]
set_option maxRecDepth 100000 in
noncomputable def ip_d239_2 : List (Nat × ip_E) := [ip_n9 72 (.iconst 1) 73 0 0 0 0 (.int 1) [], ip_n7 73 (.invokevirtual 215) 76 197 3 1 210, ip_n4 76 .i2l 77 0, ip_n4 77 (.lload_n 3) 78 3, ip_n4 78 .lmul 79 0, ip_n4 79 .lsub 80 0, ip_n4 80 (.aload_n 0) 81 0, ip_n4 81 (.iload_n 1) 82 1, ip_n9 82 (.iconst 2) 83 0 0 0 0 (.int 2) [], ip_n7 83 (.invokevirtual 215) 86 197 3 1 210, ip_n4 86 .i2l 87 0, ip_n4 87 (.lload 5) 89 5, ip_n4 89 .lmul 90 0, ip_n4 90 (.aload_n 0) 91 0, ip_n4 91 (.iload_n 2) 92 2, ip_n9 92 (.iconst 2) 93 0 0 0 0 (.int 2) [], ip_n7 93 (.invokevirtual 215) 96 197 3 1 210, ip_n4 96 .i2l 97 0, ip_n4 97 (.lload_n 3) 98 3, ip_n4 98 .lmul 99 0, ip_n4 99 .lsub 100 0, ip_n7 100 (.invokevirtual 131) 103 185 4 1 194, ip_n4 103 .ireturn 104 0]
set_option maxRecDepth 100000 in
noncomputable def ip_c239 : List (Nat × ip_E) := ip_d239_0 ++ (ip_d239_1 ++ (ip_d239_2))
set_option maxRecDepth 100000 in
noncomputable def ip_d240_0 : List (Nat × ip_E) := [ip_n4 0 (.aload_n 0) 1 0, ip_n9 1 (.iconst 0) 2 0 0 0 0 (.int 0) [], ip_n7 2 (.putfield 77) 5 11 0 0 124, ip_n4 5 (.aload_n 0) 6 0, ip_n7 6 (.getfield 7) 9 11 1 2 102, ip_n9 9 (.iconst 3) 10 0 0 0 0 (.int 3) [], ip_n4 10 .iaload 11 0, ip_n4 11 (.ifCond .eq 26) 14 37, ip_n4 14 (.iload_n 1) 15 1, ip_n9 15 (.iconst 0) 16 0 0 0 0 (.int 0) [], ip_n4 16 (.aload_n 0) 17 0, ip_n7 17 (.getfield 7) 20 11 1 2 102, ip_n9 20 (.iconst 5) 21 0 0 0 0 (.int 5) [], ip_n4 21 .iaload 22 0, ip_n7 22 (.invokestatic 96) 25 166 3 0 185, ip_n4 25 (.ifCond .eq 12) 28 37, ip_n4 28 (.iload_n 3) 29 3, ip_n9 29 (.iconst 0) 30 0 0 0 0 (.int 0) [], ip_n9 30 (.iconst 4) 31 0 0 0 0 (.int 4) [], ip_n7 31 (.invokestatic 96) 34 166 3 0 185, ip_n4 34 (.ifCond .ne 7) 37 41, ip_n9 37 (.ldc_w 352) 40 0 0 0 1568 (.int (-2147483648)) [], ip_n4 40 .ireturn 41 0, ip_n4 41 (.iload_n 2) 42 2]
set_option maxRecDepth 100000 in
noncomputable def ip_d240_1 : List (Nat × ip_E) := [ip_n4 42 (.ifCond .eq 7) 45 49, ip_n9 45 (.iconst 1) 46 0 0 0 0 (.int 1) [], ip_n4 46 (.goto 4) 49 50, ip_n9 49 (.iconst 0) 50 0 0 0 0 (.int 0) [], ip_n4 50 (.istore 4) 52 4, ip_n4 52 (.iload_n 3) 53 3, ip_n9 53 (.iconst 4) 54 0 0 0 0 (.int 4) [], ip_n4 54 (.if_icmp .ge 17) 57 71, ip_n4 57 (.aload_n 0) 58 0, ip_n4 58 (.iload_n 1) 59 1, ip_n9 59 (.iconst 4) 60 0 0 0 0 (.int 4) [], ip_n4 60 (.iload 4) 62 4, ip_n4 62 .imul 63 0, ip_n4 63 (.iload_n 3) 64 3, ip_n4 64 .iadd 65 0, ip_n7 65 (.invokevirtual 249) 68 208 3 1 218, ip_n4 68 (.goto 10) 71 78, ip_n4 71 (.aload_n 0) 72 0, ip_n4 72 (.iload_n 1) 73 1, ip_n4 73 (.iload 4) 75 4, ip_n7 75 (.invokevirtual 240) 78 209 3 1 217, ip_n4 78 .ireturn 79 0]
set_option maxRecDepth 100000 in
noncomputable def ip_c240 : List (Nat × ip_E) := ip_d240_0 ++ (ip_d240_1)
set_option maxRecDepth 100000 in
noncomputable def ip_d241_0 : List (Nat × ip_E) := [ip_n4 0 (.aload_n 0) 1 0, ip_n9 1 (.iconst 0) 2 0 0 0 0 (.int 0) [], ip_n7 2 (.putfield 77) 5 11 0 0 124, ip_n4 5 (.aload_n 0) 6 0, ip_n7 6 (.getfield 7) 9 11 1 2 102, ip_n9 9 (.iconst 3) 10 0 0 0 0 (.int 3) [], ip_n4 10 .iaload 11 0, ip_n4 11 (.ifCond .eq 26) 14 37, ip_n4 14 (.iload_n 1) 15 1, ip_n9 15 (.iconst 1) 16 0 0 0 0 (.int 1) [], ip_n4 16 (.aload_n 0) 17 0, ip_n7 17 (.getfield 7) 20 11 1 2 102, ip_n9 20 (.iconst 5) 21 0 0 0 0 (.int 5) [], ip_n4 21 .iaload 22 0, ip_n7 22 (.invokestatic 96) 25 166 3 0 185, ip_n4 25 (.ifCond .eq 12) 28 37, ip_n4 28 (.iload_n 2) 29 2, ip_n9 29 (.iconst 0) 30 0 0 0 0 (.int 0) [], ip_n9 30 (.iconst 2) 31 0 0 0 0 (.int 2) [], ip_n7 31 (.invokestatic 96) 34 166 3 0 185, ip_n4 34 (.ifCond .ne 5) 37 39, ip_n9 37 (.iconst (-1)) 38 0 0 0 0 (.int (-1)) [], ip_n4 38 .ireturn 39 0, ip_n4 39 (.aload_n 0) 40 0]
set_option maxRecDepth 100000 in
noncomputable def ip_d241_1 : List (Nat × ip_E) := [ip_n7 40 (.getfield 7) 43 11 1 2 102, ip_n9 43 (.sipush 641) 46 0 0 0 0 (.int 641) [], ip_n9 46 (.iconst 3) 47 0 0 0 0 (.int 3) [], ip_n4 47 (.iload_n 1) 48 1, ip_n9 48 (.iconst 1) 49 0 0 0 0 (.int 1) [], ip_n4 49 .isub 50 0, ip_n4 50 .imul 51 0, ip_n4 51 .iadd 52 0, ip_n4 52 (.iload_n 2) 53 2, ip_n4 53 .iadd 54 0, ip_n4 54 .iaload 55 0, ip_n4 55 .ireturn 56 0]
set_option maxRecDepth 100000 in
noncomputable def ip_c241 : List (Nat × ip_E) := ip_d241_0 ++ (ip_d241_1)
set_option maxRecDepth 100000 in
noncomputable def ip_c242 : List (Nat × ip_E) := [ip_n4 0 (.aload_n 0) 1 0, ip_n9 1 (.iconst 0) 2 0 0 0 0 (.int 0) [], ip_n7 2 (.putfield 77) 5 11 0 0 124, ip_n4 5 (.aload_n 0) 6 0, ip_n7 6 (.getfield 7) 9 11 1 2 102, ip_n9 9 (.iconst 3) 10 0 0 0 0 (.int 3) [], ip_n4 10 .iaload 11 0, ip_n4 11 (.ifCond .eq 21) 14 32, ip_n4 14 (.iload_n 1) 15 1, ip_n9 15 (.iconst 0) 16 0 0 0 0 (.int 0) [], ip_n9 16 (.iconst 2) 17 0 0 0 0 (.int 2) [], ip_n7 17 (.invokestatic 96) 20 166 3 0 185, ip_n4 20 (.ifCond .eq 12) 23 32, ip_n4 23 (.iload_n 2) 24 2, ip_n9 24 (.iconst 0) 25 0 0 0 0 (.int 0) [], ip_n9 25 (.iconst 2) 26 0 0 0 0 (.int 2) [], ip_n7 26 (.invokestatic 96) 29 166 3 0 185, ip_n4 29 (.ifCond .ne 7) 32 36, ip_n9 32 (.ldc2_w 353) 35 0 0 0 1573 (.long (-9223372036854775808)) [], ip_n4 35 .lreturn 36 0, ip_n4 36 (.aload_n 0) 37 0, ip_n7 37 (.getfield 13) 40 11 2 2 103, ip_n9 40 (.iconst 3) 41 0 0 0 0 (.int 3) [], ip_n4 41 (.iload_n 1) 42 1, ip_n4 42 .imul 43 0, ip_n4 43 (.iload_n 2) 44 2, ip_n4 44 .iadd 45 0, ip_n4 45 .laload 46 0, ip_n4 46 .lreturn 47 0]
set_option maxRecDepth 100000 in
noncomputable def ip_c243 : List (Nat × ip_E) := [ip_n9 0 (.iconst 0) 1 0 0 0 0 (.int 0) [], ip_n4 1 (.istore_n 3) 2 3, ip_n4 2 (.iload_n 1) 3 1, ip_n4 3 (.istore 4) 5 4, ip_n4 5 (.iload 4) 7 4, ip_n4 7 (.iload_n 2) 8 2, ip_n4 8 (.if_icmp .ge 27) 11 35, ip_n4 11 (.iload_n 3) 12 3, ip_n4 12 (.aload_n 0) 13 0, ip_n7 13 (.getfield 7) 16 11 1 2 102, ip_n9 16 (.sipush 641) 19 0 0 0 0 (.int 641) [], ip_n9 19 (.iconst 3) 20 0 0 0 0 (.int 3) [], ip_n4 20 (.iload 4) 22 4, ip_n4 22 .imul 23 0, ip_n4 23 .iadd 24 0, ip_n9 24 (.iconst 2) 25 0 0 0 0 (.int 2) [], ip_n4 25 .iadd 26 0, ip_n4 26 .iaload 27 0, ip_n4 27 .iadd 28 0, ip_n4 28 (.istore_n 3) 29 3, ip_n9 29 (.iinc 4 1) 32 4 0 0 0 (.int 1) [], ip_n4 32 (.goto (-27)) 35 5, ip_n4 35 (.iload_n 3) 36 3, ip_n4 36 .ireturn 37 0]
set_option maxRecDepth 100000 in
noncomputable def ip_c244 : List (Nat × ip_E) := [ip_n4 0 (.iload_n 0) 1 0, ip_n9 1 (.iconst 2) 2 0 0 0 0 (.int 2) [], ip_n4 2 .irem 3 0, ip_n4 3 (.ifCond .ne 7) 6 10, ip_n9 6 (.iconst 1) 7 0 0 0 0 (.int 1) [], ip_n4 7 (.goto 4) 10 11, ip_n9 10 (.iconst (-1)) 11 0 0 0 0 (.int (-1)) [], ip_n4 11 .ireturn 12 0]
set_option maxRecDepth 100000 in
noncomputable def ip_c245 : List (Nat × ip_E) := [ip_n4 0 (.aload_n 0) 1 0, ip_n9 1 (.iconst 0) 2 0 0 0 0 (.int 0) [], ip_n7 2 (.putfield 77) 5 11 0 0 124, ip_n4 5 (.aload_n 0) 6 0, ip_n7 6 (.getfield 7) 9 11 1 2 102, ip_n9 9 (.iconst 3) 10 0 0 0 0 (.int 3) [], ip_n4 10 .iaload 11 0, ip_n4 11 (.ifCond .ne 7) 14 18, ip_n9 14 (.iconst 0) 15 0 0 0 0 (.int 0) [], ip_n4 15 (.goto 17) 18 32, ip_n4 18 (.aload_n 0) 19 0, ip_n9 19 (.iconst 0) 20 0 0 0 0 (.int 0) [], ip_n4 20 (.aload_n 0) 21 0, ip_n7 21 (.getfield 7) 24 11 1 2 102, ip_n9 24 (.iconst 5) 25 0 0 0 0 (.int 5) [], ip_n4 25 .iaload 26 0, ip_n7 26 (.invokevirtual 355) 29 243 3 1 235, ip_n7 29 (.invokestatic 358) 32 244 1 0 236, ip_n4 32 .ireturn 33 0]
set_option maxRecDepth 100000 in
noncomputable def ip_c246 : List (Nat × ip_E) := [ip_n4 0 (.aload_n 0) 1 0, ip_n7 1 (.getfield 7) 4 11 1 2 102, ip_n9 4 (.iconst 3) 5 0 0 0 0 (.int 3) [], ip_n4 5 .iaload 6 0, ip_n9 6 (.iconst 1) 7 0 0 0 0 (.int 1) [], ip_n4 7 (.if_icmp .ne 40) 10 47, ip_n4 10 (.aload_n 0) 11 0, ip_n7 11 (.getfield 13) 14 11 2 2 103, ip_n9 14 (.iconst 0) 15 0 0 0 0 (.int 0) [], ip_n4 15 .laload 16 0, ip_n9 16 (.lconst 0) 17 0 0 0 0 (.long 0) [], ip_n4 17 .lcmp 18 0, ip_n4 18 (.ifCond .le 29) 21 47, ip_n4 21 (.aload_n 0) 22 0, ip_n7 22 (.getfield 13) 25 11 2 2 103, ip_n9 25 (.iconst 1) 26 0 0 0 0 (.int 1) [], ip_n4 26 .laload 27 0, ip_n9 27 (.lconst 0) 28 0 0 0 0 (.long 0) [], ip_n4 28 .lcmp 29 0, ip_n4 29 (.ifCond .le 18) 32 47, ip_n4 32 (.aload_n 0) 33 0, ip_n7 33 (.getfield 13) 36 11 2 2 103, ip_n9 36 (.iconst 2) 37 0 0 0 0 (.int 2) [], ip_n4 37 .laload 38 0, ip_n9 38 (.lconst 0) 39 0 0 0 0 (.long 0) [], ip_n4 39 .lcmp 40 0, ip_n4 40 (.ifCond .le 7) 43 47, ip_n9 43 (.iconst 1) 44 0 0 0 0 (.int 1) [], ip_n4 44 (.goto 4) 47 48, ip_n9 47 (.iconst 0) 48 0 0 0 0 (.int 0) [], ip_n7 48 .ireturn 49 0 0 3 0]
set_option maxRecDepth 100000 in
noncomputable def ip_d247_0 : List (Nat × ip_E) := [ip_n4 0 (.lload_n 0) 1 0, ip_n4 1 (.lstore 8) 3 8, ip_n4 3 (.lload_n 2) 4 2, ip_n4 4 (.lstore 10) 6 10, ip_n4 6 (.lload 4) 8 4, ip_n4 8 (.lstore 12) 10 12, ip_n4 10 (.lload 6) 12 6, ip_n4 12 (.lstore 14) 14 14, ip_n4 14 (.lload 8) 16 8, ip_n4 16 (.lload 10) 18 10, ip_n4 18 .ldiv 19 0, ip_n4 19 (.lload 12) 21 12, ip_n4 21 (.lload 14) 23 14, ip_n4 23 .ldiv 24 0, ip_n4 24 .lcmp 25 0, ip_n4 25 (.ifCond .eq 23) 28 48, ip_n4 28 (.lload 8) 30 8, ip_n4 30 (.lload 10) 32 10, ip_n4 32 .ldiv 33 0, ip_n4 33 (.lload 12) 35 12, ip_n4 35 (.lload 14) 37 14, ip_n4 37 .ldiv 38 0, ip_n4 38 .lcmp 39 0, ip_n4 39 (.ifCond .ge 7) 42 46]
set_option maxRecDepth 100000 in
noncomputable def ip_d247_1 : List (Nat × ip_E) := [ip_n9 42 (.iconst 1) 43 0 0 0 0 (.int 1) [], ip_n4 43 (.goto 4) 46 47, ip_n9 46 (.iconst 0) 47 0 0 0 0 (.int 0) [], ip_n7 47 .ireturn 48 0 0 3 0, ip_n4 48 (.lload 8) 50 8, ip_n4 50 (.lload 10) 52 10, ip_n4 52 .lrem 53 0, ip_n4 53 (.lstore 16) 55 16, ip_n4 55 (.lload 12) 57 12, ip_n4 57 (.lload 14) 59 14, ip_n4 59 .lrem 60 0, ip_n4 60 (.lstore 18) 62 18, ip_n4 62 (.lload 18) 64 18, ip_n9 64 (.lconst 0) 65 0 0 0 0 (.long 0) [], ip_n4 65 .lcmp 66 0, ip_n4 66 (.ifCond .ne 5) 69 71, ip_n9 69 (.iconst 0) 70 0 0 0 0 (.int 0) [], ip_n7 70 .ireturn 71 0 0 3 0, ip_n4 71 (.lload 16) 73 16, ip_n9 73 (.lconst 0) 74 0 0 0 0 (.long 0) [], ip_n4 74 .lcmp 75 0, ip_n4 75 (.ifCond .ne 5) 78 80, ip_n9 78 (.iconst 1) 79 0 0 0 0 (.int 1) [], ip_n7 79 .ireturn 80 0 0 3 0]
set_option maxRecDepth 100000 in
noncomputable def ip_d247_2 : List (Nat × ip_E) := [ip_n4 80 (.lload 14) 82 14, ip_n4 82 (.lstore 8) 84 8, ip_n4 84 (.lload 10) 86 10, ip_n4 86 (.lstore 12) 88 12, ip_n4 88 (.lload 18) 90 18, ip_n4 90 (.lstore 10) 92 10, ip_n4 92 (.lload 16) 94 16, ip_n4 94 (.lstore 14) 96 14, ip_n4 96 (.goto (-82)) 99 14]
set_option maxRecDepth 100000 in
noncomputable def ip_c247 : List (Nat × ip_E) := ip_d247_0 ++ (ip_d247_1 ++ (ip_d247_2))
set_option maxRecDepth 100000 in
noncomputable def ip_d248_0 : List (Nat × ip_E) := [ip_n9 0 (.iconst 0) 1 0 0 0 0 (.int 0) [], ip_n4 1 (.istore_n 3) 2 3, ip_n9 2 (.iconst 1) 3 0 0 0 0 (.int 1) [], ip_n4 3 (.istore 4) 5 4, ip_n4 5 (.iload 4) 7 4, ip_n9 7 (.iconst 3) 8 0 0 0 0 (.int 3) [], ip_n4 8 (.if_icmp .ge 104) 11 112, ip_n4 11 (.iload_n 2) 12 2, ip_n4 12 (.ifCond .ne 43) 15 55, ip_n4 15 (.aload_n 0) 16 0, ip_n7 16 (.getfield 13) 19 11 2 2 103, ip_n9 19 (.iconst 3) 20 0 0 0 0 (.int 3) [], ip_n4 20 (.iload_n 1) 21 1, ip_n4 21 .imul 22 0, ip_n4 22 (.iload 4) 24 4, ip_n4 24 .iadd 25 0, ip_n4 25 .laload 26 0, ip_n4 26 (.aload_n 0) 27 0, ip_n7 27 (.getfield 13) 30 11 2 2 103, ip_n4 30 (.iload 4) 32 4, ip_n4 32 .laload 33 0, ip_n4 33 (.aload_n 0) 34 0, ip_n7 34 (.getfield 13) 37 11 2 2 103, ip_n9 37 (.iconst 3) 38 0 0 0 0 (.int 3) []]
set_option maxRecDepth 100000 in
noncomputable def ip_d248_1 : List (Nat × ip_E) := [ip_n4 38 (.iload_n 1) 39 1, ip_n4 39 .imul 40 0, ip_n4 40 (.iload_n 3) 41 3, ip_n4 41 .iadd 42 0, ip_n4 42 .laload 43 0, ip_n4 43 (.aload_n 0) 44 0, ip_n7 44 (.getfield 13) 47 11 2 2 103, ip_n4 47 (.iload_n 3) 48 3, ip_n4 48 .laload 49 0, ip_n7 49 (.invokestatic 361) 52 247 4 0 237, ip_n4 52 (.goto 40) 55 92, ip_n4 55 (.aload_n 0) 56 0, ip_n7 56 (.getfield 13) 59 11 2 2 103, ip_n9 59 (.iconst 3) 60 0 0 0 0 (.int 3) [], ip_n4 60 (.iload_n 1) 61 1, ip_n4 61 .imul 62 0, ip_n4 62 (.iload_n 3) 63 3, ip_n4 63 .iadd 64 0, ip_n4 64 .laload 65 0, ip_n4 65 (.aload_n 0) 66 0, ip_n7 66 (.getfield 13) 69 11 2 2 103, ip_n4 69 (.iload_n 3) 70 3, ip_n4 70 .laload 71 0, ip_n4 71 (.aload_n 0) 72 0]
set_option maxRecDepth 100000 in
noncomputable def ip_d248_2 : List (Nat × ip_E) := [ip_n7 72 (.getfield 13) 75 11 2 2 103, ip_n9 75 (.iconst 3) 76 0 0 0 0 (.int 3) [], ip_n4 76 (.iload_n 1) 77 1, ip_n4 77 .imul 78 0, ip_n4 78 (.iload 4) 80 4, ip_n4 80 .iadd 81 0, ip_n4 81 .laload 82 0, ip_n4 82 (.aload_n 0) 83 0, ip_n7 83 (.getfield 13) 86 11 2 2 103, ip_n4 86 (.iload 4) 88 4, ip_n4 88 .laload 89 0, ip_n7 89 (.invokestatic 361) 92 247 4 0 237, ip_n4 92 (.istore 5) 94 5, ip_n4 94 (.iload 5) 96 5, ip_n4 96 (.ifCond .eq 8) 99 104, ip_n4 99 (.iload 4) 101 4, ip_n4 101 (.goto 4) 104 105, ip_n4 104 (.iload_n 3) 105 3, ip_n4 105 (.istore_n 3) 106 3, ip_n9 106 (.iinc 4 1) 109 4 0 0 0 (.int 1) [], ip_n4 109 (.goto (-104)) 112 5, ip_n4 112 (.iload_n 3) 113 3, ip_n4 113 .ireturn 114 0]
set_option maxRecDepth 100000 in
noncomputable def ip_c248 : List (Nat × ip_E) := ip_d248_0 ++ (ip_d248_1 ++ (ip_d248_2))
set_option maxRecDepth 100000 in
noncomputable def ip_d249_0 : List (Nat × ip_E) := [ip_n4 0 (.aload_n 0) 1 0, ip_n9 1 (.iconst 0) 2 0 0 0 0 (.int 0) [], ip_n7 2 (.putfield 77) 5 11 0 0 124, ip_n4 5 (.aload_n 0) 6 0, ip_n7 6 (.invokevirtual 365) 9 246 1 1 238, ip_n4 9 (.ifCond .eq 12) 12 21, ip_n4 12 (.iload_n 2) 13 2, ip_n9 13 (.iconst 0) 14 0 0 0 0 (.int 0) [], ip_n9 14 (.iconst 3) 15 0 0 0 0 (.int 3) [], ip_n7 15 (.invokestatic 96) 18 166 3 0 185, ip_n4 18 (.ifCond .ne 7) 21 25, ip_n9 21 (.ldc2_w 353) 24 0 0 0 1573 (.long (-9223372036854775808)) [], ip_n4 24 .lreturn 25 0, ip_n4 25 (.iload_n 1) 26 1, ip_n4 26 (.ifCond .eq 7) 29 33, ip_n9 29 (.iconst 2) 30 0 0 0 0 (.int 2) [], ip_n4 30 (.goto 4) 33 34, ip_n9 33 (.iconst 1) 34 0 0 0 0 (.int 1) [], ip_n4 34 (.istore_n 3) 35 3, ip_n4 35 (.aload_n 0) 36 0, ip_n4 36 (.iload_n 3) 37 3, ip_n4 37 (.iload_n 2) 38 2, ip_n9 38 (.iconst 2) 39 0 0 0 0 (.int 2) [], ip_n4 39 .idiv 40 0]
set_option maxRecDepth 100000 in
noncomputable def ip_d249_1 : List (Nat × ip_E) := [ip_n7 40 (.invokevirtual 368) 43 248 3 1 239, ip_n4 43 (.istore 4) 45 4, ip_n4 45 (.aload_n 0) 46 0, ip_n7 46 (.getfield 13) 49 11 2 2 103, ip_n4 49 (.iload 4) 51 4, ip_n4 51 .laload 52 0, ip_n4 52 (.aload_n 0) 53 0, ip_n7 53 (.getfield 13) 56 11 2 2 103, ip_n9 56 (.iconst 3) 57 0 0 0 0 (.int 3) [], ip_n4 57 (.iload_n 3) 58 3, ip_n4 58 .imul 59 0, ip_n4 59 (.iload 4) 61 4, ip_n4 61 .iadd 62 0, ip_n4 62 .laload 63 0, ip_n7 63 (.invokestatic 135) 66 187 2 0 195, ip_n4 66 (.lstore 5) 68 5, ip_n4 68 (.iload_n 2) 69 2, ip_n9 69 (.iconst 2) 70 0 0 0 0 (.int 2) [], ip_n4 70 .irem 71 0, ip_n4 71 (.ifCond .ne 17) 74 88, ip_n4 74 (.aload_n 0) 75 0, ip_n7 75 (.getfield 13) 78 11 2 2 103, ip_n9 78 (.iconst 3) 79 0 0 0 0 (.int 3) [], ip_n4 79 (.iload_n 3) 80 3]
set_option maxRecDepth 100000 in
noncomputable def ip_d249_2 : List (Nat × ip_E) := [ip_n4 80 .imul 81 0, ip_n4 81 (.iload 4) 83 4, ip_n4 83 .iadd 84 0, ip_n4 84 .laload 85 0, ip_n4 85 (.goto 10) 88 95, ip_n4 88 (.aload_n 0) 89 0, ip_n7 89 (.getfield 13) 92 11 2 2 103, ip_n4 92 (.iload 4) 94 4, ip_n4 94 .laload 95 0, ip_n4 95 (.lload 5) 97 5, ip_n4 97 .ldiv 98 0, ip_n4 98 .lreturn 99 0]
set_option maxRecDepth 100000 in
noncomputable def ip_c249 : List (Nat × ip_E) := ip_d249_0 ++ (ip_d249_1 ++ (ip_d249_2))
set_option maxRecDepth 100000 in
noncomputable def ip_c250 : List (Nat × ip_E) := [ip_n4 0 (.aload_n 0) 1 0, ip_n9 1 (.iconst 0) 2 0 0 0 0 (.int 0) [], ip_n7 2 (.putfield 77) 5 11 0 0 124, ip_n4 5 (.aload_n 0) 6 0, ip_n7 6 (.invokevirtual 365) 9 246 1 1 238, ip_n4 9 (.ifCond .eq 29) 12 38, ip_n4 12 (.iload_n 2) 13 2, ip_n9 13 (.iconst 0) 14 0 0 0 0 (.int 0) [], ip_n9 14 (.iconst 1) 15 0 0 0 0 (.int 1) [], ip_n7 15 (.invokestatic 96) 18 166 3 0 185, ip_n4 18 (.ifCond .eq 20) 21 38, ip_n4 21 (.aload_n 0) 22 0, ip_n4 22 (.iload_n 1) 23 1, ip_n4 23 (.ifCond .eq 7) 26 30, ip_n9 26 (.iconst 2) 27 0 0 0 0 (.int 2) [], ip_n4 27 (.goto 4) 30 31, ip_n9 30 (.iconst 1) 31 0 0 0 0 (.int 1) [], ip_n4 31 (.iload_n 2) 32 2, ip_n7 32 (.invokevirtual 368) 35 248 3 1 239, ip_n4 35 (.goto 4) 38 39, ip_n9 38 (.iconst (-1)) 39 0 0 0 0 (.int (-1)) [], ip_n4 39 .ireturn 40 0]
set_option maxRecDepth 100000 in
noncomputable def ip_c251 : List (Nat × ip_E) := [ip_n9 0 (.iconst 0) 1 0 0 0 0 (.int 0) [], ip_n4 1 (.istore_n 1) 2 1, ip_n4 2 (.iload_n 1) 3 1, ip_n9 3 (.bipush 9) 5 0 0 0 0 (.int 9) [], ip_n4 5 (.if_icmp .ge 24) 8 29, ip_n4 8 (.aload_n 0) 9 0, ip_n7 9 (.getfield 13) 12 11 2 2 103, ip_n4 12 (.iload_n 1) 13 1, ip_n4 13 .laload 14 0, ip_n9 14 (.ldc2_w 371) 17 0 0 0 1632 (.long 1000000000) [], ip_n4 17 .lcmp 18 0, ip_n4 18 (.ifCond .le 5) 21 23, ip_n9 21 (.iconst 0) 22 0 0 0 0 (.int 0) [], ip_n7 22 .ireturn 23 0 0 3 0, ip_n9 23 (.iinc 1 1) 26 1 0 0 0 (.int 1) [], ip_n4 26 (.goto (-24)) 29 2, ip_n9 29 (.iconst 1) 30 0 0 0 0 (.int 1) [], ip_n7 30 .ireturn 31 0 0 3 0]
set_option maxRecDepth 100000 in
noncomputable def ip_d252_0 : List (Nat × ip_E) := [ip_n9 0 (.iconst 3) 1 0 0 0 0 (.int 3) [], ip_n4 1 (.iload_n 2) 2 2, ip_n9 2 (.iconst 1) 3 0 0 0 0 (.int 1) [], ip_n4 3 .iadd 4 0, ip_n9 4 (.iconst 3) 5 0 0 0 0 (.int 3) [], ip_n4 5 .irem 6 0, ip_n4 6 .imul 7 0, ip_n4 7 (.istore_n 3) 8 3, ip_n9 8 (.iconst 3) 9 0 0 0 0 (.int 3) [], ip_n4 9 (.iload_n 2) 10 2, ip_n9 10 (.iconst 2) 11 0 0 0 0 (.int 2) [], ip_n4 11 .iadd 12 0, ip_n9 12 (.iconst 3) 13 0 0 0 0 (.int 3) [], ip_n4 13 .irem 14 0, ip_n4 14 .imul 15 0, ip_n4 15 (.istore 4) 17 4, ip_n4 17 (.iload_n 1) 18 1, ip_n9 18 (.iconst 1) 19 0 0 0 0 (.int 1) [], ip_n4 19 .iadd 20 0, ip_n9 20 (.iconst 3) 21 0 0 0 0 (.int 3) [], ip_n4 21 .irem 22 0, ip_n4 22 (.istore 5) 24 5, ip_n4 24 (.iload_n 1) 25 1, ip_n9 25 (.iconst 2) 26 0 0 0 0 (.int 2) []]
set_option maxRecDepth 100000 in
noncomputable def ip_d252_1 : List (Nat × ip_E) := [ip_n4 26 .iadd 27 0, ip_n9 27 (.iconst 3) 28 0 0 0 0 (.int 3) [], ip_n4 28 .irem 29 0, ip_n4 29 (.istore 6) 31 6, ip_n4 31 (.aload_n 0) 32 0, ip_n7 32 (.getfield 13) 35 11 2 2 103, ip_n4 35 (.iload_n 3) 36 3, ip_n4 36 (.iload 5) 38 5, ip_n4 38 .iadd 39 0, ip_n4 39 .laload 40 0, ip_n4 40 (.aload_n 0) 41 0, ip_n7 41 (.getfield 13) 44 11 2 2 103, ip_n4 44 (.iload 4) 46 4, ip_n4 46 (.iload 6) 48 6, ip_n4 48 .iadd 49 0, ip_n4 49 .laload 50 0, ip_n4 50 .lmul 51 0, ip_n4 51 (.aload_n 0) 52 0, ip_n7 52 (.getfield 13) 55 11 2 2 103, ip_n4 55 (.iload_n 3) 56 3, ip_n4 56 (.iload 6) 58 6, ip_n4 58 .iadd 59 0, ip_n4 59 .laload 60 0, ip_n4 60 (.aload_n 0) 61 0]
set_option maxRecDepth 100000 in
noncomputable def ip_d252_2 : List (Nat × ip_E) := [ip_n7 61 (.getfield 13) 64 11 2 2 103, ip_n4 64 (.iload 4) 66 4, ip_n4 66 (.iload 5) 68 5, ip_n4 68 .iadd 69 0, ip_n4 69 .laload 70 0, ip_n4 70 .lmul 71 0, ip_n4 71 .lsub 72 0, ip_n4 72 .lreturn 73 0]
set_option maxRecDepth 100000 in
noncomputable def ip_c252 : List (Nat × ip_E) := ip_d252_0 ++ (ip_d252_1 ++ (ip_d252_2))
set_option maxRecDepth 100000 in
noncomputable def ip_d253_0 : List (Nat × ip_E) := [ip_n4 0 (.aload_n 0) 1 0, ip_n9 1 (.iconst 0) 2 0 0 0 0 (.int 0) [], ip_n7 2 (.putfield 77) 5 11 0 0 124, ip_n4 5 (.aload_n 0) 6 0, ip_n7 6 (.getfield 7) 9 11 1 2 102, ip_n9 9 (.iconst 3) 10 0 0 0 0 (.int 3) [], ip_n4 10 .iaload 11 0, ip_n4 11 (.ifCond .eq 28) 14 39, ip_n4 14 (.iload_n 1) 15 1, ip_n9 15 (.iconst 0) 16 0 0 0 0 (.int 0) [], ip_n9 16 (.iconst 2) 17 0 0 0 0 (.int 2) [], ip_n7 17 (.invokestatic 96) 20 166 3 0 185, ip_n4 20 (.ifCond .eq 19) 23 39, ip_n4 23 (.iload_n 2) 24 2, ip_n9 24 (.iconst 0) 25 0 0 0 0 (.int 0) [], ip_n9 25 (.iconst 2) 26 0 0 0 0 (.int 2) [], ip_n7 26 (.invokestatic 96) 29 166 3 0 185, ip_n4 29 (.ifCond .eq 10) 32 39, ip_n4 32 (.aload_n 0) 33 0, ip_n7 33 (.invokevirtual 373) 36 251 1 1 240, ip_n4 36 (.ifCond .ne 7) 39 43, ip_n9 39 (.ldc2_w 353) 42 0 0 0 1573 (.long (-9223372036854775808)) [], ip_n4 42 .lreturn 43 0, ip_n4 43 (.aload_n 0) 44 0]
set_option maxRecDepth 100000 in
noncomputable def ip_d253_1 : List (Nat × ip_E) := [ip_n4 44 (.iload_n 1) 45 1, ip_n4 45 (.iload_n 2) 46 2, ip_n7 46 (.invokevirtual 376) 49 252 3 1 241, ip_n4 49 (.aload_n 0) 50 0, ip_n9 50 (.iconst 0) 51 0 0 0 0 (.int 0) [], ip_n4 51 (.aload_n 0) 52 0, ip_n7 52 (.getfield 7) 55 11 1 2 102, ip_n9 55 (.iconst 5) 56 0 0 0 0 (.int 5) [], ip_n4 56 .iaload 57 0, ip_n7 57 (.invokevirtual 355) 60 243 3 1 235, ip_n7 60 (.invokestatic 358) 63 244 1 0 236, ip_n4 63 .i2l 64 0, ip_n4 64 .lmul 65 0, ip_n4 65 .lreturn 66 0]
set_option maxRecDepth 100000 in
noncomputable def ip_c253 : List (Nat × ip_E) := ip_d253_0 ++ (ip_d253_1)
set_option maxRecDepth 100000 in
noncomputable def ip_d254_0 : List (Nat × ip_E) := [ip_n4 0 (.aload_n 0) 1 0, ip_n9 1 (.iconst 0) 2 0 0 0 0 (.int 0) [], ip_n7 2 (.putfield 77) 5 11 0 0 124, ip_n4 5 (.aload_n 0) 6 0, ip_n7 6 (.getfield 7) 9 11 1 2 102, ip_n9 9 (.iconst 3) 10 0 0 0 0 (.int 3) [], ip_n4 10 .iaload 11 0, ip_n4 11 (.ifCond .eq 27) 14 38, ip_n4 14 (.iload_n 2) 15 2, ip_n9 15 (.sipush (-999)) 18 0 0 0 0 (.int (-999)) [], ip_n9 18 (.sipush 999) 21 0 0 0 0 (.int 999) [], ip_n7 21 (.invokestatic 96) 24 166 3 0 185, ip_n4 24 (.ifCond .eq 14) 27 38, ip_n4 27 (.iload_n 3) 28 3, ip_n9 28 (.iconst 1) 29 0 0 0 0 (.int 1) [], ip_n9 29 (.sipush 999) 32 0 0 0 0 (.int 999) [], ip_n7 32 (.invokestatic 96) 35 166 3 0 185, ip_n4 35 (.ifCond .ne 6) 38 41, ip_n9 38 (.bipush (-2)) 40 0 0 0 0 (.int (-2)) [], ip_n4 40 .ireturn 41 0, ip_n9 41 (.sipush 153) 44 0 0 0 0 (.int 153) [], ip_n4 44 (.iload_n 1) 45 1, ip_n4 45 (.ifCond .eq 7) 48 52, ip_n9 48 (.iconst 4) 49 0 0 0 0 (.int 4) []]
set_option maxRecDepth 100000 in
noncomputable def ip_d254_1 : List (Nat × ip_E) := [ip_n4 49 (.goto 4) 52 53, ip_n9 52 (.iconst 0) 53 0 0 0 0 (.int 0) [], ip_n4 53 .iadd 54 0, ip_n4 54 (.istore 4) 56 4, ip_n4 56 (.aload_n 0) 57 0, ip_n4 57 (.aload_n 0) 58 0, ip_n7 58 (.getfield 7) 61 11 1 2 102, ip_n4 61 (.iload 4) 63 4, ip_n4 63 .iaload 64 0, ip_n4 64 .i2l 65 0, ip_n4 65 (.iload_n 3) 66 3, ip_n4 66 .i2l 67 0, ip_n4 67 .lmul 68 0, ip_n4 68 (.iload_n 2) 69 2, ip_n4 69 .i2l 70 0, ip_n4 70 (.aload_n 0) 71 0, ip_n7 71 (.getfield 7) 74 11 1 2 102, ip_n4 74 (.iload 4) 76 4, ip_n9 76 (.iconst 3) 77 0 0 0 0 (.int 3) [], ip_n4 77 .iadd 78 0, ip_n4 78 .iaload 79 0, ip_n4 79 .i2l 80 0, ip_n4 80 .lmul 81 0, ip_n4 81 .lsub 82 0]
set_option maxRecDepth 100000 in
noncomputable def ip_d254_2 : List (Nat × ip_E) := [ip_n4 82 (.aload_n 0) 83 0, ip_n7 83 (.getfield 7) 86 11 1 2 102, ip_n4 86 (.iload 4) 88 4, ip_n9 88 (.iconst 1) 89 0 0 0 0 (.int 1) [], ip_n4 89 .iadd 90 0, ip_n4 90 .iaload 91 0, ip_n4 91 .i2l 92 0, ip_n4 92 (.iload_n 3) 93 3, ip_n4 93 .i2l 94 0, ip_n4 94 .lmul 95 0, ip_n4 95 (.aload_n 0) 96 0, ip_n7 96 (.getfield 7) 99 11 1 2 102, ip_n4 99 (.iload 4) 101 4, ip_n9 101 (.iconst 2) 102 0 0 0 0 (.int 2) [], ip_n4 102 .iadd 103 0, ip_n4 103 .iaload 104 0, ip_n4 104 .i2l 105 0, ip_n4 105 (.iload_n 3) 106 3, ip_n4 106 .i2l 107 0, ip_n4 107 .lmul 108 0, ip_n7 108 (.invokevirtual 131) 111 185 4 1 194, ip_n4 111 .ireturn 112 0]
set_option maxRecDepth 100000 in
noncomputable def ip_c254 : List (Nat × ip_E) := ip_d254_0 ++ (ip_d254_1 ++ (ip_d254_2))
set_option maxRecDepth 100000 in
noncomputable def ip_d255_0 : List (Nat × ip_E) := [ip_n4 0 (.aload_n 0) 1 0, ip_n4 1 (.iload_n 1) 2 1, ip_n9 2 (.iconst 0) 3 0 0 0 0 (.int 0) [], ip_n7 3 (.invokevirtual 368) 6 248 3 1 239, ip_n4 6 (.istore_n 2) 7 2, ip_n4 7 (.aload_n 0) 8 0, ip_n4 8 (.iload_n 1) 9 1, ip_n9 9 (.iconst 1) 10 0 0 0 0 (.int 1) [], ip_n7 10 (.invokevirtual 368) 13 248 3 1 239, ip_n4 13 (.istore_n 3) 14 3, ip_n4 14 (.aload_n 0) 15 0, ip_n7 15 (.getfield 13) 18 11 2 2 103, ip_n9 18 (.iconst 3) 19 0 0 0 0 (.int 3) [], ip_n4 19 (.iload_n 1) 20 1, ip_n4 20 .imul 21 0, ip_n4 21 (.iload_n 2) 22 2, ip_n4 22 .iadd 23 0, ip_n4 23 .laload 24 0, ip_n4 24 (.lstore 4) 26 4, ip_n4 26 (.aload_n 0) 27 0, ip_n7 27 (.getfield 13) 30 11 2 2 103, ip_n4 30 (.iload_n 2) 31 2, ip_n4 31 .laload 32 0, ip_n4 32 (.lstore 6) 34 6]
set_option maxRecDepth 100000 in
noncomputable def ip_d255_1 : List (Nat × ip_E) := [ip_n4 34 (.aload_n 0) 35 0, ip_n7 35 (.getfield 13) 38 11 2 2 103, ip_n9 38 (.iconst 3) 39 0 0 0 0 (.int 3) [], ip_n4 39 (.iload_n 1) 40 1, ip_n4 40 .imul 41 0, ip_n4 41 (.iload_n 3) 42 3, ip_n4 42 .iadd 43 0, ip_n4 43 .laload 44 0, ip_n4 44 (.lstore 8) 46 8, ip_n4 46 (.aload_n 0) 47 0, ip_n7 47 (.getfield 13) 50 11 2 2 103, ip_n4 50 (.iload_n 3) 51 3, ip_n4 51 .laload 52 0, ip_n4 52 (.lstore 10) 54 10, ip_n9 54 (.iconst 0) 55 0 0 0 0 (.int 0) [], ip_n4 55 (.istore 12) 57 12, ip_n4 57 (.lload 4) 59 4, ip_n4 59 (.lload 6) 61 6, ip_n4 61 .lrem 62 0, ip_n9 62 (.lconst 0) 63 0 0 0 0 (.long 0) [], ip_n4 63 .lcmp 64 0, ip_n4 64 (.ifCond .eq 81) 67 145, ip_n4 67 (.lload 8) 69 8, ip_n4 69 (.lload 10) 71 10]
set_option maxRecDepth 100000 in
noncomputable def ip_d255_2 : List (Nat × ip_E) := [ip_n4 71 .ldiv 72 0, ip_n4 72 (.lload 4) 74 4, ip_n4 74 (.lload 6) 76 6, ip_n4 76 .ldiv 77 0, ip_n4 77 .lcmp 78 0, ip_n4 78 (.ifCond .ne 67) 81 145, ip_n4 81 (.aload_n 0) 82 0, ip_n7 82 (.getfield 55) 85 11 42 2 116, ip_n4 85 (.iload 12) 87 12, ip_n4 87 (.lload 4) 89 4, ip_n4 89 (.lload 6) 91 6, ip_n4 91 .ldiv 92 0, ip_n4 92 .lastore 93 0, ip_n4 93 (.lload 4) 95 4, ip_n4 95 (.aload_n 0) 96 0, ip_n7 96 (.getfield 55) 99 11 42 2 116, ip_n4 99 (.iload 12) 101 12, ip_n4 101 .laload 102 0, ip_n4 102 (.lload 6) 104 6, ip_n4 104 .lmul 105 0, ip_n4 105 .lsub 106 0, ip_n4 106 (.lstore 13) 108 13, ip_n4 108 (.lload 10) 110 10, ip_n4 110 (.lstore 4) 112 4]
set_option maxRecDepth 100000 in
noncomputable def ip_d255_3 : List (Nat × ip_E) := [ip_n4 112 (.lload 13) 114 13, ip_n4 114 (.lstore 10) 116 10, ip_n4 116 (.lload 8) 118 8, ip_n4 118 (.aload_n 0) 119 0, ip_n7 119 (.getfield 55) 122 11 42 2 116, ip_n4 122 (.iload 12) 124 12, ip_n4 124 .laload 125 0, ip_n4 125 (.lload 4) 127 4, ip_n4 127 .lmul 128 0, ip_n4 128 .lsub 129 0, ip_n4 129 (.lstore 13) 131 13, ip_n4 131 (.lload 6) 133 6, ip_n4 133 (.lstore 8) 135 8, ip_n4 135 (.lload 13) 137 13, ip_n4 137 (.lstore 6) 139 6, ip_n9 139 (.iinc 12 1) 142 12 0 0 0 (.int 1) [], ip_n4 142 (.goto (-85)) 145 57, ip_n4 145 (.aload_n 0) 146 0, ip_n4 146 (.lload 4) 148 4, ip_n4 148 (.lload 6) 150 6, ip_n4 150 .lrem 151 0, ip_n9 151 (.lconst 0) 152 0 0 0 0 (.long 0) [], ip_n4 152 .lcmp 153 0, ip_n4 153 (.ifCond .ne 11) 156 164]
set_option maxRecDepth 100000 in
noncomputable def ip_d255_4 : List (Nat × ip_E) := [ip_n4 156 (.lload 4) 158 4, ip_n4 158 (.lload 6) 160 6, ip_n4 160 .ldiv 161 0, ip_n4 161 (.goto 10) 164 171, ip_n4 164 (.lload 4) 166 4, ip_n4 166 (.lload 6) 168 6, ip_n4 168 .ldiv 169 0, ip_n9 169 (.lconst 1) 170 0 0 0 0 (.long 1) [], ip_n4 170 .ladd 171 0, ip_n7 171 (.putfield 380) 174 11 40 1 148, ip_n4 174 (.aload_n 0) 175 0, ip_n9 175 (.lconst 1) 176 0 0 0 0 (.long 1) [], ip_n7 176 (.putfield 383) 179 11 41 1 149, ip_n4 179 (.iload 12) 181 12, ip_n9 181 (.iconst 1) 182 0 0 0 0 (.int 1) [], ip_n4 182 .isub 183 0, ip_n4 183 (.istore 13) 185 13, ip_n4 185 (.iload 13) 187 13, ip_n4 187 (.ifCond .lt 42) 190 229, ip_n4 190 (.aload_n 0) 191 0, ip_n7 191 (.getfield 380) 194 11 40 1 148, ip_n4 194 (.lstore 14) 196 14, ip_n4 196 (.aload_n 0) 197 0, ip_n4 197 (.aload_n 0) 198 0]
set_option maxRecDepth 100000 in
noncomputable def ip_d255_5 : List (Nat × ip_E) := [ip_n7 198 (.getfield 55) 201 11 42 2 116, ip_n4 201 (.iload 13) 203 13, ip_n4 203 .laload 204 0, ip_n4 204 (.aload_n 0) 205 0, ip_n7 205 (.getfield 380) 208 11 40 1 148, ip_n4 208 .lmul 209 0, ip_n4 209 (.aload_n 0) 210 0, ip_n7 210 (.getfield 383) 213 11 41 1 149, ip_n4 213 .ladd 214 0, ip_n7 214 (.putfield 380) 217 11 40 1 148, ip_n4 217 (.aload_n 0) 218 0, ip_n4 218 (.lload 14) 220 14, ip_n7 220 (.putfield 383) 223 11 41 1 149, ip_n9 223 (.iinc 13 (-1)) 226 13 0 0 0 (.int (-1)) [], ip_n4 226 (.goto (-41)) 229 185, ip_n4 229 .return_ 230 0]
set_option maxRecDepth 100000 in
noncomputable def ip_c255 : List (Nat × ip_E) := ip_d255_0 ++ (ip_d255_1 ++ (ip_d255_2 ++ (ip_d255_3 ++ (ip_d255_4 ++ (ip_d255_5)))))
set_option maxRecDepth 100000 in
noncomputable def ip_c256 : List (Nat × ip_E) := [ip_n4 0 (.aload_n 0) 1 0, ip_n9 1 (.iconst 0) 2 0 0 0 0 (.int 0) [], ip_n7 2 (.putfield 77) 5 11 0 0 124, ip_n4 5 (.aload_n 0) 6 0, ip_n7 6 (.invokevirtual 365) 9 246 1 1 238, ip_n4 9 (.ifCond .eq 12) 12 21, ip_n4 12 (.iload_n 2) 13 2, ip_n9 13 (.iconst 0) 14 0 0 0 0 (.int 0) [], ip_n9 14 (.iconst 1) 15 0 0 0 0 (.int 1) [], ip_n7 15 (.invokestatic 96) 18 166 3 0 185, ip_n4 18 (.ifCond .ne 7) 21 25, ip_n9 21 (.ldc2_w 353) 24 0 0 0 1573 (.long (-9223372036854775808)) [], ip_n4 24 .lreturn 25 0, ip_n4 25 (.aload_n 0) 26 0, ip_n4 26 (.iload_n 1) 27 1, ip_n4 27 (.ifCond .eq 7) 30 34, ip_n9 30 (.iconst 2) 31 0 0 0 0 (.int 2) [], ip_n4 31 (.goto 4) 34 35, ip_n9 34 (.iconst 1) 35 0 0 0 0 (.int 1) [], ip_n7 35 (.invokevirtual 386) 38 255 2 1 242, ip_n4 38 (.iload_n 2) 39 2, ip_n4 39 (.ifCond .ne 10) 42 49, ip_n4 42 (.aload_n 0) 43 0, ip_n7 43 (.getfield 380) 46 11 40 1 148, ip_n4 46 (.goto 7) 49 53, ip_n4 49 (.aload_n 0) 50 0, ip_n7 50 (.getfield 383) 53 11 41 1 149, ip_n4 53 .lreturn 54 0]
set_option maxRecDepth 100000 in
noncomputable def ip_d257_0 : List (Nat × ip_E) := [ip_n9 0 (.iconst 0) 1 0 0 0 0 (.int 0) [], ip_n4 1 (.istore_n 2) 2 2, ip_n4 2 (.iload_n 2) 3 2, ip_n9 3 (.iconst 2) 4 0 0 0 0 (.int 2) [], ip_n4 4 (.if_icmp .ge 75) 7 79, ip_n4 7 (.aload_n 0) 8 0, ip_n4 8 (.iload_n 1) 9 1, ip_n4 9 (.iload_n 2) 10 2, ip_n7 10 (.invokevirtual 368) 13 248 3 1 239, ip_n4 13 (.istore_n 3) 14 3, ip_n4 14 (.aload_n 0) 15 0, ip_n7 15 (.getfield 13) 18 11 2 2 103, ip_n4 18 (.iload_n 3) 19 3, ip_n4 19 .laload 20 0, ip_n4 20 (.aload_n 0) 21 0, ip_n7 21 (.getfield 13) 24 11 2 2 103, ip_n9 24 (.iconst 3) 25 0 0 0 0 (.int 3) [], ip_n4 25 (.iload_n 1) 26 1, ip_n4 26 .imul 27 0, ip_n4 27 (.iload_n 3) 28 3, ip_n4 28 .iadd 29 0, ip_n4 29 .laload 30 0, ip_n7 30 (.invokestatic 135) 33 187 2 0 195, ip_n4 33 (.lstore 4) 35 4]
set_option maxRecDepth 100000 in
noncomputable def ip_d257_1 : List (Nat × ip_E) := [ip_n4 35 (.aload_n 0) 36 0, ip_n7 36 (.getfield 13) 39 11 2 2 103, ip_n4 39 (.iload_n 3) 40 3, ip_n4 40 .laload 41 0, ip_n4 41 (.lload 4) 43 4, ip_n4 43 .ldiv 44 0, ip_n9 44 (.ldc2_w 371) 47 0 0 0 1632 (.long 1000000000) [], ip_n4 47 .lcmp 48 0, ip_n4 48 (.ifCond .gt 23) 51 71, ip_n4 51 (.aload_n 0) 52 0, ip_n7 52 (.getfield 13) 55 11 2 2 103, ip_n9 55 (.iconst 3) 56 0 0 0 0 (.int 3) [], ip_n4 56 (.iload_n 1) 57 1, ip_n4 57 .imul 58 0, ip_n4 58 (.iload_n 3) 59 3, ip_n4 59 .iadd 60 0, ip_n4 60 .laload 61 0, ip_n4 61 (.lload 4) 63 4, ip_n4 63 .ldiv 64 0, ip_n9 64 (.ldc2_w 371) 67 0 0 0 1632 (.long 1000000000) [], ip_n4 67 .lcmp 68 0, ip_n4 68 (.ifCond .le 5) 71 73, ip_n9 71 (.iconst 0) 72 0 0 0 0 (.int 0) [], ip_n7 72 .ireturn 73 0 0 3 0]
set_option maxRecDepth 100000 in
noncomputable def ip_d257_2 : List (Nat × ip_E) := [ip_n9 73 (.iinc 2 1) 76 2 0 0 0 (.int 1) [], ip_n4 76 (.goto (-74)) 79 2, ip_n9 79 (.iconst 1) 80 0 0 0 0 (.int 1) [], ip_n7 80 .ireturn 81 0 0 3 0]
set_option maxRecDepth 100000 in
noncomputable def ip_c257 : List (Nat × ip_E) := ip_d257_0 ++ (ip_d257_1 ++ (ip_d257_2))
set_option maxRecDepth 100000 in
noncomputable def ip_d258_0 : List (Nat × ip_E) := [ip_n4 0 (.aload_n 0) 1 0, ip_n4 1 (.iload_n 1) 2 1, ip_n9 2 (.iconst 0) 3 0 0 0 0 (.int 0) [], ip_n7 3 (.invokevirtual 368) 6 248 3 1 239, ip_n4 6 (.istore 4) 8 4, ip_n4 8 (.aload_n 0) 9 0, ip_n4 9 (.iload_n 1) 10 1, ip_n9 10 (.iconst 1) 11 0 0 0 0 (.int 1) [], ip_n7 11 (.invokevirtual 368) 14 248 3 1 239, ip_n4 14 (.istore 5) 16 5, ip_n4 16 (.aload_n 0) 17 0, ip_n7 17 (.getfield 13) 20 11 2 2 103, ip_n4 20 (.iload 4) 22 4, ip_n4 22 .laload 23 0, ip_n4 23 (.aload_n 0) 24 0, ip_n7 24 (.getfield 13) 27 11 2 2 103, ip_n9 27 (.iconst 3) 28 0 0 0 0 (.int 3) [], ip_n4 28 (.iload_n 1) 29 1, ip_n4 29 .imul 30 0, ip_n4 30 (.iload 4) 32 4, ip_n4 32 .iadd 33 0, ip_n4 33 .laload 34 0, ip_n7 34 (.invokestatic 135) 37 187 2 0 195, ip_n4 37 (.lstore 6) 39 6]
set_option maxRecDepth 100000 in
noncomputable def ip_d258_1 : List (Nat × ip_E) := [ip_n4 39 (.aload_n 0) 40 0, ip_n7 40 (.getfield 13) 43 11 2 2 103, ip_n4 43 (.iload 5) 45 5, ip_n4 45 .laload 46 0, ip_n4 46 (.aload_n 0) 47 0, ip_n7 47 (.getfield 13) 50 11 2 2 103, ip_n9 50 (.iconst 3) 51 0 0 0 0 (.int 3) [], ip_n4 51 (.iload_n 1) 52 1, ip_n4 52 .imul 53 0, ip_n4 53 (.iload 5) 55 5, ip_n4 55 .iadd 56 0, ip_n4 56 .laload 57 0, ip_n7 57 (.invokestatic 135) 60 187 2 0 195, ip_n4 60 (.lstore 8) 62 8, ip_n4 62 (.aload_n 0) 63 0, ip_n7 63 (.getfield 13) 66 11 2 2 103, ip_n9 66 (.iconst 3) 67 0 0 0 0 (.int 3) [], ip_n4 67 (.iload_n 1) 68 1, ip_n4 68 .imul 69 0, ip_n4 69 (.iload 4) 71 4, ip_n4 71 .iadd 72 0, ip_n4 72 .laload 73 0, ip_n4 73 (.lload 6) 75 6, ip_n4 75 .ldiv 76 0]
set_option maxRecDepth 100000 in
noncomputable def ip_d258_2 : List (Nat × ip_E) := [ip_n4 76 (.lload_n 2) 77 2, ip_n4 77 .lmul 78 0, ip_n4 78 (.lstore 10) 80 10, ip_n4 80 (.aload_n 0) 81 0, ip_n7 81 (.getfield 13) 84 11 2 2 103, ip_n4 84 (.iload 4) 86 4, ip_n4 86 .laload 87 0, ip_n4 87 (.lload 6) 89 6, ip_n4 89 .ldiv 90 0, ip_n4 90 (.lstore 12) 92 12, ip_n4 92 (.lload 10) 94 10, ip_n4 94 (.lload 12) 96 12, ip_n4 96 .lrem 97 0, ip_n9 97 (.lconst 0) 98 0 0 0 0 (.long 0) [], ip_n4 98 .lcmp 99 0, ip_n4 99 (.ifCond .ne 11) 102 110, ip_n4 102 (.lload 10) 104 10, ip_n4 104 (.lload 12) 106 12, ip_n4 106 .ldiv 107 0, ip_n4 107 (.goto 10) 110 117, ip_n4 110 (.lload 10) 112 10, ip_n4 112 (.lload 12) 114 12, ip_n4 114 .ldiv 115 0, ip_n9 115 (.lconst 1) 116 0 0 0 0 (.long 1) []]
set_option maxRecDepth 100000 in
noncomputable def ip_d258_3 : List (Nat × ip_E) := [ip_n4 116 .ladd 117 0, ip_n4 117 (.lstore 14) 119 14, ip_n4 119 (.lload 14) 121 14, ip_n4 121 (.aload_n 0) 122 0, ip_n7 122 (.getfield 13) 125 11 2 2 103, ip_n4 125 (.iload 5) 127 5, ip_n4 127 .laload 128 0, ip_n4 128 (.lload 8) 130 8, ip_n4 130 .ldiv 131 0, ip_n4 131 .lmul 132 0, ip_n4 132 (.aload_n 0) 133 0, ip_n7 133 (.getfield 13) 136 11 2 2 103, ip_n9 136 (.iconst 3) 137 0 0 0 0 (.int 3) [], ip_n4 137 (.iload_n 1) 138 1, ip_n4 138 .imul 139 0, ip_n4 139 (.iload 5) 141 5, ip_n4 141 .iadd 142 0, ip_n4 142 .laload 143 0, ip_n4 143 (.lload 8) 145 8, ip_n4 145 .ldiv 146 0, ip_n4 146 (.lload_n 2) 147 2, ip_n4 147 .lmul 148 0, ip_n4 148 .lcmp 149 0, ip_n4 149 (.ifCond .gt 8) 152 157]
set_option maxRecDepth 100000 in
noncomputable def ip_d258_4 : List (Nat × ip_E) := [ip_n4 152 (.lload 14) 154 14, ip_n4 154 (.goto 6) 157 160, ip_n9 157 (.ldc2_w 353) 160 0 0 0 1573 (.long (-9223372036854775808)) [], ip_n4 160 .lreturn 161 0]
set_option maxRecDepth 100000 in
noncomputable def ip_c258 : List (Nat × ip_E) := ip_d258_0 ++ (ip_d258_1 ++ (ip_d258_2 ++ (ip_d258_3 ++ (ip_d258_4))))
set_option maxRecDepth 100000 in
noncomputable def ip_d259_0 : List (Nat × ip_E) := [ip_n4 0 (.aload_n 0) 1 0, ip_n9 1 (.iconst 0) 2 0 0 0 0 (.int 0) [], ip_n7 2 (.putfield 77) 5 11 0 0 124, ip_n4 5 (.aload_n 0) 6 0, ip_n7 6 (.invokevirtual 365) 9 246 1 1 238, ip_n4 9 (.ifCond .eq 28) 12 37, ip_n4 12 (.iload_n 1) 13 1, ip_n9 13 (.iconst 0) 14 0 0 0 0 (.int 0) [], ip_n9 14 (.iconst 2) 15 0 0 0 0 (.int 2) [], ip_n7 15 (.invokestatic 96) 18 166 3 0 185, ip_n4 18 (.ifCond .eq 19) 21 37, ip_n4 21 (.aload_n 0) 22 0, ip_n9 22 (.iconst 1) 23 0 0 0 0 (.int 1) [], ip_n7 23 (.invokevirtual 389) 26 257 2 1 243, ip_n4 26 (.ifCond .eq 11) 29 37, ip_n4 29 (.aload_n 0) 30 0, ip_n9 30 (.iconst 2) 31 0 0 0 0 (.int 2) [], ip_n7 31 (.invokevirtual 389) 34 257 2 1 243, ip_n4 34 (.ifCond .ne 7) 37 41, ip_n9 37 (.ldc2_w 353) 40 0 0 0 1573 (.long (-9223372036854775808)) [], ip_n4 40 .lreturn 41 0, ip_n9 41 (.lconst 1) 42 0 0 0 0 (.long 1) [], ip_n4 42 (.lstore_n 2) 43 2, ip_n4 43 (.lload_n 2) 44 2]
set_option maxRecDepth 100000 in
noncomputable def ip_d259_1 : List (Nat × ip_E) := [ip_n9 44 (.ldc2_w 392) 47 0 0 0 1657 (.long 9999) [], ip_n4 47 .lcmp 48 0, ip_n4 48 (.ifCond .gt 68) 51 116, ip_n4 51 (.aload_n 0) 52 0, ip_n9 52 (.iconst 1) 53 0 0 0 0 (.int 1) [], ip_n4 53 (.lload_n 2) 54 2, ip_n7 54 (.invokevirtual 394) 57 258 3 1 244, ip_n4 57 (.lstore 4) 59 4, ip_n4 59 (.lload 4) 61 4, ip_n9 61 (.ldc2_w 353) 64 0 0 0 1573 (.long (-9223372036854775808)) [], ip_n4 64 .lcmp 65 0, ip_n4 65 (.ifCond .ne 6) 68 71, ip_n4 68 (.goto 41) 71 109, ip_n4 71 (.aload_n 0) 72 0, ip_n9 72 (.iconst 2) 73 0 0 0 0 (.int 2) [], ip_n4 73 (.lload_n 2) 74 2, ip_n7 74 (.invokevirtual 394) 77 258 3 1 244, ip_n4 77 (.lstore 6) 79 6, ip_n4 79 (.lload 6) 81 6, ip_n9 81 (.ldc2_w 353) 84 0 0 0 1573 (.long (-9223372036854775808)) [], ip_n4 84 .lcmp 85 0, ip_n4 85 (.ifCond .eq 24) 88 109, ip_n4 88 (.iload_n 1) 89 1, ip_n4 89 (.ifCond .ne 7) 92 96]
set_option maxRecDepth 100000 in
noncomputable def ip_d259_2 : List (Nat × ip_E) := [ip_n4 92 (.lload_n 2) 93 2, ip_n4 93 (.goto 15) 96 108, ip_n4 96 (.iload_n 1) 97 1, ip_n9 97 (.iconst 1) 98 0 0 0 0 (.int 1) [], ip_n4 98 (.if_icmp .ne 8) 101 106, ip_n4 101 (.lload 4) 103 4, ip_n4 103 (.goto 5) 106 108, ip_n4 106 (.lload 6) 108 6, ip_n4 108 .lreturn 109 0, ip_n4 109 (.lload_n 2) 110 2, ip_n9 110 (.lconst 1) 111 0 0 0 0 (.long 1) [], ip_n4 111 .ladd 112 0, ip_n4 112 (.lstore_n 2) 113 2, ip_n4 113 (.goto (-70)) 116 43, ip_n9 116 (.ldc2_w 353) 119 0 0 0 1573 (.long (-9223372036854775808)) [], ip_n4 119 .lreturn 120 0]
set_option maxRecDepth 100000 in
noncomputable def ip_c259 : List (Nat × ip_E) := ip_d259_0 ++ (ip_d259_1 ++ (ip_d259_2))
set_option maxRecDepth 100000 in
noncomputable def ip_c260 : List (Nat × ip_E) := [ip_n4 0 (.aload_n 0) 1 0, ip_n7 1 (.getfield 7) 4 11 1 2 102, ip_n9 4 (.iconst 3) 5 0 0 0 0 (.int 3) [], ip_n4 5 .iaload 6 0, ip_n9 6 (.iconst 1) 7 0 0 0 0 (.int 1) [], ip_n4 7 (.if_icmp .ne 18) 10 25, ip_n4 10 (.aload_n 0) 11 0, ip_n7 11 (.getfield 7) 14 11 1 2 102, ip_n9 14 (.bipush 6) 16 0 0 0 0 (.int 6) [], ip_n4 16 .iaload 17 0, ip_n9 17 (.iconst (-1)) 18 0 0 0 0 (.int (-1)) [], ip_n4 18 (.if_icmp .eq 7) 21 25, ip_n9 21 (.iconst 1) 22 0 0 0 0 (.int 1) [], ip_n4 22 (.goto 4) 25 26, ip_n9 25 (.iconst 0) 26 0 0 0 0 (.int 0) [], ip_n7 26 .ireturn 27 0 0 3 0]
set_option maxRecDepth 100000 in
noncomputable def ip_c261 : List (Nat × ip_E) := [ip_n4 0 (.aload_n 0) 1 0, ip_n9 1 (.iconst 0) 2 0 0 0 0 (.int 0) [], ip_n7 2 (.putfield 77) 5 11 0 0 124, ip_n4 5 (.aload_n 0) 6 0, ip_n7 6 (.invokevirtual 398) 9 260 1 1 245, ip_n4 9 (.ifCond .eq 12) 12 21, ip_n4 12 (.iload_n 1) 13 1, ip_n9 13 (.iconst 0) 14 0 0 0 0 (.int 0) [], ip_n9 14 (.iconst 1) 15 0 0 0 0 (.int 1) [], ip_n7 15 (.invokestatic 96) 18 166 3 0 185, ip_n4 18 (.ifCond .ne 5) 21 23, ip_n9 21 (.iconst (-1)) 22 0 0 0 0 (.int (-1)) [], ip_n4 22 .ireturn 23 0, ip_n4 23 (.iload_n 1) 24 1, ip_n4 24 (.ifCond .ne 13) 27 37, ip_n4 27 (.aload_n 0) 28 0, ip_n7 28 (.getfield 7) 31 11 1 2 102, ip_n9 31 (.bipush 6) 33 0 0 0 0 (.int 6) [], ip_n4 33 .iaload 34 0, ip_n4 34 (.goto 10) 37 44, ip_n4 37 (.aload_n 0) 38 0, ip_n7 38 (.getfield 7) 41 11 1 2 102, ip_n9 41 (.bipush 7) 43 0 0 0 0 (.int 7) [], ip_n4 43 .iaload 44 0, ip_n4 44 .ireturn 45 0]
set_option maxRecDepth 100000 in
noncomputable def ip_c262 : List (Nat × ip_E) := [ip_n9 0 (.iconst 0) 1 0 0 0 0 (.int 0) [], ip_n4 1 (.istore_n 1) 2 1, ip_n4 2 (.iload_n 1) 3 1, ip_n9 3 (.bipush 9) 5 0 0 0 0 (.int 9) [], ip_n4 5 (.if_icmp .ge 26) 8 31, ip_n4 8 (.aload_n 0) 9 0, ip_n7 9 (.getfield 58) 12 11 43 2 117, ip_n4 12 (.iload_n 1) 13 1, ip_n4 13 (.iload_n 1) 14 1, ip_n9 14 (.iconst 4) 15 0 0 0 0 (.int 4) [], ip_n4 15 .irem 16 0, ip_n4 16 (.ifCond .ne 7) 19 23, ip_n9 19 (.lconst 1) 20 0 0 0 0 (.long 1) [], ip_n4 20 (.goto 4) 23 24, ip_n9 23 (.lconst 0) 24 0 0 0 0 (.long 0) [], ip_n4 24 .lastore 25 0, ip_n9 25 (.iinc 1 1) 28 1 0 0 0 (.int 1) [], ip_n4 28 (.goto (-26)) 31 2, ip_n4 31 (.aload_n 0) 32 0, ip_n9 32 (.iconst 0) 33 0 0 0 0 (.int 0) [], ip_n7 33 (.putfield 285) 36 11 29 3 141, ip_n4 36 .return_ 37 0]
set_option maxRecDepth 100000 in
noncomputable def ip_d263_0 : List (Nat × ip_E) := [ip_n4 0 (.aload_n 0) 1 0, ip_n4 1 (.aload_n 0) 2 0, ip_n7 2 (.getfield 58) 5 11 43 2 117, ip_n4 5 (.aload_n 0) 6 0, ip_n7 6 (.getfield 7) 9 11 1 2 102, ip_n4 9 (.iload_n 1) 10 1, ip_n4 10 .iaload 11 0, ip_n4 11 (.aload_n 0) 12 0, ip_n7 12 (.getfield 7) 15 11 1 2 102, ip_n4 15 (.iload_n 1) 16 1, ip_n9 16 (.iconst 1) 17 0 0 0 0 (.int 1) [], ip_n4 17 .iadd 18 0, ip_n4 18 .iaload 19 0, ip_n4 19 (.aload_n 0) 20 0, ip_n7 20 (.getfield 7) 23 11 1 2 102, ip_n4 23 (.iload_n 1) 24 1, ip_n9 24 (.iconst 2) 25 0 0 0 0 (.int 2) [], ip_n4 25 .iadd 26 0, ip_n4 26 .iaload 27 0, ip_n7 27 (.invokevirtual 294) 30 217 5 1 222, ip_n9 30 (.iconst 0) 31 0 0 0 0 (.int 0) [], ip_n4 31 (.istore_n 2) 32 2, ip_n4 32 (.iload_n 2) 33 2, ip_n9 33 (.bipush 9) 35 0 0 0 0 (.int 9) []]
set_option maxRecDepth 100000 in
noncomputable def ip_d263_1 : List (Nat × ip_E) := [ip_n4 35 (.if_icmp .ge 21) 38 56, ip_n4 38 (.aload_n 0) 39 0, ip_n7 39 (.getfield 58) 42 11 43 2 117, ip_n4 42 (.iload_n 2) 43 2, ip_n4 43 (.aload_n 0) 44 0, ip_n7 44 (.getfield 39) 47 11 28 2 111, ip_n4 47 (.iload_n 2) 48 2, ip_n4 48 .laload 49 0, ip_n4 49 .lastore 50 0, ip_n9 50 (.iinc 2 1) 53 2 0 0 0 (.int 1) [], ip_n4 53 (.goto (-21)) 56 32, ip_n4 56 .return_ 57 0]
set_option maxRecDepth 100000 in
noncomputable def ip_c263 : List (Nat × ip_E) := ip_d263_0 ++ (ip_d263_1)
set_option maxRecDepth 100000 in
noncomputable def ip_d264_0 : List (Nat × ip_E) := [ip_n4 0 (.aload_n 0) 1 0, ip_n7 1 (.invokevirtual 401) 4 262 1 1 246, ip_n4 4 (.aload_n 0) 5 0, ip_n7 5 (.getfield 7) 8 11 1 2 102, ip_n9 8 (.bipush 6) 10 0 0 0 0 (.int 6) [], ip_n4 10 .iaload 11 0, ip_n4 11 (.istore_n 1) 12 1, ip_n4 12 (.iload_n 1) 13 1, ip_n4 13 (.aload_n 0) 14 0, ip_n7 14 (.getfield 7) 17 11 1 2 102, ip_n9 17 (.bipush 6) 19 0 0 0 0 (.int 6) [], ip_n4 19 .iaload 20 0, ip_n4 20 (.aload_n 0) 21 0, ip_n7 21 (.getfield 7) 24 11 1 2 102, ip_n9 24 (.bipush 7) 26 0 0 0 0 (.int 7) [], ip_n4 26 .iaload 27 0, ip_n4 27 .iadd 28 0, ip_n4 28 (.if_icmp .ge 20) 31 48, ip_n4 31 (.aload_n 0) 32 0, ip_n9 32 (.sipush 641) 35 0 0 0 0 (.int 641) [], ip_n9 35 (.iconst 3) 36 0 0 0 0 (.int 3) [], ip_n4 36 (.iload_n 1) 37 1, ip_n4 37 .imul 38 0, ip_n4 38 .iadd 39 0]
set_option maxRecDepth 100000 in
noncomputable def ip_d264_1 : List (Nat × ip_E) := [ip_n7 39 (.invokevirtual 404) 42 263 2 1 247, ip_n9 42 (.iinc 1 1) 45 1 0 0 0 (.int 1) [], ip_n4 45 (.goto (-33)) 48 12, ip_n4 48 (.aload_n 0) 49 0, ip_n7 49 (.getfield 285) 52 11 29 3 141, ip_n4 52 (.ifCond .ne 7) 55 59, ip_n9 55 (.iconst 1) 56 0 0 0 0 (.int 1) [], ip_n4 56 (.goto 4) 59 60, ip_n9 59 (.iconst 0) 60 0 0 0 0 (.int 0) [], ip_n7 60 .ireturn 61 0 0 3 0]
set_option maxRecDepth 100000 in
noncomputable def ip_c264 : List (Nat × ip_E) := ip_d264_0 ++ (ip_d264_1)
set_option maxRecDepth 100000 in
noncomputable def ip_c265 : List (Nat × ip_E) := [ip_n4 0 (.aload_n 0) 1 0, ip_n9 1 (.iconst 0) 2 0 0 0 0 (.int 0) [], ip_n7 2 (.putfield 77) 5 11 0 0 124, ip_n4 5 (.aload_n 0) 6 0, ip_n7 6 (.invokevirtual 398) 9 260 1 1 245, ip_n4 9 (.ifCond .eq 41) 12 50, ip_n4 12 (.iload_n 1) 13 1, ip_n9 13 (.iconst 0) 14 0 0 0 0 (.int 0) [], ip_n9 14 (.iconst 2) 15 0 0 0 0 (.int 2) [], ip_n7 15 (.invokestatic 96) 18 166 3 0 185, ip_n4 18 (.ifCond .eq 32) 21 50, ip_n4 21 (.iload_n 2) 22 2, ip_n9 22 (.iconst 0) 23 0 0 0 0 (.int 0) [], ip_n9 23 (.iconst 2) 24 0 0 0 0 (.int 2) [], ip_n7 24 (.invokestatic 96) 27 166 3 0 185, ip_n4 27 (.ifCond .eq 23) 30 50, ip_n4 30 (.aload_n 0) 31 0, ip_n7 31 (.invokevirtual 407) 34 264 1 1 248, ip_n4 34 (.ifCond .eq 16) 37 50, ip_n4 37 (.aload_n 0) 38 0, ip_n7 38 (.getfield 58) 41 11 43 2 117, ip_n9 41 (.iconst 3) 42 0 0 0 0 (.int 3) [], ip_n4 42 (.iload_n 1) 43 1, ip_n4 43 .imul 44 0, ip_n4 44 (.iload_n 2) 45 2, ip_n4 45 .iadd 46 0, ip_n4 46 .laload 47 0, ip_n4 47 (.goto 6) 50 53, ip_n9 50 (.ldc2_w 353) 53 0 0 0 1573 (.long (-9223372036854775808)) [], ip_n4 53 .lreturn 54 0]
set_option maxRecDepth 100000 in
noncomputable def ip_c266 : List (Nat × ip_E) := [ip_n4 0 (.aload_n 0) 1 0, ip_n7 1 (.getfield 58) 4 11 43 2 117, ip_n4 4 (.iload_n 1) 5 1, ip_n4 5 .laload 6 0, ip_n9 6 (.ldc2_w 410) 9 0 0 0 1694 (.long 10000000000000) [], ip_n4 9 .lcmp 10 0, ip_n4 10 (.ifCond .le 38) 13 48, ip_n4 13 (.aload_n 0) 14 0, ip_n7 14 (.getfield 7) 17 11 1 2 102, ip_n4 17 (.iload_n 2) 18 2, ip_n4 18 .iaload 19 0, ip_n4 19 (.ifCond .ne 25) 22 44, ip_n4 22 (.aload_n 0) 23 0, ip_n7 23 (.getfield 7) 26 11 1 2 102, ip_n4 26 (.iload_n 2) 27 2, ip_n9 27 (.iconst 1) 28 0 0 0 0 (.int 1) [], ip_n4 28 .iadd 29 0, ip_n4 29 .iaload 30 0, ip_n4 30 (.ifCond .ne 14) 33 44, ip_n4 33 (.aload_n 0) 34 0, ip_n7 34 (.getfield 7) 37 11 1 2 102, ip_n4 37 (.iload_n 2) 38 2, ip_n9 38 (.iconst 2) 39 0 0 0 0 (.int 2) [], ip_n4 39 .iadd 40 0, ip_n4 40 .iaload 41 0, ip_n4 41 (.ifCond .eq 7) 44 48, ip_n9 44 (.iconst 1) 45 0 0 0 0 (.int 1) [], ip_n4 45 (.goto 4) 48 49, ip_n9 48 (.iconst 0) 49 0 0 0 0 (.int 0) [], ip_n7 49 .ireturn 50 0 0 3 0]
set_option maxRecDepth 100000 in
noncomputable def ip_d267_0 : List (Nat × ip_E) := [ip_n9 0 (.sipush 153) 3 0 0 0 0 (.int 153) [], ip_n9 3 (.bipush 8) 5 0 0 0 0 (.int 8) [], ip_n4 5 (.aload_n 0) 6 0, ip_n7 6 (.getfield 7) 9 11 1 2 102, ip_n9 9 (.bipush 6) 11 0 0 0 0 (.int 6) [], ip_n4 11 .iaload 12 0, ip_n4 12 .imul 13 0, ip_n4 13 .iadd 14 0, ip_n4 14 (.istore_n 1) 15 1, ip_n4 15 (.aload_n 0) 16 0, ip_n7 16 (.invokevirtual 407) 19 264 1 1 248, ip_n4 19 (.ifCond .eq 36) 22 55, ip_n4 22 (.aload_n 0) 23 0, ip_n7 23 (.getfield 58) 26 11 43 2 117, ip_n9 26 (.iconst 0) 27 0 0 0 0 (.int 0) [], ip_n4 27 .laload 28 0, ip_n9 28 (.ldc2_w 410) 31 0 0 0 1694 (.long 10000000000000) [], ip_n4 31 .lcmp 32 0, ip_n4 32 (.ifCond .gt 23) 35 55, ip_n4 35 (.aload_n 0) 36 0, ip_n9 36 (.iconst 1) 37 0 0 0 0 (.int 1) [], ip_n4 37 (.iload_n 1) 38 1, ip_n7 38 (.invokevirtual 412) 41 266 3 1 249, ip_n4 41 (.ifCond .ne 14) 44 55]
set_option maxRecDepth 100000 in
noncomputable def ip_d267_1 : List (Nat × ip_E) := [ip_n4 44 (.aload_n 0) 45 0, ip_n9 45 (.iconst 2) 46 0 0 0 0 (.int 2) [], ip_n4 46 (.iload_n 1) 47 1, ip_n9 47 (.iconst 4) 48 0 0 0 0 (.int 4) [], ip_n4 48 .iadd 49 0, ip_n7 49 (.invokevirtual 412) 52 266 3 1 249, ip_n4 52 (.ifCond .eq 5) 55 57, ip_n9 55 (.iconst 0) 56 0 0 0 0 (.int 0) [], ip_n7 56 .ireturn 57 0 0 3 0, ip_n4 57 (.aload_n 0) 58 0, ip_n7 58 (.getfield 7) 61 11 1 2 102, ip_n4 61 (.iload_n 1) 62 1, ip_n9 62 (.iconst 3) 63 0 0 0 0 (.int 3) [], ip_n4 63 .iadd 64 0, ip_n4 64 .iaload 65 0, ip_n4 65 .i2l 66 0, ip_n4 66 (.aload_n 0) 67 0, ip_n7 67 (.getfield 7) 70 11 1 2 102, ip_n4 70 (.iload_n 1) 71 1, ip_n9 71 (.bipush 7) 73 0 0 0 0 (.int 7) [], ip_n4 73 .iadd 74 0, ip_n4 74 .iaload 75 0, ip_n4 75 .i2l 76 0, ip_n7 76 (.invokestatic 135) 79 187 2 0 195]
set_option maxRecDepth 100000 in
noncomputable def ip_d267_2 : List (Nat × ip_E) := [ip_n4 79 (.lstore_n 2) 80 2, ip_n4 80 (.aload_n 0) 81 0, ip_n7 81 (.getfield 7) 84 11 1 2 102, ip_n4 84 (.iload_n 1) 85 1, ip_n9 85 (.bipush 7) 87 0 0 0 0 (.int 7) [], ip_n4 87 .iadd 88 0, ip_n4 88 .iaload 89 0, ip_n4 89 .i2l 90 0, ip_n4 90 (.lload_n 2) 91 2, ip_n4 91 .ldiv 92 0, ip_n4 92 (.lstore 4) 94 4, ip_n4 94 (.aload_n 0) 95 0, ip_n7 95 (.getfield 7) 98 11 1 2 102, ip_n4 98 (.iload_n 1) 99 1, ip_n9 99 (.iconst 3) 100 0 0 0 0 (.int 3) [], ip_n4 100 .iadd 101 0, ip_n4 101 .iaload 102 0, ip_n4 102 .i2l 103 0, ip_n4 103 (.lload_n 2) 104 2, ip_n4 104 .ldiv 105 0, ip_n4 105 (.lstore 6) 107 6, ip_n4 107 (.aload_n 0) 108 0, ip_n7 108 (.getfield 7) 111 11 1 2 102, ip_n4 111 (.iload_n 1) 112 1]
set_option maxRecDepth 100000 in
noncomputable def ip_d267_3 : List (Nat × ip_E) := [ip_n9 112 (.iconst 3) 113 0 0 0 0 (.int 3) [], ip_n4 113 .iadd 114 0, ip_n4 114 .iaload 115 0, ip_n4 115 .i2l 116 0, ip_n4 116 (.lload 4) 118 4, ip_n4 118 .lmul 119 0, ip_n4 119 (.lstore 8) 121 8, ip_n4 121 (.aload_n 0) 122 0, ip_n7 122 (.getfield 7) 125 11 1 2 102, ip_n4 125 (.iload_n 1) 126 1, ip_n4 126 .iaload 127 0, ip_n4 127 (.ifCond .ne 29) 130 156, ip_n4 130 (.aload_n 0) 131 0, ip_n7 131 (.getfield 7) 134 11 1 2 102, ip_n4 134 (.iload_n 1) 135 1, ip_n9 135 (.iconst 1) 136 0 0 0 0 (.int 1) [], ip_n4 136 .iadd 137 0, ip_n4 137 .iaload 138 0, ip_n4 138 (.ifCond .ne 18) 141 156, ip_n4 141 (.aload_n 0) 142 0, ip_n7 142 (.getfield 7) 145 11 1 2 102, ip_n4 145 (.iload_n 1) 146 1, ip_n9 146 (.iconst 2) 147 0 0 0 0 (.int 2) [], ip_n4 147 .iadd 148 0]
set_option maxRecDepth 100000 in
noncomputable def ip_d267_4 : List (Nat × ip_E) := [ip_n4 148 .iaload 149 0, ip_n4 149 (.ifCond .ne 7) 152 156, ip_n9 152 (.lconst 0) 153 0 0 0 0 (.long 0) [], ip_n4 153 (.goto 12) 156 165, ip_n4 156 (.aload_n 0) 157 0, ip_n7 157 (.getfield 58) 160 11 43 2 117, ip_n9 160 (.iconst 1) 161 0 0 0 0 (.int 1) [], ip_n4 161 .laload 162 0, ip_n4 162 (.lload 4) 164 4, ip_n4 164 .lmul 165 0, ip_n4 165 (.lstore 10) 167 10, ip_n4 167 (.aload_n 0) 168 0, ip_n7 168 (.getfield 7) 171 11 1 2 102, ip_n4 171 (.iload_n 1) 172 1, ip_n9 172 (.iconst 4) 173 0 0 0 0 (.int 4) [], ip_n4 173 .iadd 174 0, ip_n4 174 .iaload 175 0, ip_n4 175 (.ifCond .ne 30) 178 205, ip_n4 178 (.aload_n 0) 179 0, ip_n7 179 (.getfield 7) 182 11 1 2 102, ip_n4 182 (.iload_n 1) 183 1, ip_n9 183 (.iconst 5) 184 0 0 0 0 (.int 5) [], ip_n4 184 .iadd 185 0, ip_n4 185 .iaload 186 0]
set_option maxRecDepth 100000 in
noncomputable def ip_d267_5 : List (Nat × ip_E) := [ip_n4 186 (.ifCond .ne 19) 189 205, ip_n4 189 (.aload_n 0) 190 0, ip_n7 190 (.getfield 7) 193 11 1 2 102, ip_n4 193 (.iload_n 1) 194 1, ip_n9 194 (.bipush 6) 196 0 0 0 0 (.int 6) [], ip_n4 196 .iadd 197 0, ip_n4 197 .iaload 198 0, ip_n4 198 (.ifCond .ne 7) 201 205, ip_n9 201 (.lconst 0) 202 0 0 0 0 (.long 0) [], ip_n4 202 (.goto 12) 205 214, ip_n4 205 (.aload_n 0) 206 0, ip_n7 206 (.getfield 58) 209 11 43 2 117, ip_n9 209 (.iconst 2) 210 0 0 0 0 (.int 2) [], ip_n4 210 .laload 211 0, ip_n4 211 (.lload 6) 213 6, ip_n4 213 .lmul 214 0, ip_n4 214 (.lstore 12) 216 12, ip_n4 216 (.aload_n 0) 217 0, ip_n4 217 (.aload_n 0) 218 0, ip_n7 218 (.getfield 58) 221 11 43 2 117, ip_n9 221 (.iconst 0) 222 0 0 0 0 (.int 0) [], ip_n4 222 .laload 223 0, ip_n4 223 (.lload 8) 225 8, ip_n4 225 .lmul 226 0]
set_option maxRecDepth 100000 in
noncomputable def ip_d267_6 : List (Nat × ip_E) := [ip_n4 226 (.lload 10) 228 10, ip_n4 228 (.aload_n 0) 229 0, ip_n7 229 (.getfield 7) 232 11 1 2 102, ip_n4 232 (.iload_n 1) 233 1, ip_n4 233 .iaload 234 0, ip_n4 234 .i2l 235 0, ip_n4 235 .lmul 236 0, ip_n4 236 .ladd 237 0, ip_n4 237 (.lload 12) 239 12, ip_n4 239 (.aload_n 0) 240 0, ip_n7 240 (.getfield 7) 243 11 1 2 102, ip_n4 243 (.iload_n 1) 244 1, ip_n9 244 (.iconst 4) 245 0 0 0 0 (.int 4) [], ip_n4 245 .iadd 246 0, ip_n4 246 .iaload 247 0, ip_n4 247 .i2l 248 0, ip_n4 248 .lmul 249 0, ip_n4 249 .ladd 250 0, ip_n4 250 (.lload 10) 252 10, ip_n4 252 (.aload_n 0) 253 0, ip_n7 253 (.getfield 7) 256 11 1 2 102, ip_n4 256 (.iload_n 1) 257 1, ip_n9 257 (.iconst 1) 258 0 0 0 0 (.int 1) [], ip_n4 258 .iadd 259 0]
set_option maxRecDepth 100000 in
noncomputable def ip_d267_7 : List (Nat × ip_E) := [ip_n4 259 .iaload 260 0, ip_n4 260 .i2l 261 0, ip_n4 261 .lmul 262 0, ip_n4 262 (.lload 12) 264 12, ip_n4 264 (.aload_n 0) 265 0, ip_n7 265 (.getfield 7) 268 11 1 2 102, ip_n4 268 (.iload_n 1) 269 1, ip_n9 269 (.iconst 5) 270 0 0 0 0 (.int 5) [], ip_n4 270 .iadd 271 0, ip_n4 271 .iaload 272 0, ip_n4 272 .i2l 273 0, ip_n4 273 .lmul 274 0, ip_n4 274 .ladd 275 0, ip_n4 275 (.lload 10) 277 10, ip_n4 277 (.aload_n 0) 278 0, ip_n7 278 (.getfield 7) 281 11 1 2 102, ip_n4 281 (.iload_n 1) 282 1, ip_n9 282 (.iconst 2) 283 0 0 0 0 (.int 2) [], ip_n4 283 .iadd 284 0, ip_n4 284 .iaload 285 0, ip_n4 285 .i2l 286 0, ip_n4 286 .lmul 287 0, ip_n4 287 (.lload 12) 289 12, ip_n4 289 (.aload_n 0) 290 0]
set_option maxRecDepth 100000 in
noncomputable def ip_d267_8 : List (Nat × ip_E) := [ip_n7 290 (.getfield 7) 293 11 1 2 102, ip_n4 293 (.iload_n 1) 294 1, ip_n9 294 (.bipush 6) 296 0 0 0 0 (.int 6) [], ip_n4 296 .iadd 297 0, ip_n4 297 .iaload 298 0, ip_n4 298 .i2l 299 0, ip_n4 299 .lmul 300 0, ip_n4 300 .ladd 301 0, ip_n4 301 (.lload 8) 303 8, ip_n7 303 (.invokevirtual 160) 306 188 5 1 197, ip_n4 306 (.aload_n 0) 307 0, ip_n7 307 (.invokevirtual 229) 310 190 1 1 214, ip_n7 310 .ireturn 311 0 0 3 0]
set_option maxRecDepth 100000 in
noncomputable def ip_c267 : List (Nat × ip_E) := ip_d267_0 ++ (ip_d267_1 ++ (ip_d267_2 ++ (ip_d267_3 ++ (ip_d267_4 ++ (ip_d267_5 ++ (ip_d267_6 ++ (ip_d267_7 ++ (ip_d267_8))))))))
set_option maxRecDepth 100000 in
noncomputable def ip_d268_0 : List (Nat × ip_E) := [ip_n4 0 (.aload_n 0) 1 0, ip_n9 1 (.iconst 0) 2 0 0 0 0 (.int 0) [], ip_n7 2 (.putfield 77) 5 11 0 0 124, ip_n4 5 (.aload_n 0) 6 0, ip_n7 6 (.invokevirtual 398) 9 260 1 1 245, ip_n4 9 (.ifCond .eq 19) 12 28, ip_n4 12 (.iload_n 1) 13 1, ip_n9 13 (.iconst 0) 14 0 0 0 0 (.int 0) [], ip_n9 14 (.iconst 3) 15 0 0 0 0 (.int 3) [], ip_n7 15 (.invokestatic 96) 18 166 3 0 185, ip_n4 18 (.ifCond .eq 10) 21 28, ip_n4 21 (.aload_n 0) 22 0, ip_n7 22 (.invokevirtual 415) 25 267 1 1 250, ip_n4 25 (.ifCond .ne 7) 28 32, ip_n9 28 (.ldc_w 352) 31 0 0 0 1568 (.int (-2147483648)) [], ip_n4 31 .ireturn 32 0, ip_n4 32 (.iload_n 1) 33 1, ip_n4 33 (.ifCond .ne 10) 36 43, ip_n4 36 (.aload_n 0) 37 0, ip_n7 37 (.getfield 139) 40 11 13 1 125, ip_n4 40 (.goto 31) 43 71, ip_n4 43 (.iload_n 1) 44 1, ip_n9 44 (.iconst 1) 45 0 0 0 0 (.int 1) [], ip_n4 45 (.if_icmp .ne 10) 48 55]
set_option maxRecDepth 100000 in
noncomputable def ip_d268_1 : List (Nat × ip_E) := [ip_n4 48 (.aload_n 0) 49 0, ip_n7 49 (.getfield 143) 52 11 14 1 126, ip_n4 52 (.goto 19) 55 71, ip_n4 55 (.iload_n 1) 56 1, ip_n9 56 (.iconst 2) 57 0 0 0 0 (.int 2) [], ip_n4 57 (.if_icmp .ne 10) 60 67, ip_n4 60 (.aload_n 0) 61 0, ip_n7 61 (.getfield 146) 64 11 15 1 127, ip_n4 64 (.goto 7) 67 71, ip_n4 67 (.aload_n 0) 68 0, ip_n7 68 (.getfield 149) 71 11 16 1 128, ip_n4 71 .l2i 72 0, ip_n4 72 .ireturn 73 0]
set_option maxRecDepth 100000 in
noncomputable def ip_c268 : List (Nat × ip_E) := ip_d268_0 ++ (ip_d268_1)
set_option maxRecDepth 100000 in
noncomputable def ip_c269 : List (Nat × ip_E) := [ip_n4 0 (.aload_n 0) 1 0, ip_n7 1 (.getfield 58) 4 11 43 2 117, ip_n9 4 (.iconst 4) 5 0 0 0 0 (.int 4) [], ip_n4 5 (.iload_n 1) 6 1, ip_n4 6 .imul 7 0, ip_n4 7 .laload 8 0, ip_n4 8 (.aload_n 0) 9 0, ip_n7 9 (.getfield 58) 12 11 43 2 117, ip_n9 12 (.iconst 4) 13 0 0 0 0 (.int 4) [], ip_n4 13 (.iload_n 2) 14 2, ip_n4 14 .imul 15 0, ip_n4 15 .laload 16 0, ip_n4 16 .lmul 17 0, ip_n4 17 (.aload_n 0) 18 0, ip_n7 18 (.getfield 58) 21 11 43 2 117, ip_n9 21 (.iconst 3) 22 0 0 0 0 (.int 3) [], ip_n4 22 (.iload_n 1) 23 1, ip_n4 23 .imul 24 0, ip_n4 24 (.iload_n 2) 25 2, ip_n4 25 .iadd 26 0, ip_n4 26 .laload 27 0, ip_n4 27 (.aload_n 0) 28 0, ip_n7 28 (.getfield 58) 31 11 43 2 117, ip_n9 31 (.iconst 3) 32 0 0 0 0 (.int 3) [], ip_n4 32 (.iload_n 2) 33 2, ip_n4 33 .imul 34 0, ip_n4 34 (.iload_n 1) 35 1, ip_n4 35 .iadd 36 0, ip_n4 36 .laload 37 0, ip_n4 37 .lmul 38 0, ip_n4 38 .lsub 39 0, ip_n4 39 .lreturn 40 0]
set_option maxRecDepth 100000 in
noncomputable def ip_d270_0 : List (Nat × ip_E) := [ip_n4 0 (.aload_n 0) 1 0, ip_n9 1 (.iconst 0) 2 0 0 0 0 (.int 0) [], ip_n7 2 (.putfield 77) 5 11 0 0 124, ip_n4 5 (.aload_n 0) 6 0, ip_n7 6 (.invokevirtual 398) 9 260 1 1 245, ip_n4 9 (.ifCond .eq 19) 12 28, ip_n4 12 (.iload_n 1) 13 1, ip_n9 13 (.iconst 0) 14 0 0 0 0 (.int 0) [], ip_n9 14 (.iconst 2) 15 0 0 0 0 (.int 2) [], ip_n7 15 (.invokestatic 96) 18 166 3 0 185, ip_n4 18 (.ifCond .eq 10) 21 28, ip_n4 21 (.aload_n 0) 22 0, ip_n7 22 (.invokevirtual 407) 25 264 1 1 248, ip_n4 25 (.ifCond .ne 7) 28 32, ip_n9 28 (.ldc2_w 353) 31 0 0 0 1573 (.long (-9223372036854775808)) [], ip_n4 31 .lreturn 32 0, ip_n9 32 (.iconst 0) 33 0 0 0 0 (.int 0) [], ip_n4 33 (.istore_n 2) 34 2, ip_n4 34 (.iload_n 2) 35 2, ip_n9 35 (.bipush 9) 37 0 0 0 0 (.int 9) [], ip_n4 37 (.if_icmp .ge 26) 40 63, ip_n4 40 (.aload_n 0) 41 0, ip_n7 41 (.getfield 58) 44 11 43 2 117, ip_n4 44 (.iload_n 2) 45 2]
set_option maxRecDepth 100000 in
noncomputable def ip_d270_1 : List (Nat × ip_E) := [ip_n4 45 .laload 46 0, ip_n9 46 (.ldc2_w 371) 49 0 0 0 1632 (.long 1000000000) [], ip_n4 49 .lcmp 50 0, ip_n4 50 (.ifCond .le 7) 53 57, ip_n9 53 (.ldc2_w 353) 56 0 0 0 1573 (.long (-9223372036854775808)) [], ip_n4 56 .lreturn 57 0, ip_n9 57 (.iinc 2 1) 60 2 0 0 0 (.int 1) [], ip_n4 60 (.goto (-26)) 63 34, ip_n4 63 (.iload_n 1) 64 1, ip_n4 64 (.ifCond .ne 25) 67 89, ip_n4 67 (.aload_n 0) 68 0, ip_n7 68 (.getfield 58) 71 11 43 2 117, ip_n9 71 (.iconst 0) 72 0 0 0 0 (.int 0) [], ip_n4 72 .laload 73 0, ip_n4 73 (.aload_n 0) 74 0, ip_n7 74 (.getfield 58) 77 11 43 2 117, ip_n9 77 (.iconst 4) 78 0 0 0 0 (.int 4) [], ip_n4 78 .laload 79 0, ip_n4 79 .ladd 80 0, ip_n4 80 (.aload_n 0) 81 0, ip_n7 81 (.getfield 58) 84 11 43 2 117, ip_n9 84 (.bipush 8) 86 0 0 0 0 (.int 8) [], ip_n4 86 .laload 87 0, ip_n4 87 .ladd 88 0]
set_option maxRecDepth 100000 in
noncomputable def ip_d270_2 : List (Nat × ip_E) := [ip_n4 88 .lreturn 89 0, ip_n4 89 (.iload_n 1) 90 1, ip_n9 90 (.iconst 1) 91 0 0 0 0 (.int 1) [], ip_n4 91 (.if_icmp .ne 26) 94 117, ip_n4 94 (.aload_n 0) 95 0, ip_n9 95 (.iconst 0) 96 0 0 0 0 (.int 0) [], ip_n9 96 (.iconst 1) 97 0 0 0 0 (.int 1) [], ip_n7 97 (.invokevirtual 418) 100 269 3 1 251, ip_n4 100 (.aload_n 0) 101 0, ip_n9 101 (.iconst 0) 102 0 0 0 0 (.int 0) [], ip_n9 102 (.iconst 2) 103 0 0 0 0 (.int 2) [], ip_n7 103 (.invokevirtual 418) 106 269 3 1 251, ip_n4 106 .ladd 107 0, ip_n4 107 (.aload_n 0) 108 0, ip_n9 108 (.iconst 1) 109 0 0 0 0 (.int 1) [], ip_n9 109 (.iconst 2) 110 0 0 0 0 (.int 2) [], ip_n7 110 (.invokevirtual 418) 113 269 3 1 251, ip_n4 113 .ladd 114 0, ip_n4 114 (.goto 33) 117 147, ip_n4 117 (.aload_n 0) 118 0, ip_n4 118 (.aload_n 0) 119 0, ip_n7 119 (.getfield 7) 122 11 1 2 102, ip_n9 122 (.bipush 6) 124 0 0 0 0 (.int 6) [], ip_n4 124 .iaload 125 0]
set_option maxRecDepth 100000 in
noncomputable def ip_d270_3 : List (Nat × ip_E) := [ip_n4 125 (.aload_n 0) 126 0, ip_n7 126 (.getfield 7) 129 11 1 2 102, ip_n9 129 (.bipush 6) 131 0 0 0 0 (.int 6) [], ip_n4 131 .iaload 132 0, ip_n4 132 (.aload_n 0) 133 0, ip_n7 133 (.getfield 7) 136 11 1 2 102, ip_n9 136 (.bipush 7) 138 0 0 0 0 (.int 7) [], ip_n4 138 .iaload 139 0, ip_n4 139 .iadd 140 0, ip_n7 140 (.invokevirtual 355) 143 243 3 1 235, ip_n7 143 (.invokestatic 358) 146 244 1 0 236, ip_n4 146 .i2l 147 0, ip_n4 147 .lreturn 148 0]
set_option maxRecDepth 100000 in
noncomputable def ip_c270 : List (Nat × ip_E) := ip_d270_0 ++ (ip_d270_1 ++ (ip_d270_2 ++ (ip_d270_3)))
set_option maxRecDepth 100000 in
noncomputable def ip_d271_0 : List (Nat × ip_E) := [ip_n4 0 (.aload_n 0) 1 0, ip_n9 1 (.iconst 0) 2 0 0 0 0 (.int 0) [], ip_n9 2 (.iconst 3) 3 0 0 0 0 (.int 3) [], ip_n7 3 (.invokevirtual 249) 6 208 3 1 218, ip_n4 6 .i2l 7 0, ip_n4 7 (.lstore 4) 9 4, ip_n4 9 (.aload_n 0) 10 0, ip_n9 10 (.iconst 0) 11 0 0 0 0 (.int 0) [], ip_n9 11 (.bipush 7) 13 0 0 0 0 (.int 7) [], ip_n7 13 (.invokevirtual 249) 16 208 3 1 218, ip_n4 16 .i2l 17 0, ip_n4 17 (.lstore 6) 19 6, ip_n4 19 (.iload_n 1) 20 1, ip_n4 20 .i2l 21 0, ip_n4 21 (.lload 4) 23 4, ip_n4 23 .lmul 24 0, ip_n4 24 (.lload 6) 26 6, ip_n4 26 .lmul 27 0, ip_n4 27 (.iload_n 2) 28 2, ip_n4 28 (.aload_n 0) 29 0, ip_n9 29 (.iconst 0) 30 0 0 0 0 (.int 0) [], ip_n9 30 (.iconst 0) 31 0 0 0 0 (.int 0) [], ip_n7 31 (.invokevirtual 249) 34 208 3 1 218, ip_n4 34 .imul 35 0]
set_option maxRecDepth 100000 in
noncomputable def ip_d271_1 : List (Nat × ip_E) := [ip_n4 35 .i2l 36 0, ip_n4 36 (.lload 6) 38 6, ip_n4 38 .lmul 39 0, ip_n4 39 .ladd 40 0, ip_n4 40 (.iload_n 3) 41 3, ip_n4 41 (.aload_n 0) 42 0, ip_n9 42 (.iconst 0) 43 0 0 0 0 (.int 0) [], ip_n9 43 (.iconst 4) 44 0 0 0 0 (.int 4) [], ip_n7 44 (.invokevirtual 249) 47 208 3 1 218, ip_n4 47 .imul 48 0, ip_n4 48 .i2l 49 0, ip_n4 49 (.lload 4) 51 4, ip_n4 51 .lmul 52 0, ip_n4 52 .ladd 53 0, ip_n9 53 (.lconst 0) 54 0 0 0 0 (.long 0) [], ip_n4 54 .lcmp 55 0, ip_n4 55 (.ifCond .ne 7) 58 62, ip_n9 58 (.iconst 1) 59 0 0 0 0 (.int 1) [], ip_n4 59 (.goto 4) 62 63, ip_n9 62 (.iconst 0) 63 0 0 0 0 (.int 0) [], ip_n4 63 (.istore 8) 65 8, ip_n4 65 (.iload 8) 67 8, ip_n4 67 (.ifCond .eq 37) 70 104, ip_n4 70 (.iload_n 2) 71 2]
set_option maxRecDepth 100000 in
noncomputable def ip_d271_2 : List (Nat × ip_E) := [ip_n4 71 (.aload_n 0) 72 0, ip_n9 72 (.iconst 0) 73 0 0 0 0 (.int 0) [], ip_n9 73 (.iconst 1) 74 0 0 0 0 (.int 1) [], ip_n7 74 (.invokevirtual 249) 77 208 3 1 218, ip_n4 77 .imul 78 0, ip_n4 78 .i2l 79 0, ip_n4 79 (.lload 6) 81 6, ip_n4 81 .lmul 82 0, ip_n4 82 (.iload_n 3) 83 3, ip_n4 83 (.aload_n 0) 84 0, ip_n9 84 (.iconst 0) 85 0 0 0 0 (.int 0) [], ip_n9 85 (.iconst 5) 86 0 0 0 0 (.int 5) [], ip_n7 86 (.invokevirtual 249) 89 208 3 1 218, ip_n4 89 .imul 90 0, ip_n4 90 .i2l 91 0, ip_n4 91 (.lload 4) 93 4, ip_n4 93 .lmul 94 0, ip_n4 94 .ladd 95 0, ip_n9 95 (.lconst 0) 96 0 0 0 0 (.long 0) [], ip_n4 96 .lcmp 97 0, ip_n4 97 (.ifCond .ne 7) 100 104, ip_n9 100 (.iconst 1) 101 0 0 0 0 (.int 1) [], ip_n4 101 (.goto 4) 104 105, ip_n9 104 (.iconst 0) 105 0 0 0 0 (.int 0) []]
set_option maxRecDepth 100000 in
noncomputable def ip_d271_3 : List (Nat × ip_E) := [ip_n4 105 (.istore 8) 107 8, ip_n4 107 (.iload 8) 109 8, ip_n4 109 (.ifCond .eq 38) 112 147, ip_n4 112 (.iload_n 2) 113 2, ip_n4 113 (.aload_n 0) 114 0, ip_n9 114 (.iconst 0) 115 0 0 0 0 (.int 0) [], ip_n9 115 (.iconst 2) 116 0 0 0 0 (.int 2) [], ip_n7 116 (.invokevirtual 249) 119 208 3 1 218, ip_n4 119 .imul 120 0, ip_n4 120 .i2l 121 0, ip_n4 121 (.lload 6) 123 6, ip_n4 123 .lmul 124 0, ip_n4 124 (.iload_n 3) 125 3, ip_n4 125 (.aload_n 0) 126 0, ip_n9 126 (.iconst 0) 127 0 0 0 0 (.int 0) [], ip_n9 127 (.bipush 6) 129 0 0 0 0 (.int 6) [], ip_n7 129 (.invokevirtual 249) 132 208 3 1 218, ip_n4 132 .imul 133 0, ip_n4 133 .i2l 134 0, ip_n4 134 (.lload 4) 136 4, ip_n4 136 .lmul 137 0, ip_n4 137 .ladd 138 0, ip_n9 138 (.lconst 0) 139 0 0 0 0 (.long 0) [], ip_n4 139 .lcmp 140 0]
set_option maxRecDepth 100000 in
noncomputable def ip_d271_4 : List (Nat × ip_E) := [ip_n4 140 (.ifCond .ne 7) 143 147, ip_n9 143 (.iconst 1) 144 0 0 0 0 (.int 1) [], ip_n4 144 (.goto 4) 147 148, ip_n9 147 (.iconst 0) 148 0 0 0 0 (.int 0) [], ip_n7 148 .ireturn 149 0 0 3 0]
set_option maxRecDepth 100000 in
noncomputable def ip_c271 : List (Nat × ip_E) := ip_d271_0 ++ (ip_d271_1 ++ (ip_d271_2 ++ (ip_d271_3 ++ (ip_d271_4))))
set_option maxRecDepth 100000 in
noncomputable def ip_d272_0 : List (Nat × ip_E) := [ip_n4 0 (.aload_n 0) 1 0, ip_n9 1 (.iconst 0) 2 0 0 0 0 (.int 0) [], ip_n7 2 (.putfield 77) 5 11 0 0 124, ip_n4 5 (.aload_n 0) 6 0, ip_n7 6 (.getfield 7) 9 11 1 2 102, ip_n9 9 (.iconst 3) 10 0 0 0 0 (.int 3) [], ip_n4 10 .iaload 11 0, ip_n9 11 (.iconst 1) 12 0 0 0 0 (.int 1) [], ip_n4 12 (.if_icmp .ne 56) 15 68, ip_n4 15 (.iload_n 1) 16 1, ip_n9 16 (.sipush (-999)) 19 0 0 0 0 (.int (-999)) [], ip_n9 19 (.sipush 999) 22 0 0 0 0 (.int 999) [], ip_n7 22 (.invokestatic 96) 25 166 3 0 185, ip_n4 25 (.ifCond .eq 43) 28 68, ip_n4 28 (.iload_n 2) 29 2, ip_n9 29 (.sipush (-999)) 32 0 0 0 0 (.int (-999)) [], ip_n9 32 (.sipush 999) 35 0 0 0 0 (.int 999) [], ip_n7 35 (.invokestatic 96) 38 166 3 0 185, ip_n4 38 (.ifCond .eq 30) 41 68, ip_n4 41 (.iload_n 3) 42 3, ip_n9 42 (.sipush (-999)) 45 0 0 0 0 (.int (-999)) [], ip_n9 45 (.sipush 999) 48 0 0 0 0 (.int 999) [], ip_n7 48 (.invokestatic 96) 51 166 3 0 185, ip_n4 51 (.ifCond .eq 17) 54 68]
set_option maxRecDepth 100000 in
noncomputable def ip_d272_1 : List (Nat × ip_E) := [ip_n4 54 (.aload_n 0) 55 0, ip_n4 55 (.iload_n 1) 56 1, ip_n4 56 (.iload_n 2) 57 2, ip_n4 57 (.iload_n 3) 58 3, ip_n7 58 (.invokevirtual 421) 61 271 4 1 252, ip_n4 61 (.ifCond .eq 7) 64 68, ip_n9 64 (.iconst 1) 65 0 0 0 0 (.int 1) [], ip_n4 65 (.goto 4) 68 69, ip_n9 68 (.iconst 0) 69 0 0 0 0 (.int 0) [], ip_n7 69 .ireturn 70 0 0 3 0]
set_option maxRecDepth 100000 in
noncomputable def ip_c272 : List (Nat × ip_E) := ip_d272_0 ++ (ip_d272_1)
set_option maxRecDepth 100000 in
noncomputable def ip_c273 : List (Nat × ip_E) := [ip_n4 0 (.iload_n 0) 1 0, ip_n4 1 (.ifCond .ge 8) 4 9, ip_n4 4 (.iload_n 0) 5 0, ip_n4 5 .ineg 6 0, ip_n4 6 (.goto 4) 9 10, ip_n4 9 (.iload_n 0) 10 0, ip_n4 10 .ireturn 11 0]
set_option maxRecDepth 100000 in
noncomputable def ip_d274_0 : List (Nat × ip_E) := [ip_n4 0 (.aload_n 0) 1 0, ip_n9 1 (.iconst 0) 2 0 0 0 0 (.int 0) [], ip_n7 2 (.putfield 77) 5 11 0 0 124, ip_n4 5 (.aload_n 0) 6 0, ip_n7 6 (.getfield 7) 9 11 1 2 102, ip_n9 9 (.iconst 3) 10 0 0 0 0 (.int 3) [], ip_n4 10 .iaload 11 0, ip_n4 11 (.ifCond .eq 22) 14 33, ip_n4 14 (.iload_n 1) 15 1, ip_n9 15 (.iconst 1) 16 0 0 0 0 (.int 1) [], ip_n9 16 (.bipush 9) 18 0 0 0 0 (.int 9) [], ip_n7 18 (.invokestatic 96) 21 166 3 0 185, ip_n4 21 (.ifCond .eq 12) 24 33, ip_n4 24 (.iload_n 2) 25 2, ip_n9 25 (.iconst 0) 26 0 0 0 0 (.int 0) [], ip_n9 26 (.iconst 2) 27 0 0 0 0 (.int 2) [], ip_n7 27 (.invokestatic 96) 30 166 3 0 185, ip_n4 30 (.ifCond .ne 7) 33 37, ip_n9 33 (.ldc_w 352) 36 0 0 0 1568 (.int (-2147483648)) [], ip_n4 36 .ireturn 37 0, ip_n9 37 (.sipush 1000) 40 0 0 0 0 (.int 1000) [], ip_n4 40 (.istore_n 3) 41 3, ip_n9 41 (.ldc_w 352) 44 0 0 0 1568 (.int (-2147483648)) [], ip_n4 44 (.istore 4) 46 4]
set_option maxRecDepth 100000 in
noncomputable def ip_d274_1 : List (Nat × ip_E) := [ip_n4 46 (.iload_n 1) 47 1, ip_n4 47 .ineg 48 0, ip_n4 48 (.istore 5) 50 5, ip_n4 50 (.iload 5) 52 5, ip_n4 52 (.iload_n 1) 53 1, ip_n4 53 (.if_icmp .gt 113) 56 166, ip_n4 56 (.iload_n 1) 57 1, ip_n4 57 .ineg 58 0, ip_n4 58 (.istore 6) 60 6, ip_n4 60 (.iload 6) 62 6, ip_n4 62 (.iload_n 1) 63 1, ip_n4 63 (.if_icmp .gt 97) 66 160, ip_n4 66 (.iload_n 1) 67 1, ip_n4 67 .ineg 68 0, ip_n4 68 (.istore 7) 70 7, ip_n4 70 (.iload 7) 72 7, ip_n4 72 (.iload_n 1) 73 1, ip_n4 73 (.if_icmp .gt 81) 76 154, ip_n4 76 (.iload 5) 78 5, ip_n7 78 (.invokestatic 424) 81 273 1 0 253, ip_n4 81 (.iload 6) 83 6, ip_n7 83 (.invokestatic 424) 86 273 1 0 253, ip_n4 86 .iadd 87 0, ip_n4 87 (.iload 7) 89 7]
set_option maxRecDepth 100000 in
noncomputable def ip_d274_2 : List (Nat × ip_E) := [ip_n7 89 (.invokestatic 424) 92 273 1 0 253, ip_n4 92 .iadd 93 0, ip_n4 93 (.istore 8) 95 8, ip_n4 95 (.iload 8) 97 8, ip_n4 97 (.ifCond .eq 51) 100 148, ip_n4 100 (.iload 8) 102 8, ip_n4 102 (.iload_n 3) 103 3, ip_n4 103 (.if_icmp .ge 45) 106 148, ip_n4 106 (.aload_n 0) 107 0, ip_n4 107 (.iload 5) 109 5, ip_n4 109 (.iload 6) 111 6, ip_n4 111 (.iload 7) 113 7, ip_n7 113 (.invokevirtual 421) 116 271 4 1 252, ip_n4 116 (.ifCond .ne 6) 119 122, ip_n4 119 (.goto 29) 122 148, ip_n4 122 (.iload 8) 124 8, ip_n4 124 (.istore_n 3) 125 3, ip_n4 125 (.iload_n 2) 126 2, ip_n4 126 (.ifCond .ne 8) 129 134, ip_n4 129 (.iload 5) 131 5, ip_n4 131 (.goto 15) 134 146, ip_n4 134 (.iload_n 2) 135 2, ip_n9 135 (.iconst 1) 136 0 0 0 0 (.int 1) [], ip_n4 136 (.if_icmp .ne 8) 139 144]
set_option maxRecDepth 100000 in
noncomputable def ip_d274_3 : List (Nat × ip_E) := [ip_n4 139 (.iload 6) 141 6, ip_n4 141 (.goto 5) 144 146, ip_n4 144 (.iload 7) 146 7, ip_n4 146 (.istore 4) 148 4, ip_n9 148 (.iinc 7 1) 151 7 0 0 0 (.int 1) [], ip_n4 151 (.goto (-81)) 154 70, ip_n9 154 (.iinc 6 1) 157 6 0 0 0 (.int 1) [], ip_n4 157 (.goto (-97)) 160 60, ip_n9 160 (.iinc 5 1) 163 5 0 0 0 (.int 1) [], ip_n4 163 (.goto (-113)) 166 50, ip_n4 166 (.iload 4) 168 4, ip_n4 168 .ireturn 169 0]
set_option maxRecDepth 100000 in
noncomputable def ip_c274 : List (Nat × ip_E) := ip_d274_0 ++ (ip_d274_1 ++ (ip_d274_2 ++ (ip_d274_3)))
set_option maxRecDepth 100000 in
noncomputable def ip_c275 : List (Nat × ip_E) := [ip_n4 0 (.aload_n 0) 1 0, ip_n9 1 (.iconst 0) 2 0 0 0 0 (.int 0) [], ip_n7 2 (.putfield 77) 5 11 0 0 124, ip_n4 5 (.iload_n 1) 6 1, ip_n9 6 (.iconst 0) 7 0 0 0 0 (.int 0) [], ip_n4 7 (.aload_n 0) 8 0, ip_n7 8 (.getfield 7) 11 11 1 2 102, ip_n9 11 (.bipush 8) 13 0 0 0 0 (.int 8) [], ip_n4 13 .iaload 14 0, ip_n9 14 (.iconst 1) 15 0 0 0 0 (.int 1) [], ip_n4 15 .isub 16 0, ip_n7 16 (.invokestatic 96) 19 166 3 0 185, ip_n4 19 (.ifCond .eq 28) 22 47, ip_n4 22 (.iload_n 2) 23 2, ip_n9 23 (.iconst 0) 24 0 0 0 0 (.int 0) [], ip_n9 24 (.iconst 2) 25 0 0 0 0 (.int 2) [], ip_n7 25 (.invokestatic 96) 28 166 3 0 185, ip_n4 28 (.ifCond .eq 19) 31 47, ip_n4 31 (.aload_n 0) 32 0, ip_n7 32 (.getfield 7) 35 11 1 2 102, ip_n9 35 (.bipush 33) 37 0 0 0 0 (.int 33) [], ip_n9 37 (.iconst 3) 38 0 0 0 0 (.int 3) [], ip_n4 38 (.iload_n 1) 39 1, ip_n4 39 .imul 40 0, ip_n4 40 .iadd 41 0, ip_n4 41 (.iload_n 2) 42 2, ip_n4 42 .iadd 43 0, ip_n4 43 .iaload 44 0, ip_n4 44 (.goto 4) 47 48, ip_n9 47 (.iconst (-1)) 48 0 0 0 0 (.int (-1)) [], ip_n4 48 .ireturn 49 0]
set_option maxRecDepth 100000 in
noncomputable def ip_d276_0 : List (Nat × ip_E) := [ip_n4 0 (.aload_n 0) 1 0, ip_n9 1 (.iconst 0) 2 0 0 0 0 (.int 0) [], ip_n7 2 (.putfield 77) 5 11 0 0 124, ip_n4 5 (.aload_n 0) 6 0, ip_n7 6 (.getfield 7) 9 11 1 2 102, ip_n9 9 (.bipush 8) 11 0 0 0 0 (.int 8) [], ip_n4 11 .iaload 12 0, ip_n4 12 (.ifCond .eq 21) 15 33, ip_n4 15 (.iload_n 1) 16 1, ip_n9 16 (.iconst 0) 17 0 0 0 0 (.int 0) [], ip_n9 17 (.iconst 2) 18 0 0 0 0 (.int 2) [], ip_n7 18 (.invokestatic 96) 21 166 3 0 185, ip_n4 21 (.ifCond .eq 12) 24 33, ip_n4 24 (.iload_n 2) 25 2, ip_n9 25 (.iconst 0) 26 0 0 0 0 (.int 0) [], ip_n9 26 (.iconst 2) 27 0 0 0 0 (.int 2) [], ip_n7 27 (.invokestatic 96) 30 166 3 0 185, ip_n4 30 (.ifCond .ne 7) 33 37, ip_n9 33 (.ldc2_w 353) 36 0 0 0 1573 (.long (-9223372036854775808)) [], ip_n4 36 .lreturn 37 0, ip_n4 37 (.aload_n 0) 38 0, ip_n7 38 (.invokevirtual 401) 41 262 1 1 246, ip_n9 41 (.iconst 0) 42 0 0 0 0 (.int 0) [], ip_n4 42 (.istore_n 3) 43 3]
set_option maxRecDepth 100000 in
noncomputable def ip_d276_1 : List (Nat × ip_E) := [ip_n4 43 (.iload_n 3) 44 3, ip_n4 44 (.aload_n 0) 45 0, ip_n7 45 (.getfield 7) 48 11 1 2 102, ip_n9 48 (.bipush 8) 50 0 0 0 0 (.int 8) [], ip_n4 50 .iaload 51 0, ip_n4 51 (.if_icmp .ge 19) 54 70, ip_n4 54 (.aload_n 0) 55 0, ip_n9 55 (.bipush 33) 57 0 0 0 0 (.int 33) [], ip_n9 57 (.iconst 3) 58 0 0 0 0 (.int 3) [], ip_n4 58 (.iload_n 3) 59 3, ip_n4 59 .imul 60 0, ip_n4 60 .iadd 61 0, ip_n7 61 (.invokevirtual 404) 64 263 2 1 247, ip_n9 64 (.iinc 3 1) 67 3 0 0 0 (.int 1) [], ip_n4 67 (.goto (-24)) 70 43, ip_n4 70 (.aload_n 0) 71 0, ip_n7 71 (.getfield 285) 74 11 29 3 141, ip_n4 74 (.ifCond .eq 9) 77 83, ip_n9 77 (.ldc2_w 353) 80 0 0 0 1573 (.long (-9223372036854775808)) [], ip_n4 80 (.goto 13) 83 93, ip_n4 83 (.aload_n 0) 84 0, ip_n7 84 (.getfield 58) 87 11 43 2 117, ip_n9 87 (.iconst 3) 88 0 0 0 0 (.int 3) [], ip_n4 88 (.iload_n 1) 89 1]
set_option maxRecDepth 100000 in
noncomputable def ip_d276_2 : List (Nat × ip_E) := [ip_n4 89 .imul 90 0, ip_n4 90 (.iload_n 2) 91 2, ip_n4 91 .iadd 92 0, ip_n4 92 .laload 93 0, ip_n4 93 .lreturn 94 0]
set_option maxRecDepth 100000 in
noncomputable def ip_c276 : List (Nat × ip_E) := ip_d276_0 ++ (ip_d276_1 ++ (ip_d276_2))
set_option maxRecDepth 100000 in
noncomputable def ip_d277_0 : List (Nat × ip_E) := [ip_n9 0 (.iconst 0) 1 0 0 0 0 (.int 0) [], ip_n4 1 (.istore_n 1) 2 1, ip_n4 2 (.iload_n 1) 3 1, ip_n4 3 (.aload_n 0) 4 0, ip_n7 4 (.getfield 7) 7 11 1 2 102, ip_n9 7 (.bipush 8) 9 0 0 0 0 (.int 8) [], ip_n4 9 .iaload 10 0, ip_n4 10 (.if_icmp .ge 101) 13 111, ip_n9 13 (.bipush 33) 15 0 0 0 0 (.int 33) [], ip_n9 15 (.iconst 3) 16 0 0 0 0 (.int 3) [], ip_n4 16 (.iload_n 1) 17 1, ip_n4 17 .imul 18 0, ip_n4 18 .iadd 19 0, ip_n4 19 (.istore_n 2) 20 2, ip_n4 20 (.aload_n 0) 21 0, ip_n7 21 (.getfield 7) 24 11 1 2 102, ip_n4 24 (.iload_n 2) 25 2, ip_n9 25 (.iconst 2) 26 0 0 0 0 (.int 2) [], ip_n4 26 .iadd 27 0, ip_n4 27 .iaload 28 0, ip_n9 28 (.iconst 1) 29 0 0 0 0 (.int 1) [], ip_n4 29 (.if_icmp .ne 5) 32 34, ip_n9 32 (.iconst 0) 33 0 0 0 0 (.int 0) [], ip_n7 33 .ireturn 34 0 0 3 0]
set_option maxRecDepth 100000 in
noncomputable def ip_d277_1 : List (Nat × ip_E) := [ip_n4 34 (.iload_n 1) 35 1, ip_n4 35 (.ifCond .le 34) 38 69, ip_n4 38 (.aload_n 0) 39 0, ip_n7 39 (.getfield 7) 42 11 1 2 102, ip_n4 42 (.iload_n 2) 43 2, ip_n9 43 (.iconst 1) 44 0 0 0 0 (.int 1) [], ip_n4 44 .iadd 45 0, ip_n4 45 .iaload 46 0, ip_n9 46 (.iconst 1) 47 0 0 0 0 (.int 1) [], ip_n4 47 (.if_icmp .lt 20) 50 67, ip_n4 50 (.aload_n 0) 51 0, ip_n7 51 (.getfield 7) 54 11 1 2 102, ip_n4 54 (.iload_n 2) 55 2, ip_n4 55 .iaload 56 0, ip_n4 56 (.aload_n 0) 57 0, ip_n7 57 (.getfield 7) 60 11 1 2 102, ip_n4 60 (.iload_n 2) 61 2, ip_n9 61 (.iconst 1) 62 0 0 0 0 (.int 1) [], ip_n4 62 .iadd 63 0, ip_n4 63 .iaload 64 0, ip_n4 64 (.if_icmp .le 5) 67 69, ip_n9 67 (.iconst 0) 68 0 0 0 0 (.int 0) [], ip_n7 68 .ireturn 69 0 0 3 0, ip_n4 69 (.iload_n 1) 70 1]
set_option maxRecDepth 100000 in
noncomputable def ip_d277_2 : List (Nat × ip_E) := [ip_n9 70 (.iconst 1) 71 0 0 0 0 (.int 1) [], ip_n4 71 (.if_icmp .le 34) 74 105, ip_n4 74 (.aload_n 0) 75 0, ip_n7 75 (.getfield 7) 78 11 1 2 102, ip_n4 78 (.iload_n 2) 79 2, ip_n9 79 (.iconst 3) 80 0 0 0 0 (.int 3) [], ip_n4 80 .isub 81 0, ip_n4 81 .iaload 82 0, ip_n4 82 (.aload_n 0) 83 0, ip_n7 83 (.getfield 7) 86 11 1 2 102, ip_n4 86 (.iload_n 2) 87 2, ip_n9 87 (.iconst 2) 88 0 0 0 0 (.int 2) [], ip_n4 88 .isub 89 0, ip_n4 89 .iaload 90 0, ip_n4 90 (.if_icmp .ne 15) 93 105, ip_n4 93 (.aload_n 0) 94 0, ip_n7 94 (.getfield 7) 97 11 1 2 102, ip_n4 97 (.iload_n 2) 98 2, ip_n4 98 .iaload 99 0, ip_n9 99 (.iconst 1) 100 0 0 0 0 (.int 1) [], ip_n4 100 (.if_icmp .ge 5) 103 105, ip_n9 103 (.iconst 0) 104 0 0 0 0 (.int 0) [], ip_n7 104 .ireturn 105 0 0 3 0, ip_n9 105 (.iinc 1 1) 108 1 0 0 0 (.int 1) []]
set_option maxRecDepth 100000 in
noncomputable def ip_d277_3 : List (Nat × ip_E) := [ip_n4 108 (.goto (-106)) 111 2, ip_n9 111 (.iconst 1) 112 0 0 0 0 (.int 1) [], ip_n7 112 .ireturn 113 0 0 3 0]
set_option maxRecDepth 100000 in
noncomputable def ip_c277 : List (Nat × ip_E) := ip_d277_0 ++ (ip_d277_1 ++ (ip_d277_2 ++ (ip_d277_3)))
set_option maxRecDepth 100000 in
noncomputable def ip_d278_0 : List (Nat × ip_E) := [ip_n4 0 (.aload_n 0) 1 0, ip_n7 1 (.getfield 7) 4 11 1 2 102, ip_n9 4 (.iconst 3) 5 0 0 0 0 (.int 3) [], ip_n4 5 .iaload 6 0, ip_n4 6 (.ifCond .eq 13) 9 19, ip_n4 9 (.iload_n 1) 10 1, ip_n4 10 (.aload_n 0) 11 0, ip_n7 11 (.getfield 7) 14 11 1 2 102, ip_n9 14 (.iconst 5) 15 0 0 0 0 (.int 5) [], ip_n4 15 .iaload 16 0, ip_n4 16 (.if_icmp .lt 5) 19 21, ip_n9 19 (.iconst 0) 20 0 0 0 0 (.int 0) [], ip_n7 20 .ireturn 21 0 0 3 0, ip_n9 21 (.iconst 0) 22 0 0 0 0 (.int 0) [], ip_n4 22 (.istore_n 2) 23 2, ip_n4 23 (.iload_n 2) 24 2, ip_n9 24 (.iconst 3) 25 0 0 0 0 (.int 3) [], ip_n4 25 (.if_icmp .ge 41) 28 66, ip_n4 28 (.aload_n 0) 29 0, ip_n7 29 (.getfield 7) 32 11 1 2 102, ip_n9 32 (.bipush 33) 34 0 0 0 0 (.int 33) [], ip_n9 34 (.iconst 3) 35 0 0 0 0 (.int 3) [], ip_n4 35 (.iload_n 1) 36 1, ip_n4 36 .imul 37 0]
set_option maxRecDepth 100000 in
noncomputable def ip_d278_1 : List (Nat × ip_E) := [ip_n4 37 .iadd 38 0, ip_n4 38 (.iload_n 2) 39 2, ip_n4 39 .iadd 40 0, ip_n4 40 .iaload 41 0, ip_n4 41 (.aload_n 0) 42 0, ip_n7 42 (.getfield 7) 45 11 1 2 102, ip_n9 45 (.sipush 641) 48 0 0 0 0 (.int 641) [], ip_n9 48 (.iconst 3) 49 0 0 0 0 (.int 3) [], ip_n4 49 (.iload_n 1) 50 1, ip_n4 50 .imul 51 0, ip_n4 51 .iadd 52 0, ip_n4 52 (.iload_n 2) 53 2, ip_n4 53 .iadd 54 0, ip_n4 54 .iaload 55 0, ip_n4 55 (.if_icmp .eq 5) 58 60, ip_n9 58 (.iconst 0) 59 0 0 0 0 (.int 0) [], ip_n7 59 .ireturn 60 0 0 3 0, ip_n9 60 (.iinc 2 1) 63 2 0 0 0 (.int 1) [], ip_n4 63 (.goto (-40)) 66 23, ip_n9 66 (.iconst 1) 67 0 0 0 0 (.int 1) [], ip_n7 67 .ireturn 68 0 0 3 0]
set_option maxRecDepth 100000 in
noncomputable def ip_c278 : List (Nat × ip_E) := ip_d278_0 ++ (ip_d278_1)
set_option maxRecDepth 100000 in
noncomputable def ip_d279_0 : List (Nat × ip_E) := [ip_n4 0 (.aload_n 0) 1 0, ip_n9 1 (.iconst 0) 2 0 0 0 0 (.int 0) [], ip_n7 2 (.putfield 77) 5 11 0 0 124, ip_n4 5 (.aload_n 0) 6 0, ip_n7 6 (.getfield 7) 9 11 1 2 102, ip_n9 9 (.bipush 8) 11 0 0 0 0 (.int 8) [], ip_n4 11 .iaload 12 0, ip_n4 12 (.ifCond .eq 12) 15 24, ip_n4 15 (.iload_n 1) 16 1, ip_n9 16 (.iconst 0) 17 0 0 0 0 (.int 0) [], ip_n9 17 (.iconst 1) 18 0 0 0 0 (.int 1) [], ip_n7 18 (.invokestatic 96) 21 166 3 0 185, ip_n4 21 (.ifCond .ne 5) 24 26, ip_n9 24 (.iconst (-1)) 25 0 0 0 0 (.int (-1)) [], ip_n4 25 .ireturn 26 0, ip_n4 26 (.iload_n 1) 27 1, ip_n4 27 (.ifCond .ne 16) 30 43, ip_n4 30 (.aload_n 0) 31 0, ip_n7 31 (.invokevirtual 427) 34 277 1 1 254, ip_n4 34 (.ifCond .eq 7) 37 41, ip_n9 37 (.iconst 1) 38 0 0 0 0 (.int 1) [], ip_n4 38 (.goto 4) 41 42, ip_n9 41 (.iconst 0) 42 0 0 0 0 (.int 0) [], ip_n4 42 .ireturn 43 0]
set_option maxRecDepth 100000 in
noncomputable def ip_d279_1 : List (Nat × ip_E) := [ip_n9 43 (.iconst 0) 44 0 0 0 0 (.int 0) [], ip_n4 44 (.istore_n 2) 45 2, ip_n4 45 (.iload_n 2) 46 2, ip_n4 46 (.aload_n 0) 47 0, ip_n7 47 (.getfield 7) 50 11 1 2 102, ip_n9 50 (.bipush 8) 52 0 0 0 0 (.int 8) [], ip_n4 52 .iaload 53 0, ip_n4 53 (.if_icmp .ge 17) 56 70, ip_n4 56 (.aload_n 0) 57 0, ip_n4 57 (.iload_n 2) 58 2, ip_n7 58 (.invokevirtual 430) 61 278 2 1 255, ip_n4 61 (.ifCond .eq 9) 64 70, ip_n9 64 (.iinc 2 1) 67 2 0 0 0 (.int 1) [], ip_n4 67 (.goto (-22)) 70 45, ip_n4 70 (.iload_n 2) 71 2, ip_n4 71 .ireturn 72 0]
set_option maxRecDepth 100000 in
noncomputable def ip_c279 : List (Nat × ip_E) := ip_d279_0 ++ (ip_d279_1)
set_option maxRecDepth 100000 in
noncomputable def ip_c280 : List (Nat × ip_E) := [ip_n4 0 (.aload_n 0) 1 0, ip_n7 1 (.getfield 7) 4 11 1 2 102, ip_n9 4 (.iconst 0) 5 0 0 0 0 (.int 0) [], ip_n4 5 (.iload_n 1) 6 1, ip_n4 6 .iastore 7 0, ip_n4 7 (.aload_n 0) 8 0, ip_n7 8 (.getfield 7) 11 11 1 2 102, ip_n9 11 (.iconst 1) 12 0 0 0 0 (.int 1) [], ip_n4 12 (.iload_n 2) 13 2, ip_n4 13 .iastore 14 0, ip_n4 14 (.aload_n 0) 15 0, ip_n7 15 (.getfield 7) 18 11 1 2 102, ip_n9 18 (.iconst 2) 19 0 0 0 0 (.int 2) [], ip_n4 19 (.iload_n 3) 20 3, ip_n4 20 .iastore 21 0, ip_n4 21 (.aload_n 0) 22 0, ip_n9 22 (.bipush (-5)) 24 0 0 0 0 (.int (-5)) [], ip_n7 24 (.invokevirtual 86) 27 167 2 1 182, ip_n4 27 .ireturn 28 0]
set_option maxRecDepth 100000 in
noncomputable def ip_d281_0 : List (Nat × ip_E) := [ip_n4 0 (.aload_n 0) 1 0, ip_n7 1 (.getfield 58) 4 11 43 2 117, ip_n9 4 (.iconst 4) 5 0 0 0 0 (.int 4) [], ip_n4 5 .laload 6 0, ip_n4 6 (.aload_n 0) 7 0, ip_n7 7 (.getfield 58) 10 11 43 2 117, ip_n9 10 (.bipush 8) 12 0 0 0 0 (.int 8) [], ip_n4 12 .laload 13 0, ip_n4 13 .lmul 14 0, ip_n4 14 (.aload_n 0) 15 0, ip_n7 15 (.getfield 58) 18 11 43 2 117, ip_n9 18 (.iconst 5) 19 0 0 0 0 (.int 5) [], ip_n4 19 .laload 20 0, ip_n4 20 (.aload_n 0) 21 0, ip_n7 21 (.getfield 58) 24 11 43 2 117, ip_n9 24 (.bipush 7) 26 0 0 0 0 (.int 7) [], ip_n4 26 .laload 27 0, ip_n4 27 .lmul 28 0, ip_n4 28 .lsub 29 0, ip_n4 29 (.lstore_n 1) 30 1, ip_n4 30 (.aload_n 0) 31 0, ip_n7 31 (.getfield 58) 34 11 43 2 117, ip_n9 34 (.iconst 4) 35 0 0 0 0 (.int 4) [], ip_n4 35 .laload 36 0]
set_option maxRecDepth 100000 in
noncomputable def ip_d281_1 : List (Nat × ip_E) := [ip_n4 36 .lneg 37 0, ip_n4 37 (.aload_n 0) 38 0, ip_n7 38 (.getfield 58) 41 11 43 2 117, ip_n9 41 (.bipush 8) 43 0 0 0 0 (.int 8) [], ip_n4 43 .laload 44 0, ip_n4 44 .lsub 45 0, ip_n4 45 (.lstore_n 3) 46 3, ip_n4 46 (.aload_n 0) 47 0, ip_n4 47 (.aload_n 0) 48 0, ip_n7 48 (.getfield 58) 51 11 43 2 117, ip_n9 51 (.iconst 5) 52 0 0 0 0 (.int 5) [], ip_n4 52 .laload 53 0, ip_n4 53 (.aload_n 0) 54 0, ip_n7 54 (.getfield 58) 57 11 43 2 117, ip_n9 57 (.bipush 6) 59 0 0 0 0 (.int 6) [], ip_n4 59 .laload 60 0, ip_n4 60 .lmul 61 0, ip_n4 61 (.aload_n 0) 62 0, ip_n7 62 (.getfield 58) 65 11 43 2 117, ip_n9 65 (.iconst 3) 66 0 0 0 0 (.int 3) [], ip_n4 66 .laload 67 0, ip_n4 67 (.aload_n 0) 68 0, ip_n7 68 (.getfield 58) 71 11 43 2 117, ip_n9 71 (.bipush 8) 73 0 0 0 0 (.int 8) []]
set_option maxRecDepth 100000 in
noncomputable def ip_d281_2 : List (Nat × ip_E) := [ip_n4 73 .laload 74 0, ip_n4 74 .lmul 75 0, ip_n4 75 .lsub 76 0, ip_n4 76 (.aload_n 0) 77 0, ip_n7 77 (.getfield 58) 80 11 43 2 117, ip_n9 80 (.iconst 3) 81 0 0 0 0 (.int 3) [], ip_n4 81 .laload 82 0, ip_n9 82 (.lconst 0) 83 0 0 0 0 (.long 0) [], ip_n9 83 (.lconst 1) 84 0 0 0 0 (.long 1) [], ip_n4 84 (.lload_n 1) 85 1, ip_n4 85 (.lload_n 3) 86 3, ip_n9 86 (.lconst 1) 87 0 0 0 0 (.long 1) [], ip_n9 87 (.lconst 1) 88 0 0 0 0 (.long 1) [], ip_n7 88 (.invokevirtual 219) 91 192 9 1 211, ip_n4 91 (.aload_n 0) 92 0, ip_n7 92 (.invokevirtual 229) 95 190 1 1 214, ip_n4 95 (.ifCond .ne 5) 98 100, ip_n9 98 (.iconst 0) 99 0 0 0 0 (.int 0) [], ip_n7 99 .ireturn 100 0 0 3 0, ip_n4 100 (.aload_n 0) 101 0, ip_n7 101 (.getfield 61) 104 11 44 2 118, ip_n9 104 (.iconst 0) 105 0 0 0 0 (.int 0) [], ip_n4 105 (.aload_n 0) 106 0, ip_n7 106 (.getfield 139) 109 11 13 1 125]
set_option maxRecDepth 100000 in
noncomputable def ip_d281_3 : List (Nat × ip_E) := [ip_n4 109 .l2i 110 0, ip_n4 110 .iastore 111 0, ip_n4 111 (.aload_n 0) 112 0, ip_n7 112 (.getfield 61) 115 11 44 2 118, ip_n9 115 (.iconst 1) 116 0 0 0 0 (.int 1) [], ip_n4 116 (.aload_n 0) 117 0, ip_n7 117 (.getfield 143) 120 11 14 1 126, ip_n4 120 .l2i 121 0, ip_n4 121 .iastore 122 0, ip_n4 122 (.aload_n 0) 123 0, ip_n7 123 (.getfield 61) 126 11 44 2 118, ip_n9 126 (.iconst 2) 127 0 0 0 0 (.int 2) [], ip_n4 127 (.aload_n 0) 128 0, ip_n7 128 (.getfield 146) 131 11 15 1 127, ip_n4 131 .l2i 132 0, ip_n4 132 .iastore 133 0, ip_n4 133 (.aload_n 0) 134 0, ip_n7 134 (.getfield 61) 137 11 44 2 118, ip_n9 137 (.iconst 3) 138 0 0 0 0 (.int 3) [], ip_n4 138 (.aload_n 0) 139 0, ip_n7 139 (.getfield 149) 142 11 16 1 128, ip_n4 142 .l2i 143 0, ip_n4 143 .iastore 144 0, ip_n4 144 (.aload_n 0) 145 0]
set_option maxRecDepth 100000 in
noncomputable def ip_d281_4 : List (Nat × ip_E) := [ip_n4 145 (.aload_n 0) 146 0, ip_n7 146 (.getfield 58) 149 11 43 2 117, ip_n9 149 (.bipush 7) 151 0 0 0 0 (.int 7) [], ip_n4 151 .laload 152 0, ip_n4 152 (.aload_n 0) 153 0, ip_n7 153 (.getfield 58) 156 11 43 2 117, ip_n9 156 (.iconst 3) 157 0 0 0 0 (.int 3) [], ip_n4 157 .laload 158 0, ip_n4 158 .lmul 159 0, ip_n4 159 (.aload_n 0) 160 0, ip_n7 160 (.getfield 58) 163 11 43 2 117, ip_n9 163 (.bipush 6) 165 0 0 0 0 (.int 6) [], ip_n4 165 .laload 166 0, ip_n4 166 (.aload_n 0) 167 0, ip_n7 167 (.getfield 58) 170 11 43 2 117, ip_n9 170 (.iconst 4) 171 0 0 0 0 (.int 4) [], ip_n4 171 .laload 172 0, ip_n4 172 .lmul 173 0, ip_n4 173 .lsub 174 0, ip_n4 174 (.aload_n 0) 175 0, ip_n7 175 (.getfield 58) 178 11 43 2 117, ip_n9 178 (.bipush 6) 180 0 0 0 0 (.int 6) [], ip_n4 180 .laload 181 0, ip_n9 181 (.lconst 0) 182 0 0 0 0 (.long 0) []]
set_option maxRecDepth 100000 in
noncomputable def ip_d281_5 : List (Nat × ip_E) := [ip_n9 182 (.lconst 1) 183 0 0 0 0 (.long 1) [], ip_n4 183 (.lload_n 1) 184 1, ip_n4 184 (.lload_n 3) 185 3, ip_n9 185 (.lconst 1) 186 0 0 0 0 (.long 1) [], ip_n9 186 (.lconst 1) 187 0 0 0 0 (.long 1) [], ip_n7 187 (.invokevirtual 219) 190 192 9 1 211, ip_n4 190 (.aload_n 0) 191 0, ip_n7 191 (.invokevirtual 229) 194 190 1 1 214, ip_n7 194 .ireturn 195 0 0 3 0]
set_option maxRecDepth 100000 in
noncomputable def ip_c281 : List (Nat × ip_E) := ip_d281_0 ++ (ip_d281_1 ++ (ip_d281_2 ++ (ip_d281_3 ++ (ip_d281_4 ++ (ip_d281_5)))))
set_option maxRecDepth 100000 in
noncomputable def ip_c282 : List (Nat × ip_E) := [ip_n4 0 (.aload_n 0) 1 0, ip_n7 1 (.invokevirtual 401) 4 262 1 1 246, ip_n9 4 (.iconst 0) 5 0 0 0 0 (.int 0) [], ip_n4 5 (.istore_n 1) 6 1, ip_n4 6 (.iload_n 1) 7 1, ip_n4 7 (.aload_n 0) 8 0, ip_n7 8 (.getfield 7) 11 11 1 2 102, ip_n9 11 (.bipush 8) 13 0 0 0 0 (.int 8) [], ip_n4 13 .iaload 14 0, ip_n4 14 (.if_icmp .ge 19) 17 33, ip_n4 17 (.aload_n 0) 18 0, ip_n9 18 (.bipush 33) 20 0 0 0 0 (.int 33) [], ip_n9 20 (.iconst 3) 21 0 0 0 0 (.int 3) [], ip_n4 21 (.iload_n 1) 22 1, ip_n4 22 .imul 23 0, ip_n4 23 .iadd 24 0, ip_n7 24 (.invokevirtual 404) 27 263 2 1 247, ip_n9 27 (.iinc 1 1) 30 1 0 0 0 (.int 1) [], ip_n4 30 (.goto (-24)) 33 6, ip_n4 33 (.aload_n 0) 34 0, ip_n7 34 (.getfield 285) 37 11 29 3 141, ip_n4 37 (.ifCond .ne 7) 40 44, ip_n9 40 (.iconst 1) 41 0 0 0 0 (.int 1) [], ip_n4 41 (.goto 4) 44 45, ip_n9 44 (.iconst 0) 45 0 0 0 0 (.int 0) [], ip_n7 45 .ireturn 46 0 0 3 0]
set_option maxRecDepth 100000 in
noncomputable def ip_c283 : List (Nat × ip_E) := [ip_n9 0 (.iconst 0) 1 0 0 0 0 (.int 0) [], ip_n4 1 (.istore_n 1) 2 1, ip_n9 2 (.iconst 0) 3 0 0 0 0 (.int 0) [], ip_n4 3 (.istore_n 2) 4 2, ip_n4 4 (.iload_n 2) 5 2, ip_n4 5 (.aload_n 0) 6 0, ip_n7 6 (.getfield 7) 9 11 1 2 102, ip_n9 9 (.bipush 8) 11 0 0 0 0 (.int 8) [], ip_n4 11 .iaload 12 0, ip_n4 12 (.if_icmp .ge 25) 15 37, ip_n4 15 (.iload_n 1) 16 1, ip_n4 16 (.aload_n 0) 17 0, ip_n7 17 (.getfield 7) 20 11 1 2 102, ip_n9 20 (.bipush 33) 22 0 0 0 0 (.int 33) [], ip_n9 22 (.iconst 3) 23 0 0 0 0 (.int 3) [], ip_n4 23 (.iload_n 2) 24 2, ip_n4 24 .imul 25 0, ip_n4 25 .iadd 26 0, ip_n9 26 (.iconst 2) 27 0 0 0 0 (.int 2) [], ip_n4 27 .iadd 28 0, ip_n4 28 .iaload 29 0, ip_n4 29 .iadd 30 0, ip_n4 30 (.istore_n 1) 31 1, ip_n9 31 (.iinc 2 1) 34 2 0 0 0 (.int 1) [], ip_n4 34 (.goto (-30)) 37 4, ip_n4 37 (.iload_n 1) 38 1, ip_n4 38 .ireturn 39 0]
set_option maxRecDepth 100000 in
noncomputable def ip_d284_0 : List (Nat × ip_E) := [ip_n4 0 (.aload_n 0) 1 0, ip_n9 1 (.iconst 0) 2 0 0 0 0 (.int 0) [], ip_n7 2 (.putfield 77) 5 11 0 0 124, ip_n4 5 (.aload_n 0) 6 0, ip_n7 6 (.getfield 7) 9 11 1 2 102, ip_n9 9 (.bipush 8) 11 0 0 0 0 (.int 8) [], ip_n4 11 .iaload 12 0, ip_n4 12 (.ifCond .ne 10) 15 22, ip_n4 15 (.aload_n 0) 16 0, ip_n9 16 (.bipush (-4)) 18 0 0 0 0 (.int (-4)) [], ip_n7 18 (.invokevirtual 86) 21 167 2 1 182, ip_n4 21 .ireturn 22 0, ip_n4 22 (.aload_n 0) 23 0, ip_n7 23 (.invokevirtual 433) 26 282 1 1 256, ip_n4 26 (.istore_n 1) 27 1, ip_n9 27 (.iconst 0) 28 0 0 0 0 (.int 0) [], ip_n4 28 (.istore_n 2) 29 2, ip_n4 29 (.iload_n 2) 30 2, ip_n9 30 (.bipush 9) 32 0 0 0 0 (.int 9) [], ip_n4 32 (.if_icmp .ge 32) 35 64, ip_n4 35 (.iload_n 1) 36 1, ip_n4 36 (.ifCond .eq 20) 39 56, ip_n4 39 (.aload_n 0) 40 0, ip_n7 40 (.getfield 58) 43 11 43 2 117]
set_option maxRecDepth 100000 in
noncomputable def ip_d284_1 : List (Nat × ip_E) := [ip_n4 43 (.iload_n 2) 44 2, ip_n4 44 .laload 45 0, ip_n9 45 (.ldc2_w 436) 48 0 0 0 1750 (.long 99) [], ip_n4 48 .lcmp 49 0, ip_n4 49 (.ifCond .gt 7) 52 56, ip_n9 52 (.iconst 1) 53 0 0 0 0 (.int 1) [], ip_n4 53 (.goto 4) 56 57, ip_n9 56 (.iconst 0) 57 0 0 0 0 (.int 0) [], ip_n4 57 (.istore_n 1) 58 1, ip_n9 58 (.iinc 2 1) 61 2 0 0 0 (.int 1) [], ip_n4 61 (.goto (-32)) 64 29, ip_n4 64 (.iload_n 1) 65 1, ip_n4 65 (.ifCond .ne 10) 68 75, ip_n4 68 (.aload_n 0) 69 0, ip_n9 69 (.bipush (-5)) 71 0 0 0 0 (.int (-5)) [], ip_n7 71 (.invokevirtual 86) 74 167 2 1 182, ip_n4 74 .ireturn 75 0, ip_n4 75 (.aload_n 0) 76 0, ip_n7 76 (.getfield 58) 79 11 43 2 117, ip_n9 79 (.iconst 0) 80 0 0 0 0 (.int 0) [], ip_n4 80 .laload 81 0, ip_n4 81 (.aload_n 0) 82 0, ip_n7 82 (.getfield 58) 85 11 43 2 117, ip_n9 85 (.iconst 4) 86 0 0 0 0 (.int 4) []]
set_option maxRecDepth 100000 in
noncomputable def ip_d284_2 : List (Nat × ip_E) := [ip_n4 86 .laload 87 0, ip_n4 87 .ladd 88 0, ip_n4 88 (.aload_n 0) 89 0, ip_n7 89 (.getfield 58) 92 11 43 2 117, ip_n9 92 (.bipush 8) 94 0 0 0 0 (.int 8) [], ip_n4 94 .laload 95 0, ip_n4 95 .ladd 96 0, ip_n4 96 .l2i 97 0, ip_n4 97 (.istore_n 2) 98 2, ip_n4 98 (.aload_n 0) 99 0, ip_n9 99 (.iconst 0) 100 0 0 0 0 (.int 0) [], ip_n9 100 (.iconst 1) 101 0 0 0 0 (.int 1) [], ip_n7 101 (.invokevirtual 418) 104 269 3 1 251, ip_n4 104 (.aload_n 0) 105 0, ip_n9 105 (.iconst 0) 106 0 0 0 0 (.int 0) [], ip_n9 106 (.iconst 2) 107 0 0 0 0 (.int 2) [], ip_n7 107 (.invokevirtual 418) 110 269 3 1 251, ip_n4 110 .ladd 111 0, ip_n4 111 (.aload_n 0) 112 0, ip_n9 112 (.iconst 1) 113 0 0 0 0 (.int 1) [], ip_n9 113 (.iconst 2) 114 0 0 0 0 (.int 2) [], ip_n7 114 (.invokevirtual 418) 117 269 3 1 251, ip_n4 117 .ladd 118 0, ip_n4 118 .l2i 119 0]
set_option maxRecDepth 100000 in
noncomputable def ip_d284_3 : List (Nat × ip_E) := [ip_n4 119 (.istore_n 3) 120 3, ip_n4 120 (.aload_n 0) 121 0, ip_n7 121 (.invokevirtual 438) 124 283 1 1 257, ip_n7 124 (.invokestatic 358) 127 244 1 0 236, ip_n4 127 (.istore 4) 129 4, ip_n4 129 (.iload_n 2) 130 2, ip_n9 130 (.bipush (-3)) 132 0 0 0 0 (.int (-3)) [], ip_n9 132 (.iconst 3) 133 0 0 0 0 (.int 3) [], ip_n7 133 (.invokestatic 96) 136 166 3 0 185, ip_n4 136 (.ifCond .eq 24) 139 160, ip_n4 139 (.iload_n 3) 140 3, ip_n9 140 (.bipush (-3)) 142 0 0 0 0 (.int (-3)) [], ip_n9 142 (.iconst 3) 143 0 0 0 0 (.int 3) [], ip_n7 143 (.invokestatic 96) 146 166 3 0 185, ip_n4 146 (.ifCond .eq 14) 149 160, ip_n4 149 (.iload_n 2) 150 2, ip_n4 150 (.iload_n 3) 151 3, ip_n4 151 .ineg 152 0, ip_n4 152 (.iload 4) 154 4, ip_n7 154 (.invokestatic 192) 157 200 3 0 206, ip_n4 157 (.ifCond .ne 10) 160 167, ip_n4 160 (.aload_n 0) 161 0, ip_n9 161 (.bipush (-5)) 163 0 0 0 0 (.int (-5)) [], ip_n7 163 (.invokevirtual 86) 166 167 2 1 182]
set_option maxRecDepth 100000 in
noncomputable def ip_d284_4 : List (Nat × ip_E) := [ip_n4 166 .ireturn 167 0, ip_n4 167 (.aload_n 0) 168 0, ip_n7 168 (.getfield 7) 171 11 1 2 102, ip_n9 171 (.iconst 0) 172 0 0 0 0 (.int 0) [], ip_n4 172 .iaload 173 0, ip_n4 173 (.istore 5) 175 5, ip_n4 175 (.aload_n 0) 176 0, ip_n7 176 (.getfield 7) 179 11 1 2 102, ip_n9 179 (.iconst 1) 180 0 0 0 0 (.int 1) [], ip_n4 180 .iaload 181 0, ip_n4 181 (.istore 6) 183 6, ip_n4 183 (.aload_n 0) 184 0, ip_n7 184 (.getfield 7) 187 11 1 2 102, ip_n9 187 (.iconst 2) 188 0 0 0 0 (.int 2) [], ip_n4 188 .iaload 189 0, ip_n4 189 (.istore 7) 191 7, ip_n4 191 (.aload_n 0) 192 0, ip_n7 192 (.getfield 7) 195 11 1 2 102, ip_n9 195 (.iconst 0) 196 0 0 0 0 (.int 0) [], ip_n4 196 (.iload_n 2) 197 2, ip_n4 197 .iastore 198 0, ip_n4 198 (.aload_n 0) 199 0, ip_n7 199 (.getfield 7) 202 11 1 2 102, ip_n9 202 (.iconst 1) 203 0 0 0 0 (.int 1) []]
set_option maxRecDepth 100000 in
noncomputable def ip_d284_5 : List (Nat × ip_E) := [ip_n4 203 (.iload_n 3) 204 3, ip_n4 204 .ineg 205 0, ip_n4 205 .iastore 206 0, ip_n4 206 (.aload_n 0) 207 0, ip_n7 207 (.getfield 7) 210 11 1 2 102, ip_n9 210 (.iconst 2) 211 0 0 0 0 (.int 2) [], ip_n4 211 (.iload 4) 213 4, ip_n4 213 .iastore 214 0, ip_n4 214 (.aload_n 0) 215 0, ip_n7 215 (.invokevirtual 441) 218 281 1 1 258, ip_n4 218 (.istore_n 1) 219 1, ip_n4 219 (.iload_n 1) 220 1, ip_n4 220 (.ifCond .ne 14) 223 234, ip_n4 223 (.aload_n 0) 224 0, ip_n4 224 (.iload 5) 226 5, ip_n4 226 (.iload 6) 228 6, ip_n4 228 (.iload 7) 230 7, ip_n7 230 (.invokevirtual 444) 233 280 4 1 259, ip_n4 233 .ireturn 234 0, ip_n4 234 (.aload_n 0) 235 0, ip_n4 235 (.aload_n 0) 236 0, ip_n7 236 (.getfield 139) 239 11 13 1 125, ip_n4 239 .l2i 240 0, ip_n4 240 (.aload_n 0) 241 0]
set_option maxRecDepth 100000 in
noncomputable def ip_d284_6 : List (Nat × ip_E) := [ip_n7 241 (.getfield 143) 244 11 14 1 126, ip_n4 244 .l2i 245 0, ip_n4 245 (.aload_n 0) 246 0, ip_n7 246 (.getfield 146) 249 11 15 1 127, ip_n4 249 .l2i 250 0, ip_n4 250 (.aload_n 0) 251 0, ip_n7 251 (.getfield 149) 254 11 16 1 128, ip_n4 254 .l2i 255 0, ip_n7 255 (.invokevirtual 447) 258 285 5 1 260, ip_n4 258 (.aload_n 0) 259 0, ip_n7 259 (.getfield 7) 262 11 1 2 102, ip_n9 262 (.iconst 0) 263 0 0 0 0 (.int 0) [], ip_n4 263 (.iload 5) 265 5, ip_n4 265 .iastore 266 0, ip_n4 266 (.aload_n 0) 267 0, ip_n7 267 (.getfield 7) 270 11 1 2 102, ip_n9 270 (.iconst 1) 271 0 0 0 0 (.int 1) [], ip_n4 271 (.iload 6) 273 6, ip_n4 273 .iastore 274 0, ip_n4 274 (.aload_n 0) 275 0, ip_n7 275 (.getfield 7) 278 11 1 2 102, ip_n9 278 (.iconst 2) 279 0 0 0 0 (.int 2) [], ip_n4 279 (.iload 7) 281 7, ip_n4 281 .iastore 282 0]
set_option maxRecDepth 100000 in
noncomputable def ip_d284_7 : List (Nat × ip_E) := [ip_n4 282 (.aload_n 0) 283 0, ip_n9 283 (.bipush 9) 285 0 0 0 0 (.int 9) [], ip_n7 285 (.invokevirtual 195) 288 170 2 1 207, ip_n4 288 (.aload_n 0) 289 0, ip_n4 289 (.iload_n 2) 290 2, ip_n4 290 (.iload_n 3) 291 3, ip_n4 291 .ineg 292 0, ip_n4 292 (.iload 4) 294 4, ip_n7 294 (.invokevirtual 73) 297 169 4 1 181, ip_n9 297 (.iconst 0) 298 0 0 0 0 (.int 0) [], ip_n4 298 (.istore 8) 300 8, ip_n4 300 (.iload 8) 302 8, ip_n9 302 (.iconst 4) 303 0 0 0 0 (.int 4) [], ip_n4 303 (.if_icmp .ge 43) 306 346, ip_n4 306 (.aload_n 0) 307 0, ip_n7 307 (.getfield 7) 310 11 1 2 102, ip_n9 310 (.bipush 9) 312 0 0 0 0 (.int 9) [], ip_n4 312 (.iload 8) 314 8, ip_n4 314 .iadd 315 0, ip_n4 315 (.aload_n 0) 316 0, ip_n7 316 (.getfield 61) 319 11 44 2 118, ip_n4 319 (.iload 8) 321 8, ip_n4 321 .iaload 322 0, ip_n4 322 .iastore 323 0]
set_option maxRecDepth 100000 in
noncomputable def ip_d284_8 : List (Nat × ip_E) := [ip_n4 323 (.aload_n 0) 324 0, ip_n7 324 (.getfield 7) 327 11 1 2 102, ip_n9 327 (.bipush 13) 329 0 0 0 0 (.int 13) [], ip_n4 329 (.iload 8) 331 8, ip_n4 331 .iadd 332 0, ip_n4 332 (.aload_n 0) 333 0, ip_n7 333 (.getfield 64) 336 11 45 2 119, ip_n4 336 (.iload 8) 338 8, ip_n4 338 .iaload 339 0, ip_n4 339 .iastore 340 0, ip_n9 340 (.iinc 8 1) 343 8 0 0 0 (.int 1) [], ip_n4 343 (.goto (-43)) 346 300, ip_n4 346 (.aload_n 0) 347 0, ip_n4 347 (.iload_n 2) 348 2, ip_n4 348 (.iload_n 3) 349 3, ip_n4 349 .ineg 350 0, ip_n4 350 (.iload 4) 352 4, ip_n7 352 (.invokestatic 188) 355 199 3 0 205, ip_n7 355 (.invokevirtual 93) 358 168 2 1 184, ip_n4 358 .ireturn 359 0]
set_option maxRecDepth 100000 in
noncomputable def ip_c284 : List (Nat × ip_E) := ip_d284_0 ++ (ip_d284_1 ++ (ip_d284_2 ++ (ip_d284_3 ++ (ip_d284_4 ++ (ip_d284_5 ++ (ip_d284_6 ++ (ip_d284_7 ++ (ip_d284_8))))))))
set_option maxRecDepth 100000 in
noncomputable def ip_c285 : List (Nat × ip_E) := [ip_n4 0 (.aload_n 0) 1 0, ip_n7 1 (.getfield 64) 4 11 45 2 119, ip_n9 4 (.iconst 0) 5 0 0 0 0 (.int 0) [], ip_n4 5 (.iload_n 1) 6 1, ip_n4 6 .iastore 7 0, ip_n4 7 (.aload_n 0) 8 0, ip_n7 8 (.getfield 64) 11 11 45 2 119, ip_n9 11 (.iconst 1) 12 0 0 0 0 (.int 1) [], ip_n4 12 (.iload_n 2) 13 2, ip_n4 13 .iastore 14 0, ip_n4 14 (.aload_n 0) 15 0, ip_n7 15 (.getfield 64) 18 11 45 2 119, ip_n9 18 (.iconst 2) 19 0 0 0 0 (.int 2) [], ip_n4 19 (.iload_n 3) 20 3, ip_n4 20 .iastore 21 0, ip_n4 21 (.aload_n 0) 22 0, ip_n7 22 (.getfield 64) 25 11 45 2 119, ip_n9 25 (.iconst 3) 26 0 0 0 0 (.int 3) [], ip_n4 26 (.iload 4) 28 4, ip_n4 28 .iastore 29 0, ip_n4 29 .return_ 30 0]
set_option maxRecDepth 100000 in
noncomputable def ip_c286 : List (Nat × ip_E) := [ip_n4 0 (.aload_n 0) 1 0, ip_n7 1 (.getfield 7) 4 11 1 2 102, ip_n9 4 (.iconst 5) 5 0 0 0 0 (.int 5) [], ip_n4 5 .iaload 6 0, ip_n9 6 (.bipush 60) 8 0 0 0 0 (.int 60) [], ip_n4 8 (.if_icmp .ge 38) 11 46, ip_n4 11 (.aload_n 0) 12 0, ip_n7 12 (.invokevirtual 307) 15 214 1 1 226, ip_n4 15 (.ifCond .eq 5) 18 20, ip_n9 18 (.iconst 1) 19 0 0 0 0 (.int 1) [], ip_n4 19 .ireturn 20 0, ip_n4 20 (.aload_n 0) 21 0, ip_n7 21 (.invokevirtual 310) 24 219 1 1 227, ip_n4 24 (.ifCond .ne 5) 27 29, ip_n9 27 (.iconst 3) 28 0 0 0 0 (.int 3) [], ip_n4 28 .ireturn 29 0, ip_n4 29 (.aload_n 0) 30 0, ip_n7 30 (.invokevirtual 313) 33 220 1 1 228, ip_n4 33 (.aload_n 0) 34 0, ip_n7 34 (.getfield 7) 37 11 1 2 102, ip_n9 37 (.bipush 6) 39 0 0 0 0 (.int 6) [], ip_n4 39 .iaload 40 0, ip_n9 40 (.iconst (-1)) 41 0 0 0 0 (.int (-1)) [], ip_n4 41 (.if_icmp .eq (-41)) 44 0, ip_n9 44 (.iconst 2) 45 0 0 0 0 (.int 2) [], ip_n4 45 .ireturn 46 0, ip_n9 46 (.iconst 0) 47 0 0 0 0 (.int 0) [], ip_n4 47 .ireturn 48 0]
set_option maxRecDepth 100000 in
noncomputable def ip_d287_0 : List (Nat × ip_E) := [ip_n4 0 (.aload_n 0) 1 0, ip_n9 1 (.iconst 0) 2 0 0 0 0 (.int 0) [], ip_n7 2 (.putfield 77) 5 11 0 0 124, ip_n4 5 (.iload_n 1) 6 1, ip_n7 6 (.invokestatic 202) 9 196 1 0 208, ip_n4 9 (.ifCond .eq 38) 12 47, ip_n4 12 (.iload_n 2) 13 2, ip_n7 13 (.invokestatic 202) 16 196 1 0 208, ip_n4 16 (.ifCond .eq 31) 19 47, ip_n4 19 (.iload_n 3) 20 3, ip_n9 20 (.iconst 0) 21 0 0 0 0 (.int 0) [], ip_n9 21 (.iconst 1) 22 0 0 0 0 (.int 1) [], ip_n7 22 (.invokestatic 96) 25 166 3 0 185, ip_n4 25 (.ifCond .eq 22) 28 47, ip_n4 28 (.iload 4) 30 4, ip_n9 30 (.iconst 0) 31 0 0 0 0 (.int 0) [], ip_n9 31 (.iconst 2) 32 0 0 0 0 (.int 2) [], ip_n7 32 (.invokestatic 96) 35 166 3 0 185, ip_n4 35 (.ifCond .eq 12) 38 47, ip_n4 38 (.aload_n 0) 39 0, ip_n4 39 (.iload_n 1) 40 1, ip_n4 40 (.iload_n 2) 41 2, ip_n7 41 (.invokevirtual 233) 44 210 3 1 215, ip_n4 44 (.ifCond .ne 7) 47 51]
set_option maxRecDepth 100000 in
noncomputable def ip_d287_1 : List (Nat × ip_E) := [ip_n9 47 (.ldc_w 352) 50 0 0 0 1568 (.int (-2147483648)) [], ip_n4 50 .ireturn 51 0, ip_n9 51 (.iconst 0) 52 0 0 0 0 (.int 0) [], ip_n4 52 (.istore 5) 54 5, ip_n4 54 (.iload 5) 56 5, ip_n9 56 (.sipush 821) 59 0 0 0 0 (.int 821) [], ip_n4 59 (.if_icmp .ge 23) 62 82, ip_n4 62 (.aload_n 0) 63 0, ip_n7 63 (.getfield 67) 66 11 46 2 120, ip_n4 66 (.iload 5) 68 5, ip_n4 68 (.aload_n 0) 69 0, ip_n7 69 (.getfield 7) 72 11 1 2 102, ip_n4 72 (.iload 5) 74 5, ip_n4 74 .iaload 75 0, ip_n4 75 .iastore 76 0, ip_n9 76 (.iinc 5 1) 79 5 0 0 0 (.int 1) [], ip_n4 79 (.goto (-25)) 82 54, ip_n9 82 (.iconst 0) 83 0 0 0 0 (.int 0) [], ip_n4 83 (.istore 5) 85 5, ip_n4 85 (.iload 5) 87 5, ip_n9 87 (.bipush 9) 89 0 0 0 0 (.int 9) [], ip_n4 89 (.if_icmp .ge 23) 92 112, ip_n4 92 (.aload_n 0) 93 0, ip_n7 93 (.getfield 70) 96 11 47 2 121]
set_option maxRecDepth 100000 in
noncomputable def ip_d287_2 : List (Nat × ip_E) := [ip_n4 96 (.iload 5) 98 5, ip_n4 98 (.aload_n 0) 99 0, ip_n7 99 (.getfield 13) 102 11 2 2 103, ip_n4 102 (.iload 5) 104 5, ip_n4 104 .laload 105 0, ip_n4 105 .lastore 106 0, ip_n9 106 (.iinc 5 1) 109 5 0 0 0 (.int 1) [], ip_n4 109 (.goto (-24)) 112 85, ip_n4 112 (.aload_n 0) 113 0, ip_n4 113 (.iload_n 1) 114 1, ip_n4 114 (.iload_n 2) 115 2, ip_n4 115 (.iload_n 3) 116 3, ip_n7 116 (.invokevirtual 237) 119 211 4 1 216, ip_n4 119 (.aload_n 0) 120 0, ip_n7 120 (.invokevirtual 451) 123 286 1 1 261, ip_n4 123 (.istore 5) 125 5, ip_n4 125 (.iload 4) 127 4, ip_n4 127 (.ifCond .ne 12) 130 139, ip_n4 130 (.aload_n 0) 131 0, ip_n7 131 (.getfield 7) 134 11 1 2 102, ip_n9 134 (.iconst 5) 135 0 0 0 0 (.int 5) [], ip_n4 135 .iaload 136 0, ip_n4 136 (.goto 36) 139 172, ip_n4 139 (.iload 4) 141 4]
set_option maxRecDepth 100000 in
noncomputable def ip_d287_3 : List (Nat × ip_E) := [ip_n9 141 (.iconst 1) 142 0 0 0 0 (.int 1) [], ip_n4 142 (.if_icmp .ne 8) 145 150, ip_n4 145 (.iload 5) 147 5, ip_n4 147 (.goto 25) 150 172, ip_n4 150 (.aload_n 0) 151 0, ip_n7 151 (.getfield 7) 154 11 1 2 102, ip_n9 154 (.bipush 6) 156 0 0 0 0 (.int 6) [], ip_n4 156 .iaload 157 0, ip_n9 157 (.iconst (-1)) 158 0 0 0 0 (.int (-1)) [], ip_n4 158 (.if_icmp .ne 7) 161 165, ip_n9 161 (.iconst (-1)) 162 0 0 0 0 (.int (-1)) [], ip_n4 162 (.goto 10) 165 172, ip_n4 165 (.aload_n 0) 166 0, ip_n7 166 (.getfield 7) 169 11 1 2 102, ip_n9 169 (.bipush 7) 171 0 0 0 0 (.int 7) [], ip_n4 171 .iaload 172 0, ip_n4 172 (.istore 6) 174 6, ip_n9 174 (.iconst 0) 175 0 0 0 0 (.int 0) [], ip_n4 175 (.istore 7) 177 7, ip_n4 177 (.iload 7) 179 7, ip_n9 179 (.sipush 821) 182 0 0 0 0 (.int 821) [], ip_n4 182 (.if_icmp .ge 23) 185 205, ip_n4 185 (.aload_n 0) 186 0, ip_n7 186 (.getfield 7) 189 11 1 2 102]
set_option maxRecDepth 100000 in
noncomputable def ip_d287_4 : List (Nat × ip_E) := [ip_n4 189 (.iload 7) 191 7, ip_n4 191 (.aload_n 0) 192 0, ip_n7 192 (.getfield 67) 195 11 46 2 120, ip_n4 195 (.iload 7) 197 7, ip_n4 197 .iaload 198 0, ip_n4 198 .iastore 199 0, ip_n9 199 (.iinc 7 1) 202 7 0 0 0 (.int 1) [], ip_n4 202 (.goto (-25)) 205 177, ip_n9 205 (.iconst 0) 206 0 0 0 0 (.int 0) [], ip_n4 206 (.istore 7) 208 7, ip_n4 208 (.iload 7) 210 7, ip_n9 210 (.bipush 9) 212 0 0 0 0 (.int 9) [], ip_n4 212 (.if_icmp .ge 23) 215 235, ip_n4 215 (.aload_n 0) 216 0, ip_n7 216 (.getfield 13) 219 11 2 2 103, ip_n4 219 (.iload 7) 221 7, ip_n4 221 (.aload_n 0) 222 0, ip_n7 222 (.getfield 70) 225 11 47 2 121, ip_n4 225 (.iload 7) 227 7, ip_n4 227 .laload 228 0, ip_n4 228 .lastore 229 0, ip_n9 229 (.iinc 7 1) 232 7 0 0 0 (.int 1) [], ip_n4 232 (.goto (-24)) 235 208, ip_n4 235 (.iload 6) 237 6]
set_option maxRecDepth 100000 in
noncomputable def ip_d287_5 : List (Nat × ip_E) := [ip_n4 237 .ireturn 238 0]
set_option maxRecDepth 100000 in
noncomputable def ip_c287 : List (Nat × ip_E) := ip_d287_0 ++ (ip_d287_1 ++ (ip_d287_2 ++ (ip_d287_3 ++ (ip_d287_4 ++ (ip_d287_5)))))
set_option maxRecDepth 100000 in
noncomputable def ip_d288_0 : List (Nat × ip_E) := [ip_n4 0 (.aload_n 0) 1 0, ip_n9 1 (.iconst 0) 2 0 0 0 0 (.int 0) [], ip_n7 2 (.putfield 77) 5 11 0 0 124, ip_n4 5 (.iload_n 1) 6 1, ip_n9 6 (.bipush 13) 8 0 0 0 0 (.int 13) [], ip_n9 8 (.bipush 18) 10 0 0 0 0 (.int 18) [], ip_n7 10 (.invokestatic 96) 13 166 3 0 185, ip_n4 13 (.ifCond .eq 13) 16 26, ip_n4 16 (.aload_n 0) 17 0, ip_n7 17 (.getfield 17) 20 11 5 2 104, ip_n4 20 (.iload_n 1) 21 1, ip_n9 21 (.bipush 12) 23 0 0 0 0 (.int 12) [], ip_n4 23 .isub 24 0, ip_n4 24 .iaload 25 0, ip_n4 25 .ireturn 26 0, ip_n4 26 (.iload_n 1) 27 1, ip_n9 27 (.tableswitch 201 0 12 #[65, 65, 65, 72, 94, 99, 106, 127, 134, 157, 183, 191, 196]) 92 228 12 65 0 (.int 0) [92, 92, 92, 99, 121, 126, 133, 154, 161, 184, 210, 218, 223], ip_n4 92 (.aload_n 0) 93 0, ip_n7 93 (.getfield 7) 96 11 1 2 102, ip_n4 96 (.iload_n 1) 97 1, ip_n4 97 .iaload 98 0, ip_n4 98 .ireturn 99 0, ip_n4 99 (.aload_n 0) 100 0, ip_n7 100 (.getfield 7) 103 11 1 2 102]
set_option maxRecDepth 100000 in
noncomputable def ip_d288_1 : List (Nat × ip_E) := [ip_n9 103 (.iconst 0) 104 0 0 0 0 (.int 0) [], ip_n4 104 .iaload 105 0, ip_n4 105 (.aload_n 0) 106 0, ip_n7 106 (.getfield 7) 109 11 1 2 102, ip_n9 109 (.iconst 1) 110 0 0 0 0 (.int 1) [], ip_n4 110 .iaload 111 0, ip_n4 111 (.aload_n 0) 112 0, ip_n7 112 (.getfield 7) 115 11 1 2 102, ip_n9 115 (.iconst 2) 116 0 0 0 0 (.int 2) [], ip_n4 116 .iaload 117 0, ip_n7 117 (.invokestatic 188) 120 199 3 0 205, ip_n4 120 .ireturn 121 0, ip_n4 121 (.aload_n 0) 122 0, ip_n7 122 (.getfield 199) 125 11 3 0 129, ip_n4 125 .ireturn 126 0, ip_n4 126 (.aload_n 0) 127 0, ip_n7 127 (.getfield 7) 130 11 1 2 102, ip_n9 130 (.iconst 3) 131 0 0 0 0 (.int 3) [], ip_n4 131 .iaload 132 0, ip_n4 132 .ireturn 133 0, ip_n4 133 (.aload_n 0) 134 0, ip_n7 134 (.getfield 7) 137 11 1 2 102, ip_n9 137 (.iconst 3) 138 0 0 0 0 (.int 3) [], ip_n4 138 .iaload 139 0]
set_option maxRecDepth 100000 in
noncomputable def ip_d288_2 : List (Nat × ip_E) := [ip_n9 139 (.iconst 1) 140 0 0 0 0 (.int 1) [], ip_n4 140 (.if_icmp .ne 12) 143 152, ip_n4 143 (.aload_n 0) 144 0, ip_n7 144 (.getfield 7) 147 11 1 2 102, ip_n9 147 (.iconst 4) 148 0 0 0 0 (.int 4) [], ip_n4 148 .iaload 149 0, ip_n4 149 (.goto 4) 152 153, ip_n9 152 (.iconst 0) 153 0 0 0 0 (.int 0) [], ip_n4 153 .ireturn 154 0, ip_n4 154 (.aload_n 0) 155 0, ip_n7 155 (.getfield 7) 158 11 1 2 102, ip_n9 158 (.iconst 5) 159 0 0 0 0 (.int 5) [], ip_n4 159 .iaload 160 0, ip_n4 160 .ireturn 161 0, ip_n4 161 (.aload_n 0) 162 0, ip_n7 162 (.getfield 7) 165 11 1 2 102, ip_n9 165 (.iconst 3) 166 0 0 0 0 (.int 3) [], ip_n4 166 .iaload 167 0, ip_n9 167 (.iconst 1) 168 0 0 0 0 (.int 1) [], ip_n4 168 (.if_icmp .ne 14) 171 182, ip_n4 171 (.aload_n 0) 172 0, ip_n7 172 (.invokevirtual 307) 175 214 1 1 226, ip_n4 175 (.ifCond .eq 7) 178 182, ip_n9 178 (.iconst 1) 179 0 0 0 0 (.int 1) []]
set_option maxRecDepth 100000 in
noncomputable def ip_d288_3 : List (Nat × ip_E) := [ip_n4 179 (.goto 4) 182 183, ip_n9 182 (.iconst 0) 183 0 0 0 0 (.int 0) [], ip_n4 183 .ireturn 184 0, ip_n4 184 (.aload_n 0) 185 0, ip_n7 185 (.getfield 7) 188 11 1 2 102, ip_n9 188 (.iconst 3) 189 0 0 0 0 (.int 3) [], ip_n4 189 .iaload 190 0, ip_n9 190 (.iconst 1) 191 0 0 0 0 (.int 1) [], ip_n4 191 (.if_icmp .ne 17) 194 208, ip_n4 194 (.aload_n 0) 195 0, ip_n9 195 (.iconst 0) 196 0 0 0 0 (.int 0) [], ip_n4 196 (.aload_n 0) 197 0, ip_n7 197 (.getfield 7) 200 11 1 2 102, ip_n9 200 (.iconst 5) 201 0 0 0 0 (.int 5) [], ip_n4 201 .iaload 202 0, ip_n7 202 (.invokevirtual 355) 205 243 3 1 235, ip_n4 205 (.goto 4) 208 209, ip_n9 208 (.iconst 0) 209 0 0 0 0 (.int 0) [], ip_n4 209 .ireturn 210 0, ip_n4 210 (.aload_n 0) 211 0, ip_n7 211 (.getfield 7) 214 11 1 2 102, ip_n9 214 (.bipush 8) 216 0 0 0 0 (.int 8) [], ip_n4 216 .iaload 217 0, ip_n4 217 .ireturn 218 0]
set_option maxRecDepth 100000 in
noncomputable def ip_d288_4 : List (Nat × ip_E) := [ip_n4 218 (.aload_n 0) 219 0, ip_n7 219 (.getfield 83) 222 11 12 0 123, ip_n4 222 .ireturn 223 0, ip_n4 223 (.aload_n 0) 224 0, ip_n7 224 (.getfield 316) 227 11 32 0 142, ip_n4 227 .ireturn 228 0, ip_n9 228 (.ldc_w 352) 231 0 0 0 1568 (.int (-2147483648)) [], ip_n4 231 .ireturn 232 0]
set_option maxRecDepth 100000 in
noncomputable def ip_c288 : List (Nat × ip_E) := ip_d288_0 ++ (ip_d288_1 ++ (ip_d288_2 ++ (ip_d288_3 ++ (ip_d288_4))))
set_option maxRecDepth 100000 in
noncomputable def ip_c289 : List (Nat × ip_E) := [ip_n4 0 (.aload_n 0) 1 0, ip_n9 1 (.iconst 0) 2 0 0 0 0 (.int 0) [], ip_n7 2 (.putfield 77) 5 11 0 0 124, ip_n4 5 (.aload_n 0) 6 0, ip_n7 6 (.getfield 80) 9 11 4 0 122, ip_n4 9 .ireturn 10 0]
set_option maxRecDepth 100000 in
noncomputable def ip_c290 : List (Nat × ip_E) := [ip_n4 0 (.lload_n 0) 1 0, ip_n4 1 (.lload_n 2) 2 2, ip_n4 2 .ldiv 3 0, ip_n4 3 (.lstore 4) 5 4, ip_n4 5 (.lload_n 0) 6 0, ip_n4 6 (.lload_n 2) 7 2, ip_n4 7 .lxor 8 0, ip_n9 8 (.lconst 0) 9 0 0 0 0 (.long 0) [], ip_n4 9 .lcmp 10 0, ip_n4 10 (.ifCond .ge 17) 13 27, ip_n4 13 (.lload 4) 15 4, ip_n4 15 (.lload_n 2) 16 2, ip_n4 16 .lmul 17 0, ip_n4 17 (.lload_n 0) 18 0, ip_n4 18 .lcmp 19 0, ip_n4 19 (.ifCond .eq 8) 22 27, ip_n4 22 (.lload 4) 24 4, ip_n9 24 (.lconst 1) 25 0 0 0 0 (.long 1) [], ip_n4 25 .lsub 26 0, ip_n4 26 .lreturn 27 0, ip_n4 27 (.lload 4) 29 4, ip_n4 29 .lreturn 30 0]
set_option maxRecDepth 100000 in
noncomputable def ip_c291 : List (Nat × ip_E) := [ip_n4 0 (.iload_n 0) 1 0, ip_n4 1 (.iload_n 1) 2 1, ip_n4 2 .irem 3 0, ip_n4 3 (.istore_n 2) 4 2, ip_n4 4 (.iload_n 0) 5 0, ip_n4 5 (.iload_n 1) 6 1, ip_n4 6 .ixor 7 0, ip_n4 7 (.ifCond .ge 11) 10 18, ip_n4 10 (.iload_n 2) 11 2, ip_n4 11 (.ifCond .eq 7) 14 18, ip_n4 14 (.iload_n 2) 15 2, ip_n4 15 (.iload_n 1) 16 1, ip_n4 16 .iadd 17 0, ip_n4 17 .ireturn 18 0, ip_n4 18 (.iload_n 2) 19 2, ip_n4 19 .ireturn 20 0]
set_option maxRecDepth 100000 in
noncomputable def ip_c292 : List (Nat × ip_E) := [ip_n4 0 (.lload_n 0) 1 0, ip_n4 1 (.lload_n 2) 2 2, ip_n4 2 .lrem 3 0, ip_n4 3 (.lstore 4) 5 4, ip_n4 5 (.lload_n 0) 6 0, ip_n4 6 (.lload_n 2) 7 2, ip_n4 7 .lxor 8 0, ip_n9 8 (.lconst 0) 9 0 0 0 0 (.long 0) [], ip_n4 9 .lcmp 10 0, ip_n4 10 (.ifCond .ge 15) 13 25, ip_n4 13 (.lload 4) 15 4, ip_n9 15 (.lconst 0) 16 0 0 0 0 (.long 0) [], ip_n4 16 .lcmp 17 0, ip_n4 17 (.ifCond .eq 8) 20 25, ip_n4 20 (.lload 4) 22 4, ip_n4 22 (.lload_n 2) 23 2, ip_n4 23 .ladd 24 0, ip_n4 24 .lreturn 25 0, ip_n4 25 (.lload 4) 27 4, ip_n4 27 .lreturn 28 0]
set_option maxRecDepth 100000 in
noncomputable def ip_c293 : List (Nat × ip_E) := [ip_n4 0 (.iload_n 0) 1 0, ip_n4 1 (.ifCond .ge 8) 4 9, ip_n4 4 (.iload_n 0) 5 0, ip_n4 5 .ineg 6 0, ip_n4 6 (.goto 4) 9 10, ip_n4 9 (.iload_n 0) 10 0, ip_n4 10 .ireturn 11 0]
set_option maxRecDepth 100000 in
noncomputable def ip_c294 : List (Nat × ip_E) := [ip_n4 0 (.iload_n 0) 1 0, ip_n4 1 (.iload_n 1) 2 1, ip_n4 2 (.if_icmp .gt 7) 5 9, ip_n4 5 (.iload_n 0) 6 0, ip_n4 6 (.goto 4) 9 10, ip_n4 9 (.iload_n 1) 10 1, ip_n4 10 .ireturn 11 0]
set_option maxRecDepth 100000 in
noncomputable def ip_d295_0 : List (Nat × ip_E) := [ip_n7 0 (.new 7) 3 10 14 0 0, ip_n4 3 .dup 4 0, ip_n7 4 (.invokespecial 9) 7 109 1 2 262, ip_n4 7 (.astore_n 1) 8 1, ip_n7 8 (.new 10) 11 11 48 0 0, ip_n4 11 .dup 12 0, ip_n7 12 (.invokespecial 12) 15 165 1 2 263, ip_n4 15 (.astore_n 2) 16 2, ip_n9 16 (.iconst 0) 17 0 0 0 0 (.int 0) [], ip_n4 17 (.istore_n 3) 18 3, ip_n4 18 (.iload_n 3) 19 3, ip_n4 19 (.aload_n 0) 20 0, ip_n4 20 .arraylength 21 0, ip_n9 21 (.bipush 6) 23 0 0 0 0 (.int 6) [], ip_n4 23 .isub 24 0, ip_n4 24 (.if_icmp .gt 1641) 27 1665, ip_n4 27 (.aload_n 0) 28 0, ip_n4 28 (.iload_n 3) 29 3, ip_n4 29 .iaload 30 0, ip_n9 30 (.bipush 63) 32 0 0 0 0 (.int 63) [], ip_n4 32 .iand 33 0, ip_n9 33 (.tableswitch 1626 0 42 #[187, 230, 253, 316, 379, 432, 465, 478, 501, 534, 597, 620, 633, 646, 659, 672, 695, 718, 751, 794, 837, 870, 929, 962, 995, 1008, 1057, 1106, 1139, 1198, 1247, 1270, 1293, 1326, 1349, 1372, 1415, 1448, 1481, 1514, 1537, 1590, 1613]) 220 1659 42 187 0 (.int 0) [220, 263, 286, 349, 412, 465, 498, 511, 534, 567, 630, 653, 666, 679, 692, 705, 728, 751, 784, 827, 870, 903, 962, 995, 1028, 1041, 1090, 1139, 1172, 1231, 1280, 1303, 1326, 1359, 1382, 1405, 1448, 1481, 1514, 1547, 1570, 1623, 1646], ip_n4 220 (.aload_n 1) 221 1, ip_n4 221 (.aload_n 0) 222 0]
set_option maxRecDepth 100000 in
noncomputable def ip_d295_1 : List (Nat × ip_E) := [ip_n4 222 (.iload_n 3) 223 3, ip_n9 223 (.iconst 1) 224 0 0 0 0 (.int 1) [], ip_n4 224 .iadd 225 0, ip_n4 225 .iaload 226 0, ip_n4 226 (.aload_n 0) 227 0, ip_n4 227 (.iload_n 3) 228 3, ip_n9 228 (.iconst 2) 229 0 0 0 0 (.int 2) [], ip_n4 229 .iadd 230 0, ip_n4 230 .iaload 231 0, ip_n4 231 (.aload_n 0) 232 0, ip_n4 232 (.iload_n 3) 233 3, ip_n9 233 (.iconst 3) 234 0 0 0 0 (.int 3) [], ip_n4 234 .iadd 235 0, ip_n4 235 .iaload 236 0, ip_n7 236 (.invokevirtual 13) 239 110 4 1 264, ip_n4 239 .pop 240 0, ip_n4 240 (.aload_n 2) 241 2, ip_n4 241 (.aload_n 0) 242 0, ip_n4 242 (.iload_n 3) 243 3, ip_n9 243 (.iconst 1) 244 0 0 0 0 (.int 1) [], ip_n4 244 .iadd 245 0, ip_n4 245 .iaload 246 0, ip_n4 246 (.aload_n 0) 247 0, ip_n4 247 (.iload_n 3) 248 3]
set_option maxRecDepth 100000 in
noncomputable def ip_d295_2 : List (Nat × ip_E) := [ip_n9 248 (.iconst 2) 249 0 0 0 0 (.int 2) [], ip_n4 249 .iadd 250 0, ip_n4 250 .iaload 251 0, ip_n4 251 (.aload_n 0) 252 0, ip_n4 252 (.iload_n 3) 253 3, ip_n9 253 (.iconst 3) 254 0 0 0 0 (.int 3) [], ip_n4 254 .iadd 255 0, ip_n4 255 .iaload 256 0, ip_n7 256 (.invokevirtual 17) 259 201 4 1 265, ip_n4 259 .pop 260 0, ip_n4 260 (.goto 1399) 263 1659, ip_n4 263 (.aload_n 1) 264 1, ip_n4 264 (.aload_n 0) 265 0, ip_n4 265 (.iload_n 3) 266 3, ip_n9 266 (.iconst 1) 267 0 0 0 0 (.int 1) [], ip_n4 267 .iadd 268 0, ip_n4 268 .iaload 269 0, ip_n7 269 (.invokevirtual 18) 272 111 2 1 266, ip_n4 272 .pop 273 0, ip_n4 273 (.aload_n 2) 274 2, ip_n4 274 (.aload_n 0) 275 0, ip_n4 275 (.iload_n 3) 276 3, ip_n9 276 (.iconst 1) 277 0 0 0 0 (.int 1) [], ip_n4 277 .iadd 278 0]
set_option maxRecDepth 100000 in
noncomputable def ip_d295_3 : List (Nat × ip_E) := [ip_n4 278 .iaload 279 0, ip_n7 279 (.invokevirtual 22) 282 202 2 1 267, ip_n4 282 .pop 283 0, ip_n4 283 (.goto 1376) 286 1659, ip_n4 286 (.aload_n 1) 287 1, ip_n4 287 (.aload_n 0) 288 0, ip_n4 288 (.iload_n 3) 289 3, ip_n9 289 (.iconst 1) 290 0 0 0 0 (.int 1) [], ip_n4 290 .iadd 291 0, ip_n4 291 .iaload 292 0, ip_n4 292 (.aload_n 0) 293 0, ip_n4 293 (.iload_n 3) 294 3, ip_n9 294 (.iconst 2) 295 0 0 0 0 (.int 2) [], ip_n4 295 .iadd 296 0, ip_n4 296 .iaload 297 0, ip_n4 297 (.aload_n 0) 298 0, ip_n4 298 (.iload_n 3) 299 3, ip_n9 299 (.iconst 3) 300 0 0 0 0 (.int 3) [], ip_n4 300 .iadd 301 0, ip_n4 301 .iaload 302 0, ip_n4 302 (.aload_n 0) 303 0, ip_n4 303 (.iload_n 3) 304 3, ip_n9 304 (.iconst 4) 305 0 0 0 0 (.int 4) [], ip_n4 305 .iadd 306 0]
set_option maxRecDepth 100000 in
noncomputable def ip_d295_4 : List (Nat × ip_E) := [ip_n4 306 .iaload 307 0, ip_n4 307 (.aload_n 0) 308 0, ip_n4 308 (.iload_n 3) 309 3, ip_n9 309 (.iconst 5) 310 0 0 0 0 (.int 5) [], ip_n4 310 .iadd 311 0, ip_n4 311 .iaload 312 0, ip_n7 312 (.invokevirtual 23) 315 112 6 1 268, ip_n4 315 .pop 316 0, ip_n4 316 (.aload_n 2) 317 2, ip_n4 317 (.aload_n 0) 318 0, ip_n4 318 (.iload_n 3) 319 3, ip_n9 319 (.iconst 1) 320 0 0 0 0 (.int 1) [], ip_n4 320 .iadd 321 0, ip_n4 321 .iaload 322 0, ip_n4 322 (.aload_n 0) 323 0, ip_n4 323 (.iload_n 3) 324 3, ip_n9 324 (.iconst 2) 325 0 0 0 0 (.int 2) [], ip_n4 325 .iadd 326 0, ip_n4 326 .iaload 327 0, ip_n4 327 (.aload_n 0) 328 0, ip_n4 328 (.iload_n 3) 329 3, ip_n9 329 (.iconst 3) 330 0 0 0 0 (.int 3) [], ip_n4 330 .iadd 331 0, ip_n4 331 .iaload 332 0]
set_option maxRecDepth 100000 in
noncomputable def ip_d295_5 : List (Nat × ip_E) := [ip_n4 332 (.aload_n 0) 333 0, ip_n4 333 (.iload_n 3) 334 3, ip_n9 334 (.iconst 4) 335 0 0 0 0 (.int 4) [], ip_n4 335 .iadd 336 0, ip_n4 336 .iaload 337 0, ip_n4 337 (.aload_n 0) 338 0, ip_n4 338 (.iload_n 3) 339 3, ip_n9 339 (.iconst 5) 340 0 0 0 0 (.int 5) [], ip_n4 340 .iadd 341 0, ip_n4 341 .iaload 342 0, ip_n7 342 (.invokevirtual 27) 345 203 6 1 269, ip_n4 345 .pop 346 0, ip_n4 346 (.goto 1313) 349 1659, ip_n4 349 (.aload_n 1) 350 1, ip_n4 350 (.aload_n 0) 351 0, ip_n4 351 (.iload_n 3) 352 3, ip_n9 352 (.iconst 1) 353 0 0 0 0 (.int 1) [], ip_n4 353 .iadd 354 0, ip_n4 354 .iaload 355 0, ip_n4 355 (.aload_n 0) 356 0, ip_n4 356 (.iload_n 3) 357 3, ip_n9 357 (.iconst 2) 358 0 0 0 0 (.int 2) [], ip_n4 358 .iadd 359 0, ip_n4 359 .iaload 360 0]
set_option maxRecDepth 100000 in
noncomputable def ip_d295_6 : List (Nat × ip_E) := [ip_n4 360 .i2l 361 0, ip_n9 361 (.bipush 32) 363 0 0 0 0 (.int 32) [], ip_n4 363 .lshl 364 0, ip_n4 364 (.aload_n 0) 365 0, ip_n4 365 (.iload_n 3) 366 3, ip_n9 366 (.iconst 3) 367 0 0 0 0 (.int 3) [], ip_n4 367 .iadd 368 0, ip_n4 368 .iaload 369 0, ip_n4 369 .i2l 370 0, ip_n9 370 (.ldc2_w 28) 373 0 0 0 1783 (.long 4294967295) [], ip_n4 373 .land 374 0, ip_n4 374 .lor 375 0, ip_n7 375 (.invokevirtual 30) 378 113 3 1 270, ip_n4 378 .pop 379 0, ip_n4 379 (.aload_n 2) 380 2, ip_n4 380 (.aload_n 0) 381 0, ip_n4 381 (.iload_n 3) 382 3, ip_n9 382 (.iconst 1) 383 0 0 0 0 (.int 1) [], ip_n4 383 .iadd 384 0, ip_n4 384 .iaload 385 0, ip_n4 385 (.aload_n 0) 386 0, ip_n4 386 (.iload_n 3) 387 3, ip_n9 387 (.iconst 2) 388 0 0 0 0 (.int 2) [], ip_n4 388 .iadd 389 0]
set_option maxRecDepth 100000 in
noncomputable def ip_d295_7 : List (Nat × ip_E) := [ip_n4 389 .iaload 390 0, ip_n4 390 .i2l 391 0, ip_n9 391 (.bipush 32) 393 0 0 0 0 (.int 32) [], ip_n4 393 .lshl 394 0, ip_n4 394 (.aload_n 0) 395 0, ip_n4 395 (.iload_n 3) 396 3, ip_n9 396 (.iconst 3) 397 0 0 0 0 (.int 3) [], ip_n4 397 .iadd 398 0, ip_n4 398 .iaload 399 0, ip_n4 399 .i2l 400 0, ip_n9 400 (.ldc2_w 28) 403 0 0 0 1783 (.long 4294967295) [], ip_n4 403 .land 404 0, ip_n4 404 .lor 405 0, ip_n7 405 (.invokevirtual 34) 408 204 3 1 271, ip_n4 408 .pop 409 0, ip_n4 409 (.goto 1250) 412 1659, ip_n4 412 (.aload_n 1) 413 1, ip_n4 413 (.aload_n 0) 414 0, ip_n4 414 (.iload_n 3) 415 3, ip_n9 415 (.iconst 1) 416 0 0 0 0 (.int 1) [], ip_n4 416 .iadd 417 0, ip_n4 417 .iaload 418 0, ip_n4 418 (.aload_n 0) 419 0, ip_n4 419 (.iload_n 3) 420 3]
set_option maxRecDepth 100000 in
noncomputable def ip_d295_8 : List (Nat × ip_E) := [ip_n9 420 (.iconst 2) 421 0 0 0 0 (.int 2) [], ip_n4 421 .iadd 422 0, ip_n4 422 .iaload 423 0, ip_n4 423 (.aload_n 0) 424 0, ip_n4 424 (.iload_n 3) 425 3, ip_n9 425 (.iconst 3) 426 0 0 0 0 (.int 3) [], ip_n4 426 .iadd 427 0, ip_n4 427 .iaload 428 0, ip_n4 428 (.aload_n 0) 429 0, ip_n4 429 (.iload_n 3) 430 3, ip_n9 430 (.iconst 4) 431 0 0 0 0 (.int 4) [], ip_n4 431 .iadd 432 0, ip_n4 432 .iaload 433 0, ip_n7 433 (.invokevirtual 35) 436 114 5 1 272, ip_n4 436 .pop 437 0, ip_n4 437 (.aload_n 2) 438 2, ip_n4 438 (.aload_n 0) 439 0, ip_n4 439 (.iload_n 3) 440 3, ip_n9 440 (.iconst 1) 441 0 0 0 0 (.int 1) [], ip_n4 441 .iadd 442 0, ip_n4 442 .iaload 443 0, ip_n4 443 (.aload_n 0) 444 0, ip_n4 444 (.iload_n 3) 445 3, ip_n9 445 (.iconst 2) 446 0 0 0 0 (.int 2) []]
set_option maxRecDepth 100000 in
noncomputable def ip_d295_9 : List (Nat × ip_E) := [ip_n4 446 .iadd 447 0, ip_n4 447 .iaload 448 0, ip_n4 448 (.aload_n 0) 449 0, ip_n4 449 (.iload_n 3) 450 3, ip_n9 450 (.iconst 3) 451 0 0 0 0 (.int 3) [], ip_n4 451 .iadd 452 0, ip_n4 452 .iaload 453 0, ip_n4 453 (.aload_n 0) 454 0, ip_n4 454 (.iload_n 3) 455 3, ip_n9 455 (.iconst 4) 456 0 0 0 0 (.int 4) [], ip_n4 456 .iadd 457 0, ip_n4 457 .iaload 458 0, ip_n7 458 (.invokevirtual 39) 461 207 5 1 273, ip_n4 461 .pop 462 0, ip_n4 462 (.goto 1197) 465 1659, ip_n4 465 (.aload_n 1) 466 1, ip_n4 466 (.aload_n 0) 467 0, ip_n4 467 (.iload_n 3) 468 3, ip_n9 468 (.iconst 1) 469 0 0 0 0 (.int 1) [], ip_n4 469 .iadd 470 0, ip_n4 470 .iaload 471 0, ip_n4 471 (.aload_n 0) 472 0, ip_n4 472 (.iload_n 3) 473 3, ip_n9 473 (.iconst 2) 474 0 0 0 0 (.int 2) []]
set_option maxRecDepth 100000 in
noncomputable def ip_d295_10 : List (Nat × ip_E) := [ip_n4 474 .iadd 475 0, ip_n4 475 .iaload 476 0, ip_n7 476 (.invokevirtual 40) 479 115 3 1 274, ip_n4 479 .pop 480 0, ip_n4 480 (.aload_n 2) 481 2, ip_n4 481 (.aload_n 0) 482 0, ip_n4 482 (.iload_n 3) 483 3, ip_n9 483 (.iconst 1) 484 0 0 0 0 (.int 1) [], ip_n4 484 .iadd 485 0, ip_n4 485 .iaload 486 0, ip_n4 486 (.aload_n 0) 487 0, ip_n4 487 (.iload_n 3) 488 3, ip_n9 488 (.iconst 2) 489 0 0 0 0 (.int 2) [], ip_n4 489 .iadd 490 0, ip_n4 490 .iaload 491 0, ip_n7 491 (.invokevirtual 44) 494 212 3 1 275, ip_n4 494 .pop 495 0, ip_n4 495 (.goto 1164) 498 1659, ip_n4 498 (.aload_n 1) 499 1, ip_n7 499 (.invokevirtual 45) 502 116 1 1 276, ip_n4 502 .pop 503 0, ip_n4 503 (.aload_n 2) 504 2, ip_n7 504 (.invokevirtual 49) 507 223 1 1 277, ip_n4 507 .pop 508 0]
set_option maxRecDepth 100000 in
noncomputable def ip_d295_11 : List (Nat × ip_E) := [ip_n4 508 (.goto 1151) 511 1659, ip_n4 511 (.aload_n 1) 512 1, ip_n4 512 (.aload_n 0) 513 0, ip_n4 513 (.iload_n 3) 514 3, ip_n9 514 (.iconst 1) 515 0 0 0 0 (.int 1) [], ip_n4 515 .iadd 516 0, ip_n4 516 .iaload 517 0, ip_n7 517 (.invokevirtual 50) 520 117 2 1 278, ip_n4 520 .pop 521 0, ip_n4 521 (.aload_n 2) 522 2, ip_n4 522 (.aload_n 0) 523 0, ip_n4 523 (.iload_n 3) 524 3, ip_n9 524 (.iconst 1) 525 0 0 0 0 (.int 1) [], ip_n4 525 .iadd 526 0, ip_n4 526 .iaload 527 0, ip_n7 527 (.invokevirtual 53) 530 224 2 1 279, ip_n4 530 .pop 531 0, ip_n4 531 (.goto 1128) 534 1659, ip_n4 534 (.aload_n 1) 535 1, ip_n4 535 (.aload_n 0) 536 0, ip_n4 536 (.iload_n 3) 537 3, ip_n9 537 (.iconst 1) 538 0 0 0 0 (.int 1) [], ip_n4 538 .iadd 539 0, ip_n4 539 .iaload 540 0]
set_option maxRecDepth 100000 in
noncomputable def ip_d295_12 : List (Nat × ip_E) := [ip_n4 540 (.aload_n 0) 541 0, ip_n4 541 (.iload_n 3) 542 3, ip_n9 542 (.iconst 2) 543 0 0 0 0 (.int 2) [], ip_n4 543 .iadd 544 0, ip_n4 544 .iaload 545 0, ip_n7 545 (.invokevirtual 54) 548 118 3 1 280, ip_n4 548 .pop 549 0, ip_n4 549 (.aload_n 2) 550 2, ip_n4 550 (.aload_n 0) 551 0, ip_n4 551 (.iload_n 3) 552 3, ip_n9 552 (.iconst 1) 553 0 0 0 0 (.int 1) [], ip_n4 553 .iadd 554 0, ip_n4 554 .iaload 555 0, ip_n4 555 (.aload_n 0) 556 0, ip_n4 556 (.iload_n 3) 557 3, ip_n9 557 (.iconst 2) 558 0 0 0 0 (.int 2) [], ip_n4 558 .iadd 559 0, ip_n4 559 .iaload 560 0, ip_n7 560 (.invokevirtual 57) 563 225 3 1 281, ip_n4 563 .pop 564 0, ip_n4 564 (.goto 1095) 567 1659, ip_n4 567 (.aload_n 1) 568 1, ip_n4 568 (.aload_n 0) 569 0, ip_n4 569 (.iload_n 3) 570 3]
set_option maxRecDepth 100000 in
noncomputable def ip_d295_13 : List (Nat × ip_E) := [ip_n9 570 (.iconst 1) 571 0 0 0 0 (.int 1) [], ip_n4 571 .iadd 572 0, ip_n4 572 .iaload 573 0, ip_n4 573 (.aload_n 0) 574 0, ip_n4 574 (.iload_n 3) 575 3, ip_n9 575 (.iconst 2) 576 0 0 0 0 (.int 2) [], ip_n4 576 .iadd 577 0, ip_n4 577 .iaload 578 0, ip_n4 578 (.aload_n 0) 579 0, ip_n4 579 (.iload_n 3) 580 3, ip_n9 580 (.iconst 3) 581 0 0 0 0 (.int 3) [], ip_n4 581 .iadd 582 0, ip_n4 582 .iaload 583 0, ip_n4 583 (.aload_n 0) 584 0, ip_n4 584 (.iload_n 3) 585 3, ip_n9 585 (.iconst 4) 586 0 0 0 0 (.int 4) [], ip_n4 586 .iadd 587 0, ip_n4 587 .iaload 588 0, ip_n4 588 (.aload_n 0) 589 0, ip_n4 589 (.iload_n 3) 590 3, ip_n9 590 (.iconst 5) 591 0 0 0 0 (.int 5) [], ip_n4 591 .iadd 592 0, ip_n4 592 .iaload 593 0, ip_n7 593 (.invokevirtual 58) 596 119 6 1 282]
set_option maxRecDepth 100000 in
noncomputable def ip_d295_14 : List (Nat × ip_E) := [ip_n4 596 .pop 597 0, ip_n4 597 (.aload_n 2) 598 2, ip_n4 598 (.aload_n 0) 599 0, ip_n4 599 (.iload_n 3) 600 3, ip_n9 600 (.iconst 1) 601 0 0 0 0 (.int 1) [], ip_n4 601 .iadd 602 0, ip_n4 602 .iaload 603 0, ip_n4 603 (.aload_n 0) 604 0, ip_n4 604 (.iload_n 3) 605 3, ip_n9 605 (.iconst 2) 606 0 0 0 0 (.int 2) [], ip_n4 606 .iadd 607 0, ip_n4 607 .iaload 608 0, ip_n4 608 (.aload_n 0) 609 0, ip_n4 609 (.iload_n 3) 610 3, ip_n9 610 (.iconst 3) 611 0 0 0 0 (.int 3) [], ip_n4 611 .iadd 612 0, ip_n4 612 .iaload 613 0, ip_n4 613 (.aload_n 0) 614 0, ip_n4 614 (.iload_n 3) 615 3, ip_n9 615 (.iconst 4) 616 0 0 0 0 (.int 4) [], ip_n4 616 .iadd 617 0, ip_n4 617 .iaload 618 0, ip_n4 618 (.aload_n 0) 619 0, ip_n4 619 (.iload_n 3) 620 3]
set_option maxRecDepth 100000 in
noncomputable def ip_d295_15 : List (Nat × ip_E) := [ip_n9 620 (.iconst 5) 621 0 0 0 0 (.int 5) [], ip_n4 621 .iadd 622 0, ip_n4 622 .iaload 623 0, ip_n7 623 (.invokevirtual 61) 626 227 6 1 283, ip_n4 626 .pop 627 0, ip_n4 627 (.goto 1032) 630 1659, ip_n4 630 (.aload_n 1) 631 1, ip_n4 631 (.aload_n 0) 632 0, ip_n4 632 (.iload_n 3) 633 3, ip_n9 633 (.iconst 1) 634 0 0 0 0 (.int 1) [], ip_n4 634 .iadd 635 0, ip_n4 635 .iaload 636 0, ip_n7 636 (.invokevirtual 62) 639 120 2 1 284, ip_n4 639 .pop 640 0, ip_n4 640 (.aload_n 2) 641 2, ip_n4 641 (.aload_n 0) 642 0, ip_n4 642 (.iload_n 3) 643 3, ip_n9 643 (.iconst 1) 644 0 0 0 0 (.int 1) [], ip_n4 644 .iadd 645 0, ip_n4 645 .iaload 646 0, ip_n7 646 (.invokevirtual 65) 649 228 2 1 285, ip_n4 649 .pop 650 0, ip_n4 650 (.goto 1009) 653 1659, ip_n4 653 (.aload_n 1) 654 1]
set_option maxRecDepth 100000 in
noncomputable def ip_d295_16 : List (Nat × ip_E) := [ip_n7 654 (.invokevirtual 66) 657 121 1 1 286, ip_n4 657 .pop 658 0, ip_n4 658 (.aload_n 2) 659 2, ip_n7 659 (.invokevirtual 69) 662 234 1 1 287, ip_n4 662 .pop 663 0, ip_n4 663 (.goto 996) 666 1659, ip_n4 666 (.aload_n 1) 667 1, ip_n7 667 (.invokevirtual 70) 670 122 1 1 288, ip_n4 670 .pop 671 0, ip_n4 671 (.aload_n 2) 672 2, ip_n7 672 (.invokevirtual 73) 675 284 1 1 289, ip_n4 675 .pop 676 0, ip_n4 676 (.goto 983) 679 1659, ip_n4 679 (.aload_n 1) 680 1, ip_n7 680 (.invokevirtual 74) 683 123 1 1 290, ip_n4 683 .pop 684 0, ip_n4 684 (.aload_n 2) 685 2, ip_n7 685 (.invokevirtual 77) 688 235 1 1 291, ip_n4 688 .pop 689 0, ip_n4 689 (.goto 970) 692 1659, ip_n4 692 (.aload_n 1) 693 1, ip_n7 693 (.invokevirtual 78) 696 124 1 1 292, ip_n4 696 .pop 697 0, ip_n4 697 (.aload_n 2) 698 2]
set_option maxRecDepth 100000 in
noncomputable def ip_d295_17 : List (Nat × ip_E) := [ip_n7 698 (.invokevirtual 81) 701 172 1 1 293, ip_n4 701 .pop 702 0, ip_n4 702 (.goto 957) 705 1659, ip_n4 705 (.aload_n 1) 706 1, ip_n4 706 (.aload_n 0) 707 0, ip_n4 707 (.iload_n 3) 708 3, ip_n9 708 (.iconst 1) 709 0 0 0 0 (.int 1) [], ip_n4 709 .iadd 710 0, ip_n4 710 .iaload 711 0, ip_n7 711 (.invokevirtual 82) 714 125 2 1 294, ip_n4 714 .pop 715 0, ip_n4 715 (.aload_n 2) 716 2, ip_n4 716 (.aload_n 0) 717 0, ip_n4 717 (.iload_n 3) 718 3, ip_n9 718 (.iconst 1) 719 0 0 0 0 (.int 1) [], ip_n4 719 .iadd 720 0, ip_n4 720 .iaload 721 0, ip_n7 721 (.invokevirtual 85) 724 174 2 1 295, ip_n4 724 .pop 725 0, ip_n4 725 (.goto 934) 728 1659, ip_n4 728 (.aload_n 1) 729 1, ip_n4 729 (.aload_n 0) 730 0, ip_n4 730 (.iload_n 3) 731 3, ip_n9 731 (.iconst 1) 732 0 0 0 0 (.int 1) []]
set_option maxRecDepth 100000 in
noncomputable def ip_d295_18 : List (Nat × ip_E) := [ip_n4 732 .iadd 733 0, ip_n4 733 .iaload 734 0, ip_n7 734 (.invokevirtual 86) 737 126 2 1 296, ip_n4 737 .pop 738 0, ip_n4 738 (.aload_n 2) 739 2, ip_n4 739 (.aload_n 0) 740 0, ip_n4 740 (.iload_n 3) 741 3, ip_n9 741 (.iconst 1) 742 0 0 0 0 (.int 1) [], ip_n4 742 .iadd 743 0, ip_n4 743 .iaload 744 0, ip_n7 744 (.invokevirtual 89) 747 175 2 1 297, ip_n4 747 .pop 748 0, ip_n4 748 (.goto 911) 751 1659, ip_n4 751 (.aload_n 1) 752 1, ip_n4 752 (.aload_n 0) 753 0, ip_n4 753 (.iload_n 3) 754 3, ip_n9 754 (.iconst 1) 755 0 0 0 0 (.int 1) [], ip_n4 755 .iadd 756 0, ip_n4 756 .iaload 757 0, ip_n4 757 (.aload_n 0) 758 0, ip_n4 758 (.iload_n 3) 759 3, ip_n9 759 (.iconst 2) 760 0 0 0 0 (.int 2) [], ip_n4 760 .iadd 761 0, ip_n4 761 .iaload 762 0]
set_option maxRecDepth 100000 in
noncomputable def ip_d295_19 : List (Nat × ip_E) := [ip_n7 762 (.invokevirtual 90) 765 127 3 1 298, ip_n4 765 .pop 766 0, ip_n4 766 (.aload_n 2) 767 2, ip_n4 767 (.aload_n 0) 768 0, ip_n4 768 (.iload_n 3) 769 3, ip_n9 769 (.iconst 1) 770 0 0 0 0 (.int 1) [], ip_n4 770 .iadd 771 0, ip_n4 771 .iaload 772 0, ip_n4 772 (.aload_n 0) 773 0, ip_n4 773 (.iload_n 3) 774 3, ip_n9 774 (.iconst 2) 775 0 0 0 0 (.int 2) [], ip_n4 775 .iadd 776 0, ip_n4 776 .iaload 777 0, ip_n7 777 (.invokevirtual 93) 780 236 3 1 299, ip_n4 780 .pop 781 0, ip_n4 781 (.goto 878) 784 1659, ip_n4 784 (.aload_n 1) 785 1, ip_n4 785 (.aload_n 0) 786 0, ip_n4 786 (.iload_n 3) 787 3, ip_n9 787 (.iconst 1) 788 0 0 0 0 (.int 1) [], ip_n4 788 .iadd 789 0, ip_n4 789 .iaload 790 0, ip_n4 790 (.aload_n 0) 791 0, ip_n4 791 (.iload_n 3) 792 3]
set_option maxRecDepth 100000 in
noncomputable def ip_d295_20 : List (Nat × ip_E) := [ip_n9 792 (.iconst 2) 793 0 0 0 0 (.int 2) [], ip_n4 793 .iadd 794 0, ip_n4 794 .iaload 795 0, ip_n4 795 (.aload_n 0) 796 0, ip_n4 796 (.iload_n 3) 797 3, ip_n9 797 (.iconst 3) 798 0 0 0 0 (.int 3) [], ip_n4 798 .iadd 799 0, ip_n4 799 .iaload 800 0, ip_n7 800 (.invokevirtual 94) 803 128 4 1 300, ip_n4 803 .pop2 804 0, ip_n4 804 (.aload_n 2) 805 2, ip_n4 805 (.aload_n 0) 806 0, ip_n4 806 (.iload_n 3) 807 3, ip_n9 807 (.iconst 1) 808 0 0 0 0 (.int 1) [], ip_n4 808 .iadd 809 0, ip_n4 809 .iaload 810 0, ip_n4 810 (.aload_n 0) 811 0, ip_n4 811 (.iload_n 3) 812 3, ip_n9 812 (.iconst 2) 813 0 0 0 0 (.int 2) [], ip_n4 813 .iadd 814 0, ip_n4 814 .iaload 815 0, ip_n4 815 (.aload_n 0) 816 0, ip_n4 816 (.iload_n 3) 817 3, ip_n9 817 (.iconst 3) 818 0 0 0 0 (.int 3) []]
set_option maxRecDepth 100000 in
noncomputable def ip_d295_21 : List (Nat × ip_E) := [ip_n4 818 .iadd 819 0, ip_n4 819 .iaload 820 0, ip_n7 820 (.invokevirtual 98) 823 237 4 1 301, ip_n4 823 .pop2 824 0, ip_n4 824 (.goto 835) 827 1659, ip_n4 827 (.aload_n 1) 828 1, ip_n4 828 (.aload_n 0) 829 0, ip_n4 829 (.iload_n 3) 830 3, ip_n9 830 (.iconst 1) 831 0 0 0 0 (.int 1) [], ip_n4 831 .iadd 832 0, ip_n4 832 .iaload 833 0, ip_n4 833 (.aload_n 0) 834 0, ip_n4 834 (.iload_n 3) 835 3, ip_n9 835 (.iconst 2) 836 0 0 0 0 (.int 2) [], ip_n4 836 .iadd 837 0, ip_n4 837 .iaload 838 0, ip_n4 838 (.aload_n 0) 839 0, ip_n4 839 (.iload_n 3) 840 3, ip_n9 840 (.iconst 3) 841 0 0 0 0 (.int 3) [], ip_n4 841 .iadd 842 0, ip_n4 842 .iaload 843 0, ip_n7 843 (.invokevirtual 99) 846 129 4 1 302, ip_n4 846 .pop2 847 0, ip_n4 847 (.aload_n 2) 848 2]
set_option maxRecDepth 100000 in
noncomputable def ip_d295_22 : List (Nat × ip_E) := [ip_n4 848 (.aload_n 0) 849 0, ip_n4 849 (.iload_n 3) 850 3, ip_n9 850 (.iconst 1) 851 0 0 0 0 (.int 1) [], ip_n4 851 .iadd 852 0, ip_n4 852 .iaload 853 0, ip_n4 853 (.aload_n 0) 854 0, ip_n4 854 (.iload_n 3) 855 3, ip_n9 855 (.iconst 2) 856 0 0 0 0 (.int 2) [], ip_n4 856 .iadd 857 0, ip_n4 857 .iaload 858 0, ip_n4 858 (.aload_n 0) 859 0, ip_n4 859 (.iload_n 3) 860 3, ip_n9 860 (.iconst 3) 861 0 0 0 0 (.int 3) [], ip_n4 861 .iadd 862 0, ip_n4 862 .iaload 863 0, ip_n7 863 (.invokevirtual 102) 866 238 4 1 303, ip_n4 866 .pop2 867 0, ip_n4 867 (.goto 792) 870 1659, ip_n4 870 (.aload_n 1) 871 1, ip_n4 871 (.aload_n 0) 872 0, ip_n4 872 (.iload_n 3) 873 3, ip_n9 873 (.iconst 1) 874 0 0 0 0 (.int 1) [], ip_n4 874 .iadd 875 0, ip_n4 875 .iaload 876 0]
set_option maxRecDepth 100000 in
noncomputable def ip_d295_23 : List (Nat × ip_E) := [ip_n4 876 (.aload_n 0) 877 0, ip_n4 877 (.iload_n 3) 878 3, ip_n9 878 (.iconst 2) 879 0 0 0 0 (.int 2) [], ip_n4 879 .iadd 880 0, ip_n4 880 .iaload 881 0, ip_n7 881 (.invokevirtual 103) 884 130 3 1 304, ip_n4 884 .pop 885 0, ip_n4 885 (.aload_n 2) 886 2, ip_n4 886 (.aload_n 0) 887 0, ip_n4 887 (.iload_n 3) 888 3, ip_n9 888 (.iconst 1) 889 0 0 0 0 (.int 1) [], ip_n4 889 .iadd 890 0, ip_n4 890 .iaload 891 0, ip_n4 891 (.aload_n 0) 892 0, ip_n4 892 (.iload_n 3) 893 3, ip_n9 893 (.iconst 2) 894 0 0 0 0 (.int 2) [], ip_n4 894 .iadd 895 0, ip_n4 895 .iaload 896 0, ip_n7 896 (.invokevirtual 106) 899 239 3 1 305, ip_n4 899 .pop 900 0, ip_n4 900 (.goto 759) 903 1659, ip_n4 903 (.aload_n 1) 904 1, ip_n4 904 (.aload_n 0) 905 0, ip_n4 905 (.iload_n 3) 906 3]
set_option maxRecDepth 100000 in
noncomputable def ip_d295_24 : List (Nat × ip_E) := [ip_n9 906 (.iconst 1) 907 0 0 0 0 (.int 1) [], ip_n4 907 .iadd 908 0, ip_n4 908 .iaload 909 0, ip_n4 909 (.aload_n 0) 910 0, ip_n4 910 (.iload_n 3) 911 3, ip_n9 911 (.iconst 2) 912 0 0 0 0 (.int 2) [], ip_n4 912 .iadd 913 0, ip_n4 913 .iaload 914 0, ip_n4 914 (.ifCond .eq 7) 917 921, ip_n9 917 (.iconst 1) 918 0 0 0 0 (.int 1) [], ip_n4 918 (.goto 4) 921 922, ip_n9 921 (.iconst 0) 922 0 0 0 0 (.int 0) [], ip_n4 922 (.aload_n 0) 923 0, ip_n4 923 (.iload_n 3) 924 3, ip_n9 924 (.iconst 3) 925 0 0 0 0 (.int 3) [], ip_n4 925 .iadd 926 0, ip_n4 926 .iaload 927 0, ip_n7 927 (.invokevirtual 107) 930 131 4 1 306, ip_n4 930 .pop 931 0, ip_n4 931 (.aload_n 2) 932 2, ip_n4 932 (.aload_n 0) 933 0, ip_n4 933 (.iload_n 3) 934 3, ip_n9 934 (.iconst 1) 935 0 0 0 0 (.int 1) [], ip_n4 935 .iadd 936 0]
set_option maxRecDepth 100000 in
noncomputable def ip_d295_25 : List (Nat × ip_E) := [ip_n4 936 .iaload 937 0, ip_n4 937 (.aload_n 0) 938 0, ip_n4 938 (.iload_n 3) 939 3, ip_n9 939 (.iconst 2) 940 0 0 0 0 (.int 2) [], ip_n4 940 .iadd 941 0, ip_n4 941 .iaload 942 0, ip_n4 942 (.ifCond .eq 7) 945 949, ip_n9 945 (.iconst 1) 946 0 0 0 0 (.int 1) [], ip_n4 946 (.goto 4) 949 950, ip_n9 949 (.iconst 0) 950 0 0 0 0 (.int 0) [], ip_n4 950 (.aload_n 0) 951 0, ip_n4 951 (.iload_n 3) 952 3, ip_n9 952 (.iconst 3) 953 0 0 0 0 (.int 3) [], ip_n4 953 .iadd 954 0, ip_n4 954 .iaload 955 0, ip_n7 955 (.invokevirtual 111) 958 240 4 1 307, ip_n4 958 .pop 959 0, ip_n4 959 (.goto 700) 962 1659, ip_n4 962 (.aload_n 1) 963 1, ip_n4 963 (.aload_n 0) 964 0, ip_n4 964 (.iload_n 3) 965 3, ip_n9 965 (.iconst 1) 966 0 0 0 0 (.int 1) [], ip_n4 966 .iadd 967 0, ip_n4 967 .iaload 968 0]
set_option maxRecDepth 100000 in
noncomputable def ip_d295_26 : List (Nat × ip_E) := [ip_n4 968 (.aload_n 0) 969 0, ip_n4 969 (.iload_n 3) 970 3, ip_n9 970 (.iconst 2) 971 0 0 0 0 (.int 2) [], ip_n4 971 .iadd 972 0, ip_n4 972 .iaload 973 0, ip_n7 973 (.invokevirtual 112) 976 132 3 1 308, ip_n4 976 .pop 977 0, ip_n4 977 (.aload_n 2) 978 2, ip_n4 978 (.aload_n 0) 979 0, ip_n4 979 (.iload_n 3) 980 3, ip_n9 980 (.iconst 1) 981 0 0 0 0 (.int 1) [], ip_n4 981 .iadd 982 0, ip_n4 982 .iaload 983 0, ip_n4 983 (.aload_n 0) 984 0, ip_n4 984 (.iload_n 3) 985 3, ip_n9 985 (.iconst 2) 986 0 0 0 0 (.int 2) [], ip_n4 986 .iadd 987 0, ip_n4 987 .iaload 988 0, ip_n7 988 (.invokevirtual 115) 991 241 3 1 309, ip_n4 991 .pop 992 0, ip_n4 992 (.goto 667) 995 1659, ip_n4 995 (.aload_n 1) 996 1, ip_n4 996 (.aload_n 0) 997 0, ip_n4 997 (.iload_n 3) 998 3]
set_option maxRecDepth 100000 in
noncomputable def ip_d295_27 : List (Nat × ip_E) := [ip_n9 998 (.iconst 1) 999 0 0 0 0 (.int 1) [], ip_n4 999 .iadd 1000 0, ip_n4 1000 .iaload 1001 0, ip_n4 1001 (.aload_n 0) 1002 0, ip_n4 1002 (.iload_n 3) 1003 3, ip_n9 1003 (.iconst 2) 1004 0 0 0 0 (.int 2) [], ip_n4 1004 .iadd 1005 0, ip_n4 1005 .iaload 1006 0, ip_n7 1006 (.invokevirtual 116) 1009 133 3 1 310, ip_n4 1009 .pop2 1010 0, ip_n4 1010 (.aload_n 2) 1011 2, ip_n4 1011 (.aload_n 0) 1012 0, ip_n4 1012 (.iload_n 3) 1013 3, ip_n9 1013 (.iconst 1) 1014 0 0 0 0 (.int 1) [], ip_n4 1014 .iadd 1015 0, ip_n4 1015 .iaload 1016 0, ip_n4 1016 (.aload_n 0) 1017 0, ip_n4 1017 (.iload_n 3) 1018 3, ip_n9 1018 (.iconst 2) 1019 0 0 0 0 (.int 2) [], ip_n4 1019 .iadd 1020 0, ip_n4 1020 .iaload 1021 0, ip_n7 1021 (.invokevirtual 120) 1024 242 3 1 311, ip_n4 1024 .pop2 1025 0, ip_n4 1025 (.goto 634) 1028 1659]
set_option maxRecDepth 100000 in
noncomputable def ip_d295_28 : List (Nat × ip_E) := [ip_n4 1028 (.aload_n 1) 1029 1, ip_n7 1029 (.invokevirtual 121) 1032 134 1 1 312, ip_n4 1032 .pop 1033 0, ip_n4 1033 (.aload_n 2) 1034 2, ip_n7 1034 (.invokevirtual 124) 1037 245 1 1 313, ip_n4 1037 .pop 1038 0, ip_n4 1038 (.goto 621) 1041 1659, ip_n4 1041 (.aload_n 1) 1042 1, ip_n4 1042 (.aload_n 0) 1043 0, ip_n4 1043 (.iload_n 3) 1044 3, ip_n9 1044 (.iconst 1) 1045 0 0 0 0 (.int 1) [], ip_n4 1045 .iadd 1046 0, ip_n4 1046 .iaload 1047 0, ip_n4 1047 (.ifCond .eq 7) 1050 1054, ip_n9 1050 (.iconst 1) 1051 0 0 0 0 (.int 1) [], ip_n4 1051 (.goto 4) 1054 1055, ip_n9 1054 (.iconst 0) 1055 0 0 0 0 (.int 0) [], ip_n4 1055 (.aload_n 0) 1056 0, ip_n4 1056 (.iload_n 3) 1057 3, ip_n9 1057 (.iconst 2) 1058 0 0 0 0 (.int 2) [], ip_n4 1058 .iadd 1059 0, ip_n4 1059 .iaload 1060 0, ip_n7 1060 (.invokevirtual 125) 1063 135 3 1 314, ip_n4 1063 .pop2 1064 0]
set_option maxRecDepth 100000 in
noncomputable def ip_d295_29 : List (Nat × ip_E) := [ip_n4 1064 (.aload_n 2) 1065 2, ip_n4 1065 (.aload_n 0) 1066 0, ip_n4 1066 (.iload_n 3) 1067 3, ip_n9 1067 (.iconst 1) 1068 0 0 0 0 (.int 1) [], ip_n4 1068 .iadd 1069 0, ip_n4 1069 .iaload 1070 0, ip_n4 1070 (.ifCond .eq 7) 1073 1077, ip_n9 1073 (.iconst 1) 1074 0 0 0 0 (.int 1) [], ip_n4 1074 (.goto 4) 1077 1078, ip_n9 1077 (.iconst 0) 1078 0 0 0 0 (.int 0) [], ip_n4 1078 (.aload_n 0) 1079 0, ip_n4 1079 (.iload_n 3) 1080 3, ip_n9 1080 (.iconst 2) 1081 0 0 0 0 (.int 2) [], ip_n4 1081 .iadd 1082 0, ip_n4 1082 .iaload 1083 0, ip_n7 1083 (.invokevirtual 129) 1086 249 3 1 315, ip_n4 1086 .pop2 1087 0, ip_n4 1087 (.goto 572) 1090 1659, ip_n4 1090 (.aload_n 1) 1091 1, ip_n4 1091 (.aload_n 0) 1092 0, ip_n4 1092 (.iload_n 3) 1093 3, ip_n9 1093 (.iconst 1) 1094 0 0 0 0 (.int 1) [], ip_n4 1094 .iadd 1095 0, ip_n4 1095 .iaload 1096 0]
set_option maxRecDepth 100000 in
noncomputable def ip_d295_30 : List (Nat × ip_E) := [ip_n4 1096 (.ifCond .eq 7) 1099 1103, ip_n9 1099 (.iconst 1) 1100 0 0 0 0 (.int 1) [], ip_n4 1100 (.goto 4) 1103 1104, ip_n9 1103 (.iconst 0) 1104 0 0 0 0 (.int 0) [], ip_n4 1104 (.aload_n 0) 1105 0, ip_n4 1105 (.iload_n 3) 1106 3, ip_n9 1106 (.iconst 2) 1107 0 0 0 0 (.int 2) [], ip_n4 1107 .iadd 1108 0, ip_n4 1108 .iaload 1109 0, ip_n7 1109 (.invokevirtual 130) 1112 136 3 1 316, ip_n4 1112 .pop 1113 0, ip_n4 1113 (.aload_n 2) 1114 2, ip_n4 1114 (.aload_n 0) 1115 0, ip_n4 1115 (.iload_n 3) 1116 3, ip_n9 1116 (.iconst 1) 1117 0 0 0 0 (.int 1) [], ip_n4 1117 .iadd 1118 0, ip_n4 1118 .iaload 1119 0, ip_n4 1119 (.ifCond .eq 7) 1122 1126, ip_n9 1122 (.iconst 1) 1123 0 0 0 0 (.int 1) [], ip_n4 1123 (.goto 4) 1126 1127, ip_n9 1126 (.iconst 0) 1127 0 0 0 0 (.int 0) [], ip_n4 1127 (.aload_n 0) 1128 0, ip_n4 1128 (.iload_n 3) 1129 3, ip_n9 1129 (.iconst 2) 1130 0 0 0 0 (.int 2) []]
set_option maxRecDepth 100000 in
noncomputable def ip_d295_31 : List (Nat × ip_E) := [ip_n4 1130 .iadd 1131 0, ip_n4 1131 .iaload 1132 0, ip_n7 1132 (.invokevirtual 134) 1135 250 3 1 317, ip_n4 1135 .pop 1136 0, ip_n4 1136 (.goto 523) 1139 1659, ip_n4 1139 (.aload_n 1) 1140 1, ip_n4 1140 (.aload_n 0) 1141 0, ip_n4 1141 (.iload_n 3) 1142 3, ip_n9 1142 (.iconst 1) 1143 0 0 0 0 (.int 1) [], ip_n4 1143 .iadd 1144 0, ip_n4 1144 .iaload 1145 0, ip_n4 1145 (.aload_n 0) 1146 0, ip_n4 1146 (.iload_n 3) 1147 3, ip_n9 1147 (.iconst 2) 1148 0 0 0 0 (.int 2) [], ip_n4 1148 .iadd 1149 0, ip_n4 1149 .iaload 1150 0, ip_n7 1150 (.invokevirtual 135) 1153 137 3 1 318, ip_n4 1153 .pop2 1154 0, ip_n4 1154 (.aload_n 2) 1155 2, ip_n4 1155 (.aload_n 0) 1156 0, ip_n4 1156 (.iload_n 3) 1157 3, ip_n9 1157 (.iconst 1) 1158 0 0 0 0 (.int 1) [], ip_n4 1158 .iadd 1159 0, ip_n4 1159 .iaload 1160 0]
set_option maxRecDepth 100000 in
noncomputable def ip_d295_32 : List (Nat × ip_E) := [ip_n4 1160 (.aload_n 0) 1161 0, ip_n4 1161 (.iload_n 3) 1162 3, ip_n9 1162 (.iconst 2) 1163 0 0 0 0 (.int 2) [], ip_n4 1163 .iadd 1164 0, ip_n4 1164 .iaload 1165 0, ip_n7 1165 (.invokevirtual 138) 1168 253 3 1 319, ip_n4 1168 .pop2 1169 0, ip_n4 1169 (.goto 490) 1172 1659, ip_n4 1172 (.aload_n 1) 1173 1, ip_n4 1173 (.aload_n 0) 1174 0, ip_n4 1174 (.iload_n 3) 1175 3, ip_n9 1175 (.iconst 1) 1176 0 0 0 0 (.int 1) [], ip_n4 1176 .iadd 1177 0, ip_n4 1177 .iaload 1178 0, ip_n4 1178 (.ifCond .eq 7) 1181 1185, ip_n9 1181 (.iconst 1) 1182 0 0 0 0 (.int 1) [], ip_n4 1182 (.goto 4) 1185 1186, ip_n9 1185 (.iconst 0) 1186 0 0 0 0 (.int 0) [], ip_n4 1186 (.aload_n 0) 1187 0, ip_n4 1187 (.iload_n 3) 1188 3, ip_n9 1188 (.iconst 2) 1189 0 0 0 0 (.int 2) [], ip_n4 1189 .iadd 1190 0, ip_n4 1190 .iaload 1191 0, ip_n4 1191 (.aload_n 0) 1192 0]
set_option maxRecDepth 100000 in
noncomputable def ip_d295_33 : List (Nat × ip_E) := [ip_n4 1192 (.iload_n 3) 1193 3, ip_n9 1193 (.iconst 3) 1194 0 0 0 0 (.int 3) [], ip_n4 1194 .iadd 1195 0, ip_n4 1195 .iaload 1196 0, ip_n7 1196 (.invokevirtual 139) 1199 138 4 1 320, ip_n4 1199 .pop 1200 0, ip_n4 1200 (.aload_n 2) 1201 2, ip_n4 1201 (.aload_n 0) 1202 0, ip_n4 1202 (.iload_n 3) 1203 3, ip_n9 1203 (.iconst 1) 1204 0 0 0 0 (.int 1) [], ip_n4 1204 .iadd 1205 0, ip_n4 1205 .iaload 1206 0, ip_n4 1206 (.ifCond .eq 7) 1209 1213, ip_n9 1209 (.iconst 1) 1210 0 0 0 0 (.int 1) [], ip_n4 1210 (.goto 4) 1213 1214, ip_n9 1213 (.iconst 0) 1214 0 0 0 0 (.int 0) [], ip_n4 1214 (.aload_n 0) 1215 0, ip_n4 1215 (.iload_n 3) 1216 3, ip_n9 1216 (.iconst 2) 1217 0 0 0 0 (.int 2) [], ip_n4 1217 .iadd 1218 0, ip_n4 1218 .iaload 1219 0, ip_n4 1219 (.aload_n 0) 1220 0, ip_n4 1220 (.iload_n 3) 1221 3, ip_n9 1221 (.iconst 3) 1222 0 0 0 0 (.int 3) []]
set_option maxRecDepth 100000 in
noncomputable def ip_d295_34 : List (Nat × ip_E) := [ip_n4 1222 .iadd 1223 0, ip_n4 1223 .iaload 1224 0, ip_n7 1224 (.invokevirtual 143) 1227 254 4 1 321, ip_n4 1227 .pop 1228 0, ip_n4 1228 (.goto 431) 1231 1659, ip_n4 1231 (.aload_n 1) 1232 1, ip_n4 1232 (.aload_n 0) 1233 0, ip_n4 1233 (.iload_n 3) 1234 3, ip_n9 1234 (.iconst 1) 1235 0 0 0 0 (.int 1) [], ip_n4 1235 .iadd 1236 0, ip_n4 1236 .iaload 1237 0, ip_n4 1237 (.ifCond .eq 7) 1240 1244, ip_n9 1240 (.iconst 1) 1241 0 0 0 0 (.int 1) [], ip_n4 1241 (.goto 4) 1244 1245, ip_n9 1244 (.iconst 0) 1245 0 0 0 0 (.int 0) [], ip_n4 1245 (.aload_n 0) 1246 0, ip_n4 1246 (.iload_n 3) 1247 3, ip_n9 1247 (.iconst 2) 1248 0 0 0 0 (.int 2) [], ip_n4 1248 .iadd 1249 0, ip_n4 1249 .iaload 1250 0, ip_n7 1250 (.invokevirtual 144) 1253 139 3 1 322, ip_n4 1253 .pop2 1254 0, ip_n4 1254 (.aload_n 2) 1255 2, ip_n4 1255 (.aload_n 0) 1256 0]
set_option maxRecDepth 100000 in
noncomputable def ip_d295_35 : List (Nat × ip_E) := [ip_n4 1256 (.iload_n 3) 1257 3, ip_n9 1257 (.iconst 1) 1258 0 0 0 0 (.int 1) [], ip_n4 1258 .iadd 1259 0, ip_n4 1259 .iaload 1260 0, ip_n4 1260 (.ifCond .eq 7) 1263 1267, ip_n9 1263 (.iconst 1) 1264 0 0 0 0 (.int 1) [], ip_n4 1264 (.goto 4) 1267 1268, ip_n9 1267 (.iconst 0) 1268 0 0 0 0 (.int 0) [], ip_n4 1268 (.aload_n 0) 1269 0, ip_n4 1269 (.iload_n 3) 1270 3, ip_n9 1270 (.iconst 2) 1271 0 0 0 0 (.int 2) [], ip_n4 1271 .iadd 1272 0, ip_n4 1272 .iaload 1273 0, ip_n7 1273 (.invokevirtual 147) 1276 256 3 1 323, ip_n4 1276 .pop2 1277 0, ip_n4 1277 (.goto 382) 1280 1659, ip_n4 1280 (.aload_n 1) 1281 1, ip_n4 1281 (.aload_n 0) 1282 0, ip_n4 1282 (.iload_n 3) 1283 3, ip_n9 1283 (.iconst 1) 1284 0 0 0 0 (.int 1) [], ip_n4 1284 .iadd 1285 0, ip_n4 1285 .iaload 1286 0, ip_n7 1286 (.invokevirtual 148) 1289 140 2 1 324, ip_n4 1289 .pop2 1290 0]
set_option maxRecDepth 100000 in
noncomputable def ip_d295_36 : List (Nat × ip_E) := [ip_n4 1290 (.aload_n 2) 1291 2, ip_n4 1291 (.aload_n 0) 1292 0, ip_n4 1292 (.iload_n 3) 1293 3, ip_n9 1293 (.iconst 1) 1294 0 0 0 0 (.int 1) [], ip_n4 1294 .iadd 1295 0, ip_n4 1295 .iaload 1296 0, ip_n7 1296 (.invokevirtual 152) 1299 259 2 1 325, ip_n4 1299 .pop2 1300 0, ip_n4 1300 (.goto 359) 1303 1659, ip_n4 1303 (.aload_n 1) 1304 1, ip_n4 1304 (.aload_n 0) 1305 0, ip_n4 1305 (.iload_n 3) 1306 3, ip_n9 1306 (.iconst 1) 1307 0 0 0 0 (.int 1) [], ip_n4 1307 .iadd 1308 0, ip_n4 1308 .iaload 1309 0, ip_n7 1309 (.invokevirtual 153) 1312 141 2 1 326, ip_n4 1312 .pop 1313 0, ip_n4 1313 (.aload_n 2) 1314 2, ip_n4 1314 (.aload_n 0) 1315 0, ip_n4 1315 (.iload_n 3) 1316 3, ip_n9 1316 (.iconst 1) 1317 0 0 0 0 (.int 1) [], ip_n4 1317 .iadd 1318 0, ip_n4 1318 .iaload 1319 0, ip_n7 1319 (.invokevirtual 156) 1322 261 2 1 327]
set_option maxRecDepth 100000 in
noncomputable def ip_d295_37 : List (Nat × ip_E) := [ip_n4 1322 .pop 1323 0, ip_n4 1323 (.goto 336) 1326 1659, ip_n4 1326 (.aload_n 1) 1327 1, ip_n4 1327 (.aload_n 0) 1328 0, ip_n4 1328 (.iload_n 3) 1329 3, ip_n9 1329 (.iconst 1) 1330 0 0 0 0 (.int 1) [], ip_n4 1330 .iadd 1331 0, ip_n4 1331 .iaload 1332 0, ip_n4 1332 (.aload_n 0) 1333 0, ip_n4 1333 (.iload_n 3) 1334 3, ip_n9 1334 (.iconst 2) 1335 0 0 0 0 (.int 2) [], ip_n4 1335 .iadd 1336 0, ip_n4 1336 .iaload 1337 0, ip_n7 1337 (.invokevirtual 157) 1340 142 3 1 328, ip_n4 1340 .pop2 1341 0, ip_n4 1341 (.aload_n 2) 1342 2, ip_n4 1342 (.aload_n 0) 1343 0, ip_n4 1343 (.iload_n 3) 1344 3, ip_n9 1344 (.iconst 1) 1345 0 0 0 0 (.int 1) [], ip_n4 1345 .iadd 1346 0, ip_n4 1346 .iaload 1347 0, ip_n4 1347 (.aload_n 0) 1348 0, ip_n4 1348 (.iload_n 3) 1349 3, ip_n9 1349 (.iconst 2) 1350 0 0 0 0 (.int 2) []]
set_option maxRecDepth 100000 in
noncomputable def ip_d295_38 : List (Nat × ip_E) := [ip_n4 1350 .iadd 1351 0, ip_n4 1351 .iaload 1352 0, ip_n7 1352 (.invokevirtual 160) 1355 265 3 1 329, ip_n4 1355 .pop2 1356 0, ip_n4 1356 (.goto 303) 1359 1659, ip_n4 1359 (.aload_n 1) 1360 1, ip_n4 1360 (.aload_n 0) 1361 0, ip_n4 1361 (.iload_n 3) 1362 3, ip_n9 1362 (.iconst 1) 1363 0 0 0 0 (.int 1) [], ip_n4 1363 .iadd 1364 0, ip_n4 1364 .iaload 1365 0, ip_n7 1365 (.invokevirtual 161) 1368 143 2 1 330, ip_n4 1368 .pop 1369 0, ip_n4 1369 (.aload_n 2) 1370 2, ip_n4 1370 (.aload_n 0) 1371 0, ip_n4 1371 (.iload_n 3) 1372 3, ip_n9 1372 (.iconst 1) 1373 0 0 0 0 (.int 1) [], ip_n4 1373 .iadd 1374 0, ip_n4 1374 .iaload 1375 0, ip_n7 1375 (.invokevirtual 164) 1378 268 2 1 331, ip_n4 1378 .pop 1379 0, ip_n4 1379 (.goto 280) 1382 1659, ip_n4 1382 (.aload_n 1) 1383 1, ip_n4 1383 (.aload_n 0) 1384 0]
set_option maxRecDepth 100000 in
noncomputable def ip_d295_39 : List (Nat × ip_E) := [ip_n4 1384 (.iload_n 3) 1385 3, ip_n9 1385 (.iconst 1) 1386 0 0 0 0 (.int 1) [], ip_n4 1386 .iadd 1387 0, ip_n4 1387 .iaload 1388 0, ip_n7 1388 (.invokevirtual 165) 1391 144 2 1 332, ip_n4 1391 .pop2 1392 0, ip_n4 1392 (.aload_n 2) 1393 2, ip_n4 1393 (.aload_n 0) 1394 0, ip_n4 1394 (.iload_n 3) 1395 3, ip_n9 1395 (.iconst 1) 1396 0 0 0 0 (.int 1) [], ip_n4 1396 .iadd 1397 0, ip_n4 1397 .iaload 1398 0, ip_n7 1398 (.invokevirtual 168) 1401 270 2 1 333, ip_n4 1401 .pop2 1402 0, ip_n4 1402 (.goto 257) 1405 1659, ip_n4 1405 (.aload_n 1) 1406 1, ip_n4 1406 (.aload_n 0) 1407 0, ip_n4 1407 (.iload_n 3) 1408 3, ip_n9 1408 (.iconst 1) 1409 0 0 0 0 (.int 1) [], ip_n4 1409 .iadd 1410 0, ip_n4 1410 .iaload 1411 0, ip_n4 1411 (.aload_n 0) 1412 0, ip_n4 1412 (.iload_n 3) 1413 3, ip_n9 1413 (.iconst 2) 1414 0 0 0 0 (.int 2) []]
set_option maxRecDepth 100000 in
noncomputable def ip_d295_40 : List (Nat × ip_E) := [ip_n4 1414 .iadd 1415 0, ip_n4 1415 .iaload 1416 0, ip_n4 1416 (.aload_n 0) 1417 0, ip_n4 1417 (.iload_n 3) 1418 3, ip_n9 1418 (.iconst 3) 1419 0 0 0 0 (.int 3) [], ip_n4 1419 .iadd 1420 0, ip_n4 1420 .iaload 1421 0, ip_n7 1421 (.invokevirtual 169) 1424 145 4 1 334, ip_n4 1424 .pop 1425 0, ip_n4 1425 (.aload_n 2) 1426 2, ip_n4 1426 (.aload_n 0) 1427 0, ip_n4 1427 (.iload_n 3) 1428 3, ip_n9 1428 (.iconst 1) 1429 0 0 0 0 (.int 1) [], ip_n4 1429 .iadd 1430 0, ip_n4 1430 .iaload 1431 0, ip_n4 1431 (.aload_n 0) 1432 0, ip_n4 1432 (.iload_n 3) 1433 3, ip_n9 1433 (.iconst 2) 1434 0 0 0 0 (.int 2) [], ip_n4 1434 .iadd 1435 0, ip_n4 1435 .iaload 1436 0, ip_n4 1436 (.aload_n 0) 1437 0, ip_n4 1437 (.iload_n 3) 1438 3, ip_n9 1438 (.iconst 3) 1439 0 0 0 0 (.int 3) [], ip_n4 1439 .iadd 1440 0]
set_option maxRecDepth 100000 in
noncomputable def ip_d295_41 : List (Nat × ip_E) := [ip_n4 1440 .iaload 1441 0, ip_n7 1441 (.invokevirtual 173) 1444 272 4 1 335, ip_n4 1444 .pop 1445 0, ip_n4 1445 (.goto 214) 1448 1659, ip_n4 1448 (.aload_n 1) 1449 1, ip_n4 1449 (.aload_n 0) 1450 0, ip_n4 1450 (.iload_n 3) 1451 3, ip_n9 1451 (.iconst 1) 1452 0 0 0 0 (.int 1) [], ip_n4 1452 .iadd 1453 0, ip_n4 1453 .iaload 1454 0, ip_n4 1454 (.aload_n 0) 1455 0, ip_n4 1455 (.iload_n 3) 1456 3, ip_n9 1456 (.iconst 2) 1457 0 0 0 0 (.int 2) [], ip_n4 1457 .iadd 1458 0, ip_n4 1458 .iaload 1459 0, ip_n7 1459 (.invokevirtual 174) 1462 146 3 1 336, ip_n4 1462 .pop 1463 0, ip_n4 1463 (.aload_n 2) 1464 2, ip_n4 1464 (.aload_n 0) 1465 0, ip_n4 1465 (.iload_n 3) 1466 3, ip_n9 1466 (.iconst 1) 1467 0 0 0 0 (.int 1) [], ip_n4 1467 .iadd 1468 0, ip_n4 1468 .iaload 1469 0, ip_n4 1469 (.aload_n 0) 1470 0]
set_option maxRecDepth 100000 in
noncomputable def ip_d295_42 : List (Nat × ip_E) := [ip_n4 1470 (.iload_n 3) 1471 3, ip_n9 1471 (.iconst 2) 1472 0 0 0 0 (.int 2) [], ip_n4 1472 .iadd 1473 0, ip_n4 1473 .iaload 1474 0, ip_n7 1474 (.invokevirtual 177) 1477 274 3 1 337, ip_n4 1477 .pop 1478 0, ip_n4 1478 (.goto 181) 1481 1659, ip_n4 1481 (.aload_n 1) 1482 1, ip_n4 1482 (.aload_n 0) 1483 0, ip_n4 1483 (.iload_n 3) 1484 3, ip_n9 1484 (.iconst 1) 1485 0 0 0 0 (.int 1) [], ip_n4 1485 .iadd 1486 0, ip_n4 1486 .iaload 1487 0, ip_n4 1487 (.aload_n 0) 1488 0, ip_n4 1488 (.iload_n 3) 1489 3, ip_n9 1489 (.iconst 2) 1490 0 0 0 0 (.int 2) [], ip_n4 1490 .iadd 1491 0, ip_n4 1491 .iaload 1492 0, ip_n7 1492 (.invokevirtual 178) 1495 147 3 1 338, ip_n4 1495 .pop 1496 0, ip_n4 1496 (.aload_n 2) 1497 2, ip_n4 1497 (.aload_n 0) 1498 0, ip_n4 1498 (.iload_n 3) 1499 3, ip_n9 1499 (.iconst 1) 1500 0 0 0 0 (.int 1) []]
set_option maxRecDepth 100000 in
noncomputable def ip_d295_43 : List (Nat × ip_E) := [ip_n4 1500 .iadd 1501 0, ip_n4 1501 .iaload 1502 0, ip_n4 1502 (.aload_n 0) 1503 0, ip_n4 1503 (.iload_n 3) 1504 3, ip_n9 1504 (.iconst 2) 1505 0 0 0 0 (.int 2) [], ip_n4 1505 .iadd 1506 0, ip_n4 1506 .iaload 1507 0, ip_n7 1507 (.invokevirtual 181) 1510 275 3 1 339, ip_n4 1510 .pop 1511 0, ip_n4 1511 (.goto 148) 1514 1659, ip_n4 1514 (.aload_n 1) 1515 1, ip_n4 1515 (.aload_n 0) 1516 0, ip_n4 1516 (.iload_n 3) 1517 3, ip_n9 1517 (.iconst 1) 1518 0 0 0 0 (.int 1) [], ip_n4 1518 .iadd 1519 0, ip_n4 1519 .iaload 1520 0, ip_n4 1520 (.aload_n 0) 1521 0, ip_n4 1521 (.iload_n 3) 1522 3, ip_n9 1522 (.iconst 2) 1523 0 0 0 0 (.int 2) [], ip_n4 1523 .iadd 1524 0, ip_n4 1524 .iaload 1525 0, ip_n7 1525 (.invokevirtual 182) 1528 148 3 1 340, ip_n4 1528 .pop2 1529 0, ip_n4 1529 (.aload_n 2) 1530 2]
set_option maxRecDepth 100000 in
noncomputable def ip_d295_44 : List (Nat × ip_E) := [ip_n4 1530 (.aload_n 0) 1531 0, ip_n4 1531 (.iload_n 3) 1532 3, ip_n9 1532 (.iconst 1) 1533 0 0 0 0 (.int 1) [], ip_n4 1533 .iadd 1534 0, ip_n4 1534 .iaload 1535 0, ip_n4 1535 (.aload_n 0) 1536 0, ip_n4 1536 (.iload_n 3) 1537 3, ip_n9 1537 (.iconst 2) 1538 0 0 0 0 (.int 2) [], ip_n4 1538 .iadd 1539 0, ip_n4 1539 .iaload 1540 0, ip_n7 1540 (.invokevirtual 185) 1543 276 3 1 341, ip_n4 1543 .pop2 1544 0, ip_n4 1544 (.goto 115) 1547 1659, ip_n4 1547 (.aload_n 1) 1548 1, ip_n4 1548 (.aload_n 0) 1549 0, ip_n4 1549 (.iload_n 3) 1550 3, ip_n9 1550 (.iconst 1) 1551 0 0 0 0 (.int 1) [], ip_n4 1551 .iadd 1552 0, ip_n4 1552 .iaload 1553 0, ip_n7 1553 (.invokevirtual 186) 1556 149 2 1 342, ip_n4 1556 .pop 1557 0, ip_n4 1557 (.aload_n 2) 1558 2, ip_n4 1558 (.aload_n 0) 1559 0, ip_n4 1559 (.iload_n 3) 1560 3]
set_option maxRecDepth 100000 in
noncomputable def ip_d295_45 : List (Nat × ip_E) := [ip_n9 1560 (.iconst 1) 1561 0 0 0 0 (.int 1) [], ip_n4 1561 .iadd 1562 0, ip_n4 1562 .iaload 1563 0, ip_n7 1563 (.invokevirtual 189) 1566 279 2 1 343, ip_n4 1566 .pop 1567 0, ip_n4 1567 (.goto 92) 1570 1659, ip_n4 1570 (.aload_n 1) 1571 1, ip_n4 1571 (.aload_n 0) 1572 0, ip_n4 1572 (.iload_n 3) 1573 3, ip_n9 1573 (.iconst 1) 1574 0 0 0 0 (.int 1) [], ip_n4 1574 .iadd 1575 0, ip_n4 1575 .iaload 1576 0, ip_n4 1576 (.aload_n 0) 1577 0, ip_n4 1577 (.iload_n 3) 1578 3, ip_n9 1578 (.iconst 2) 1579 0 0 0 0 (.int 2) [], ip_n4 1579 .iadd 1580 0, ip_n4 1580 .iaload 1581 0, ip_n4 1581 (.aload_n 0) 1582 0, ip_n4 1582 (.iload_n 3) 1583 3, ip_n9 1583 (.iconst 3) 1584 0 0 0 0 (.int 3) [], ip_n4 1584 .iadd 1585 0, ip_n4 1585 .iaload 1586 0, ip_n4 1586 (.aload_n 0) 1587 0, ip_n4 1587 (.iload_n 3) 1588 3]
set_option maxRecDepth 100000 in
noncomputable def ip_d295_46 : List (Nat × ip_E) := [ip_n9 1588 (.iconst 4) 1589 0 0 0 0 (.int 4) [], ip_n4 1589 .iadd 1590 0, ip_n4 1590 .iaload 1591 0, ip_n7 1591 (.invokevirtual 190) 1594 150 5 1 344, ip_n4 1594 .pop 1595 0, ip_n4 1595 (.aload_n 2) 1596 2, ip_n4 1596 (.aload_n 0) 1597 0, ip_n4 1597 (.iload_n 3) 1598 3, ip_n9 1598 (.iconst 1) 1599 0 0 0 0 (.int 1) [], ip_n4 1599 .iadd 1600 0, ip_n4 1600 .iaload 1601 0, ip_n4 1601 (.aload_n 0) 1602 0, ip_n4 1602 (.iload_n 3) 1603 3, ip_n9 1603 (.iconst 2) 1604 0 0 0 0 (.int 2) [], ip_n4 1604 .iadd 1605 0, ip_n4 1605 .iaload 1606 0, ip_n4 1606 (.aload_n 0) 1607 0, ip_n4 1607 (.iload_n 3) 1608 3, ip_n9 1608 (.iconst 3) 1609 0 0 0 0 (.int 3) [], ip_n4 1609 .iadd 1610 0, ip_n4 1610 .iaload 1611 0, ip_n4 1611 (.aload_n 0) 1612 0, ip_n4 1612 (.iload_n 3) 1613 3, ip_n9 1613 (.iconst 4) 1614 0 0 0 0 (.int 4) []]
set_option maxRecDepth 100000 in
noncomputable def ip_d295_47 : List (Nat × ip_E) := [ip_n4 1614 .iadd 1615 0, ip_n4 1615 .iaload 1616 0, ip_n7 1616 (.invokevirtual 193) 1619 287 5 1 345, ip_n4 1619 .pop 1620 0, ip_n4 1620 (.goto 39) 1623 1659, ip_n4 1623 (.aload_n 1) 1624 1, ip_n4 1624 (.aload_n 0) 1625 0, ip_n4 1625 (.iload_n 3) 1626 3, ip_n9 1626 (.iconst 1) 1627 0 0 0 0 (.int 1) [], ip_n4 1627 .iadd 1628 0, ip_n4 1628 .iaload 1629 0, ip_n7 1629 (.invokevirtual 194) 1632 151 2 1 346, ip_n4 1632 .pop 1633 0, ip_n4 1633 (.aload_n 2) 1634 2, ip_n4 1634 (.aload_n 0) 1635 0, ip_n4 1635 (.iload_n 3) 1636 3, ip_n9 1636 (.iconst 1) 1637 0 0 0 0 (.int 1) [], ip_n4 1637 .iadd 1638 0, ip_n4 1638 .iaload 1639 0, ip_n7 1639 (.invokevirtual 197) 1642 288 2 1 347, ip_n4 1642 .pop 1643 0, ip_n4 1643 (.goto 16) 1646 1659, ip_n4 1646 (.aload_n 1) 1647 1, ip_n7 1647 (.invokevirtual 198) 1650 152 1 1 348]
set_option maxRecDepth 100000 in
noncomputable def ip_d295_48 : List (Nat × ip_E) := [ip_n4 1650 (.aload_n 2) 1651 2, ip_n7 1651 (.invokevirtual 201) 1654 289 1 1 349, ip_n4 1654 (.if_icmp .eq 5) 1657 1659, ip_n9 1657 (.iconst 0) 1658 0 0 0 0 (.int 0) [], ip_n7 1658 .ireturn 1659 0 0 3 0, ip_n9 1659 (.iinc 3 6) 1662 3 0 0 0 (.int 6) [], ip_n4 1662 (.goto (-1644)) 1665 18, ip_n9 1665 (.iconst 1) 1666 0 0 0 0 (.int 1) [], ip_n7 1666 .ireturn 1667 0 0 3 0]
set_option maxRecDepth 100000 in
noncomputable def ip_c295 : List (Nat × ip_E) := ip_d295_0 ++ (ip_d295_1 ++ (ip_d295_2 ++ (ip_d295_3 ++ (ip_d295_4 ++ (ip_d295_5 ++ (ip_d295_6 ++ (ip_d295_7 ++ (ip_d295_8 ++ (ip_d295_9 ++ (ip_d295_10 ++ (ip_d295_11 ++ (ip_d295_12 ++ (ip_d295_13 ++ (ip_d295_14 ++ (ip_d295_15 ++ (ip_d295_16 ++ (ip_d295_17 ++ (ip_d295_18 ++ (ip_d295_19 ++ (ip_d295_20 ++ (ip_d295_21 ++ (ip_d295_22 ++ (ip_d295_23 ++ (ip_d295_24 ++ (ip_d295_25 ++ (ip_d295_26 ++ (ip_d295_27 ++ (ip_d295_28 ++ (ip_d295_29 ++ (ip_d295_30 ++ (ip_d295_31 ++ (ip_d295_32 ++ (ip_d295_33 ++ (ip_d295_34 ++ (ip_d295_35 ++ (ip_d295_36 ++ (ip_d295_37 ++ (ip_d295_38 ++ (ip_d295_39 ++ (ip_d295_40 ++ (ip_d295_41 ++ (ip_d295_42 ++ (ip_d295_43 ++ (ip_d295_44 ++ (ip_d295_45 ++ (ip_d295_46 ++ (ip_d295_47 ++ (ip_d295_48))))))))))))))))))))))))))))))))))))))))))))))))
set_option maxRecDepth 100000 in
def ip_cs : List (List (Nat × ip_E)) := [ip_c0, ip_c1, ip_c2, ip_c3, ip_c4, ip_c5, ip_c6, ip_c7, ip_c8, ip_c9, ip_c10, ip_c11, ip_c12, ip_c13, ip_c14, ip_c15, ip_c16, ip_c17, ip_c18, ip_c19, ip_c20, ip_c21, ip_c22, ip_c23, ip_c24, ip_c25, ip_c26, ip_c27, ip_c28, ip_c29, ip_c30, ip_c31, ip_c32, ip_c33, ip_c34, ip_c35, ip_c36, ip_c37, ip_c38, ip_c39, ip_c40, ip_c41, ip_c42, ip_c43, ip_c44, ip_c45, ip_c46, ip_c47, ip_c48, ip_c49, ip_c50, ip_c51, ip_c52, ip_c53, ip_c54, ip_c55, ip_c56, ip_c57, ip_c58, ip_c59, ip_c60, ip_c61, ip_c62, ip_c63, ip_c64, ip_c65, ip_c66, ip_c67, ip_c68, ip_c69, ip_c70, ip_c71, ip_c72, ip_c73, ip_c74, ip_c75, ip_c76, ip_c77, ip_c78, ip_c79, ip_c80, ip_c81, ip_c82, ip_c83, ip_c84, ip_c85, ip_c86, ip_c87, ip_c88, ip_c89, ip_c90, ip_c91, ip_c92, ip_c93, ip_c94, ip_c95, ip_c96, ip_c97, ip_c98, ip_c99, ip_c100, ip_c101, ip_c102, ip_c103, ip_c104, ip_c105, ip_c106, ip_c107, ip_c108, ip_c109, ip_c110, ip_c111, ip_c112, ip_c113, ip_c114, ip_c115, ip_c116, ip_c117, ip_c118, ip_c119, ip_c120, ip_c121, ip_c122, ip_c123, ip_c124, ip_c125, ip_c126, ip_c127, ip_c128, ip_c129, ip_c130, ip_c131, ip_c132, ip_c133, ip_c134, ip_c135, ip_c136, ip_c137, ip_c138, ip_c139, ip_c140, ip_c141, ip_c142, ip_c143, ip_c144, ip_c145, ip_c146, ip_c147, ip_c148, ip_c149, ip_c150, ip_c151, ip_c152, ip_c153, ip_c154, ip_c155, ip_c156, ip_c157, ip_c158, ip_c159, ip_c160, ip_c161, ip_c162, ip_c163, ip_c164, ip_c165, ip_c166, ip_c167, ip_c168, ip_c169, ip_c170, ip_c171, ip_c172, ip_c173, ip_c174, ip_c175, ip_c176, ip_c177, ip_c178, ip_c179, ip_c180, ip_c181, ip_c182, ip_c183, ip_c184, ip_c185, ip_c186, ip_c187, ip_c188, ip_c189, ip_c190, ip_c191, ip_c192, ip_c193, ip_c194, ip_c195, ip_c196, ip_c197, ip_c198, ip_c199, ip_c200, ip_c201, ip_c202, ip_c203, ip_c204, ip_c205, ip_c206, ip_c207, ip_c208, ip_c209, ip_c210, ip_c211, ip_c212, ip_c213, ip_c214, ip_c215, ip_c216, ip_c217, ip_c218, ip_c219, ip_c220, ip_c221, ip_c222, ip_c223, ip_c224, ip_c225, ip_c226, ip_c227, ip_c228, ip_c229, ip_c230, ip_c231, ip_c232, ip_c233, ip_c234, ip_c235, ip_c236, ip_c237, ip_c238, ip_c239, ip_c240, ip_c241, ip_c242, ip_c243, ip_c244, ip_c245, ip_c246, ip_c247, ip_c248, ip_c249, ip_c250, ip_c251, ip_c252, ip_c253, ip_c254, ip_c255, ip_c256, ip_c257, ip_c258, ip_c259, ip_c260, ip_c261, ip_c262, ip_c263, ip_c264, ip_c265, ip_c266, ip_c267, ip_c268, ip_c269, ip_c270, ip_c271, ip_c272, ip_c273, ip_c274, ip_c275, ip_c276, ip_c277, ip_c278, ip_c279, ip_c280, ip_c281, ip_c282, ip_c283, ip_c284, ip_c285, ip_c286, ip_c287, ip_c288, ip_c289, ip_c290, ip_c291, ip_c292, ip_c293, ip_c294, ip_c295]
/-- a method: its name, code, locals, answer, class, frames below, cells, slots, locals words below -/
abbrev ip_MT : Type := MethodName × ByteArray × Nat × Option FieldType × Nat × Nat × Nat × Nat × Nat
def ip_m0 : ip_MT := (yX0_init, cX0_init, 1, none, 0, 1, 2, 12, 60)
def ip_m1 : ip_MT := (yX0_lay, cX0_lay, 3, some .boolean, 0, 4, 0, 0, 107)
def ip_m2 : ip_MT := (yX0_layPart, cX0_layPart, 8, none, 0, 3, 0, 0, 80)
def ip_m3 : ip_MT := (yX0_order, cX0_order, 18, some .int, 0, 2, 0, 0, 43)
def ip_m4 : ip_MT := (yX0_endOf, cX0_endOf, 4, some .long, 0, 0, 0, 0, 0)
def ip_m5 : ip_MT := (yX0_column, cX0_column, 4, some .int, 0, 0, 0, 0, 0)
def ip_m6 : ip_MT := (yX0_isAbove, cX0_isAbove, 4, some .boolean, 0, 0, 0, 0, 0)
def ip_m7 : ip_MT := (yX0_simplestOf, cX0_simplestOf, 24, some .long, 0, 1, 0, 0, 23)
def ip_m8 : ip_MT := (yX0_sharedBy, cX0_sharedBy, 7, some .long, 0, 2, 0, 0, 51)
def ip_m9 : ip_MT := (yX0_leastWhole, cX0_leastWhole, 9, some .long, 0, 1, 0, 0, 23)
def ip_m10 : ip_MT := (yX1_init, cX1_init, 1, none, 1, 2, 10, 707, 80)
def ip_m11 : ip_MT := (yX1_isOn, cX1_isOn, 1, some .boolean, 1, 0, 0, 0, 0)
def ip_m12 : ip_MT := (yX1_hasPeriod, cX1_hasPeriod, 1, some .boolean, 1, 1, 0, 0, 20)
def ip_m13 : ip_MT := (yX1_hasState, cX1_hasState, 2, some .boolean, 1, 1, 0, 0, 20)
def ip_m14 : ip_MT := (yX1_number, cX1_number, 5, some .int, 1, 0, 0, 0, 0)
def ip_m15 : ip_MT := (yX1_floorAt, cX1_floorAt, 3, some .int, 1, 1, 0, 0, 24)
def ip_m16 : ip_MT := (yX1_lay, cX1_lay, 4, none, 1, 1, 0, 0, 22)
def ip_m17 : ip_MT := (yX1_digitOf, cX1_digitOf, 3, some .int, 1, 2, 0, 0, 46)
def ip_m18 : ip_MT := (yX1_canOpen, cX1_canOpen, 3, some .boolean, 1, 4, 0, 0, 111)
def ip_m19 : ip_MT := (yX1_isFit, cX1_isFit, 2, some .boolean, 1, 3, 0, 0, 90)
def ip_m20 : ip_MT := (yX1_open, cX1_open, 5, none, 1, 3, 0, 0, 90)
def ip_m21 : ip_MT := (yX1_close, cX1_close, 1, none, 1, 0, 0, 0, 0)
def ip_m22 : ip_MT := (yX1_reopen, cX1_reopen, 6, none, 1, 5, 0, 0, 122)
def ip_m23 : ip_MT := (yX1_ends, cX1_ends, 1, some .boolean, 1, 2, 0, 0, 45)
def ip_m24 : ip_MT := (yX1_isWhole, cX1_isWhole, 2, some .boolean, 1, 1, 0, 0, 24)
def ip_m25 : ip_MT := (yX1_prepare, cX1_prepare, 2, some .int, 1, 4, 0, 0, 101)
def ip_m26 : ip_MT := (yX1_layRests, cX1_layRests, 2, none, 1, 2, 0, 0, 62)
def ip_m27 : ip_MT := (yX1_take, cX1_take, 1, none, 1, 3, 0, 0, 81)
def ip_m28 : ip_MT := (yX1_saveState, cX1_saveState, 2, none, 1, 1, 0, 0, 22)
def ip_m29 : ip_MT := (yX1_findPeriod, cX1_findPeriod, 2, none, 1, 2, 0, 0, 46)
def ip_m30 : ip_MT := (yX1_isLikeLast, cX1_isLikeLast, 3, some .boolean, 1, 1, 0, 0, 24)
def ip_m31 : ip_MT := (yX1_runOut, cX1_runOut, 3, some .int, 1, 5, 0, 0, 122)
def ip_m32 : ip_MT := (yX1_countOf, cX1_countOf, 4, some .int, 1, 3, 0, 0, 65)
def ip_m33 : ip_MT := (yX1_layRound, cX1_layRound, 3, none, 1, 3, 0, 0, 68)
def ip_m34 : ip_MT := (yX1_layUnit, cX1_layUnit, 9, some .boolean, 1, 3, 0, 0, 81)
def ip_m35 : ip_MT := (yX1_together, cX1_together, 19, some .long, 1, 2, 0, 0, 43)
def ip_m36 : ip_MT := (yX1_thirdOf, cX1_thirdOf, 9, some .int, 1, 1, 0, 0, 27)
def ip_m37 : ip_MT := (yX1_relates, cX1_relates, 8, some .boolean, 1, 0, 0, 0, 0)
def ip_m38 : ip_MT := (yX2_init, cX2_init, 1, none, 2, 2, 3, 14, 80)
def ip_m39 : ip_MT := (yX2_inRange, cX2_inRange, 6, some .boolean, 2, 0, 0, 0, 0)
def ip_m40 : ip_MT := (yX2_canBe, cX2_canBe, 7, some .boolean, 2, 1, 0, 0, 25)
def ip_m41 : ip_MT := (yX2_discriminantOf, cX2_discriminantOf, 6, some .long, 2, 0, 0, 0, 0)
def ip_m42 : ip_MT := (yX2_put, cX2_put, 4, none, 2, 0, 0, 0, 0)
def ip_m43 : ip_MT := (yX2_discriminant, cX2_discriminant, 1, some .int, 2, 1, 0, 0, 25)
def ip_m44 : ip_MT := (yX2_layRows, cX2_layRows, 9, none, 2, 2, 0, 0, 48)
def ip_m45 : ip_MT := (yX2_signOf, cX2_signOf, 21, some .int, 2, 0, 0, 0, 0)
def ip_m46 : ip_MT := (yX2_sign, cX2_sign, 2, some .int, 2, 1, 0, 0, 40)
def ip_m47 : ip_MT := (yX2_signLess, cX2_signLess, 6, some .int, 2, 1, 0, 0, 40)
def ip_m48 : ip_MT := (yX2_signOfDifference, cX2_signOfDifference, 3, some .int, 2, 1, 0, 0, 40)
def ip_m49 : ip_MT := (yX2_floor, cX2_floor, 6, some .int, 2, 2, 0, 0, 65)
def ip_m50 : ip_MT := (yX2_add, cX2_add, 7, none, 2, 2, 0, 0, 61)
def ip_m51 : ip_MT := (yX2_multiply, cX2_multiply, 4, none, 2, 3, 0, 0, 76)
def ip_m52 : ip_MT := (yX2_divide, cX2_divide, 6, none, 2, 3, 0, 0, 76)
def ip_m53 : ip_MT := (yX2_layRatios, cX2_layRatios, 4, some .boolean, 2, 4, 0, 0, 101)
def ip_m54 : ip_MT := (yX3_init, cX3_init, 2, none, 3, 3, 54, 1640, 100)
def ip_m55 : ip_MT := (yX3_add, cX3_add, 2, some (.object "CommonDenominator$Stand"), 3, 2, 0, 0, 42)
def ip_m56 : ip_MT := (yX3_newest, cX3_newest, 1, some (.object "CommonDenominator$Stand"), 3, 2, 0, 0, 42)
def ip_m57 : ip_MT := (yX3_drop, cX3_drop, 2, some .int, 3, 2, 0, 0, 42)
def ip_m58 : ip_MT := (yX3_forget, cX3_forget, 1, none, 3, 0, 0, 0, 0)
def ip_m59 : ip_MT := (yX3_place, cX3_place, 1, some .int, 3, 1, 0, 0, 22)
def ip_m60 : ip_MT := (yX4_init, cX4_init, 1, none, 4, 1, 1, 9, 60)
def ip_m61 : ip_MT := (yX4_has, cX4_has, 2, some .boolean, 4, 0, 0, 0, 0)
def ip_m62 : ip_MT := (yX4_cell, cX4_cell, 3, some .long, 4, 1, 0, 0, 21)
def ip_m63 : ip_MT := (yX4_layRow, cX4_layRow, 8, none, 4, 1, 0, 0, 21)
def ip_m64 : ip_MT := (yX4_layOne, cX4_layOne, 1, none, 4, 2, 0, 0, 48)
def ip_m65 : ip_MT := (yX4_copy, cX4_copy, 2, none, 4, 1, 0, 0, 60)
def ip_m66 : ip_MT := (yX4_follow, cX4_follow, 11, none, 4, 1, 0, 0, 23)
def ip_m67 : ip_MT := (yX4_plus, cX4_plus, 4, some .long, 4, 0, 0, 0, 0)
def ip_m68 : ip_MT := (yX4_times, cX4_times, 3, some .long, 4, 0, 0, 0, 0)
def ip_m69 : ip_MT := (yX4_isBeyond, cX4_isBeyond, 2, some .boolean, 4, 0, 0, 0, 0)
def ip_m70 : ip_MT := (yX4_isAbove, cX4_isAbove, 4, some .boolean, 4, 0, 0, 0, 0)
def ip_m71 : ip_MT := (yX4_cofactor, cX4_cofactor, 7, some .long, 4, 1, 0, 0, 21)
def ip_m72 : ip_MT := (yX4_equate, cX4_equate, 2, some .long, 4, 2, 0, 0, 47)
def ip_m73 : ip_MT := (yX4_under, cX4_under, 3, some .long, 4, 2, 0, 0, 43)
def ip_m74 : ip_MT := (yX5_init, cX5_init, 1, none, 5, 2, 4, 154, 80)
def ip_m75 : ip_MT := (yX5_take, cX5_take, 6, none, 5, 2, 0, 0, 81)
def ip_m76 : ip_MT := (yX5_restore, cX5_restore, 6, none, 5, 6, 0, 0, 147)
def ip_m77 : ip_MT := (yX6_init, cX6_init, 1, none, 6, 2, 3, 322, 80)
def ip_m78 : ip_MT := (yX6_hasRoom, cX6_hasRoom, 2, some .boolean, 6, 0, 0, 0, 0)
def ip_m79 : ip_MT := (yX6_add, cX6_add, 3, none, 6, 1, 0, 0, 21)
def ip_m80 : ip_MT := (yX6_cut, cX6_cut, 2, some .boolean, 6, 0, 0, 0, 0)
def ip_m81 : ip_MT := (yX6_parse, cX6_parse, 2, some .boolean, 6, 4, 0, 0, 87)
def ip_m82 : ip_MT := (yX6_hasText, cX6_hasText, 4, some .boolean, 6, 3, 0, 0, 64)
def ip_m83 : ip_MT := (yX6_wholeNumber, cX6_wholeNumber, 4, some .int, 6, 2, 0, 0, 41)
def ip_m84 : ip_MT := (yX6_takes, cX6_takes, 2, some .boolean, 6, 2, 0, 0, 41)
def ip_m85 : ip_MT := (yX6_skipBlanks, cX6_skipBlanks, 2, none, 6, 1, 0, 0, 20)
def ip_m86 : ip_MT := (yX6_nextIsDigit, cX6_nextIsDigit, 1, some .boolean, 6, 1, 0, 0, 20)
def ip_m87 : ip_MT := (yX6_byteAt, cX6_byteAt, 1, some .int, 6, 0, 0, 0, 0)
def ip_m88 : ip_MT := (yX7_init, cX7_init, 1, none, 7, 1, 1, 6, 60)
def ip_m89 : ip_MT := (yX7_refuse, cX7_refuse, 2, some .int, 7, 0, 0, 0, 0)
def ip_m90 : ip_MT := (yX7_pass, cX7_pass, 2, some .int, 7, 0, 0, 0, 0)
def ip_m91 : ip_MT := (yX7_refusals, cX7_refusals, 2, some .int, 7, 0, 0, 0, 0)
def ip_m92 : ip_MT := (yX8_init, cX8_init, 1, none, 8, 1, 0, 0, 60)
def ip_m93 : ip_MT := (yX8_put, cX8_put, 12, none, 8, 1, 0, 0, 30)
def ip_m94 : ip_MT := (yX8_putDouble, cX8_putDouble, 8, some .boolean, 8, 2, 0, 0, 61)
def ip_m95 : ip_MT := (yX8_copy, cX8_copy, 2, none, 8, 0, 0, 0, 0)
def ip_m96 : ip_MT := (yX8_load, cX8_load, 3, none, 8, 0, 0, 0, 0)
def ip_m97 : ip_MT := (yX8_save, cX8_save, 3, none, 8, 0, 0, 0, 0)
def ip_m98 : ip_MT := (yX8_takeOff, cX8_takeOff, 3, none, 8, 0, 0, 0, 0)
def ip_m99 : ip_MT := (yX8_canBe, cX8_canBe, 1, some .boolean, 8, 1, 0, 0, 21)
def ip_m100 : ip_MT := (yX8_isSmall, cX8_isSmall, 2, some .boolean, 8, 0, 0, 0, 0)
def ip_m101 : ip_MT := (yX8_isZero, cX8_isZero, 1, some .boolean, 8, 0, 0, 0, 0)
def ip_m102 : ip_MT := (yX8_number, cX8_number, 2, some .int, 8, 0, 0, 0, 0)
def ip_m103 : ip_MT := (yX9_init, cX9_init, 1, none, 9, 1, 1, 120, 60)
def ip_m104 : ip_MT := (yX9_add, cX9_add, 4, none, 9, 0, 0, 0, 0)
def ip_m105 : ip_MT := (yX9_copy, cX9_copy, 2, none, 9, 1, 0, 0, 60)
def ip_m106 : ip_MT := (yX9_part, cX9_part, 4, some .int, 9, 0, 0, 0, 0)
def ip_m107 : ip_MT := (yX9_spell, cX9_spell, 3, none, 9, 3, 0, 0, 68)
def ip_m108 : ip_MT := (yX9_isProper, cX9_isProper, 4, some .boolean, 9, 1, 0, 0, 23)
def ip_m109 : ip_MT := (yX10_init, cX10_init, 2, none, 10, 4, 107, 3647, 121)
def ip_m110 : ip_MT := (yX10_field, cX10_field, 4, some .int, 10, 4, 0, 0, 127)
def ip_m111 : ip_MT := (yX10_way, cX10_way, 3, some .int, 10, 1, 0, 0, 21)
def ip_m112 : ip_MT := (yX10_set, cX10_set, 6, some .int, 10, 4, 0, 0, 127)
def ip_m113 : ip_MT := (yX10_measure, cX10_measure, 4, some .int, 10, 4, 0, 0, 127)
def ip_m114 : ip_MT := (yX10_combine, cX10_combine, 5, some .int, 10, 5, 0, 0, 127)
def ip_m115 : ip_MT := (yX10_begin, cX10_begin, 3, some .int, 10, 5, 0, 0, 133)
def ip_m116 : ip_MT := (yX10_step, cX10_step, 2, some .int, 10, 5, 0, 0, 127)
def ip_m117 : ip_MT := (yX10_go, cX10_go, 6, some .int, 10, 5, 0, 0, 127)
def ip_m118 : ip_MT := (yX10_keep, cX10_keep, 3, some .int, 10, 4, 0, 0, 127)
def ip_m119 : ip_MT := (yX10_feed, cX10_feed, 6, some .int, 10, 2, 0, 0, 43)
def ip_m120 : ip_MT := (yX10_end, cX10_end, 2, some .int, 10, 1, 0, 0, 21)
def ip_m121 : ip_MT := (yX10_read, cX10_read, 2, some .int, 10, 5, 0, 0, 127)
def ip_m122 : ip_MT := (yX10_solve, cX10_solve, 1, some .int, 10, 6, 0, 0, 150)
def ip_m123 : ip_MT := (yX10_fault, cX10_fault, 1, some .int, 10, 0, 0, 0, 0)
def ip_m124 : ip_MT := (yX10_undo, cX10_undo, 1, some .int, 10, 7, 0, 0, 172)
def ip_m125 : ip_MT := (yX10_image, cX10_image, 2, some .int, 10, 3, 0, 0, 106)
def ip_m126 : ip_MT := (yX10_back, cX10_back, 2, some .int, 10, 7, 0, 0, 172)
def ip_m127 : ip_MT := (yX10_value, cX10_value, 3, some .int, 10, 3, 0, 0, 90)
def ip_m128 : ip_MT := (yX10_matrix, cX10_matrix, 4, some .long, 10, 3, 0, 0, 76)
def ip_m129 : ip_MT := (yX10_norm, cX10_norm, 6, some .long, 10, 3, 0, 0, 76)
def ip_m130 : ip_MT := (yX10_compare, cX10_compare, 3, some .int, 10, 2, 0, 0, 62)
def ip_m131 : ip_MT := (yX10_state, cX10_state, 4, some .int, 10, 2, 0, 0, 41)
def ip_m132 : ip_MT := (yX10_digit, cX10_digit, 3, some .int, 10, 3, 0, 0, 68)
def ip_m133 : ip_MT := (yX10_product, cX10_product, 3, some .long, 10, 2, 0, 0, 43)
def ip_m134 : ip_MT := (yX10_determinant, cX10_determinant, 1, some .int, 10, 3, 0, 0, 68)
def ip_m135 : ip_MT := (yX10_bounds, cX10_bounds, 3, some .long, 10, 6, 0, 0, 149)
def ip_m136 : ip_MT := (yX10_outer, cX10_outer, 3, some .int, 10, 6, 0, 0, 149)
def ip_m137 : ip_MT := (yX10_inverse, cX10_inverse, 3, some .long, 10, 3, 0, 0, 68)
def ip_m138 : ip_MT := (yX10_side, cX10_side, 4, some .int, 10, 2, 0, 0, 65)
def ip_m139 : ip_MT := (yX10_simplest, cX10_simplest, 3, some .long, 10, 6, 0, 0, 149)
def ip_m140 : ip_MT := (yX10_shared, cX10_shared, 2, some .long, 10, 6, 0, 0, 149)
def ip_m141 : ip_MT := (yX10_period, cX10_period, 2, some .int, 10, 2, 0, 0, 40)
def ip_m142 : ip_MT := (yX10_round, cX10_round, 5, some .long, 10, 4, 0, 0, 90)
def ip_m143 : ip_MT := (yX10_unit, cX10_unit, 2, some .int, 10, 4, 0, 0, 109)
def ip_m144 : ip_MT := (yX10_equation, cX10_equation, 2, some .long, 10, 4, 0, 0, 90)
def ip_m145 : ip_MT := (yX10_isRelation, cX10_isRelation, 4, some .boolean, 10, 1, 0, 0, 27)
def ip_m146 : ip_MT := (yX10_relation, cX10_relation, 3, some .int, 10, 3, 0, 0, 83)
def ip_m147 : ip_MT := (yX10_word, cX10_word, 3, some .int, 10, 1, 0, 0, 23)
def ip_m148 : ip_MT := (yX10_spelt, cX10_spelt, 5, some .long, 10, 4, 0, 0, 90)
def ip_m149 : ip_MT := (yX10_asks, cX10_asks, 2, some .int, 10, 4, 0, 0, 91)
def ip_m150 : ip_MT := (yX10_would, cX10_would, 6, some .int, 10, 6, 0, 0, 144)
def ip_m151 : ip_MT := (yX10_count, cX10_count, 2, some .int, 10, 4, 0, 0, 88)
def ip_m152 : ip_MT := (yX10_status, cX10_status, 1, some .int, 10, 0, 0, 0, 0)
def ip_m153 : ip_MT := (yX10_note, cX10_note, 2, none, 10, 3, 0, 0, 106)
def ip_m154 : ip_MT := (yX10_renew, cX10_renew, 5, none, 10, 2, 0, 0, 61)
def ip_m155 : ip_MT := (yX10_isWithin, cX10_isWithin, 2, some .boolean, 10, 0, 0, 0, 0)
def ip_m156 : ip_MT := (yX10_isStored, cX10_isStored, 1, some .boolean, 10, 0, 0, 0, 0)
def ip_m157 : ip_MT := (yX10_stepsOrNone, cX10_stepsOrNone, 1, some .int, 10, 1, 0, 0, 20)
def ip_m158 : ip_MT := (yX10_join, cX10_join, 4, none, 10, 4, 0, 0, 101)
def ip_m159 : ip_MT := (yX10_solved, cX10_solved, 7, some .boolean, 10, 5, 0, 0, 124)
def ip_m160 : ip_MT := (yX10_hasBounds, cX10_hasBounds, 1, some .boolean, 10, 5, 0, 0, 129)
def ip_m161 : ip_MT := (yX10_leastRelation, cX10_leastRelation, 9, some .int, 10, 2, 0, 0, 55)
def ip_m162 : ip_MT := (yX10_likeDigits, cX10_likeDigits, 4, some .int, 10, 3, 0, 0, 68)
def ip_m163 : ip_MT := (yX10_gcd, cX10_gcd, 11, some .long, 10, 0, 0, 0, 0)
def ip_m164 : ip_MT := (yX10_lowest, cX10_lowest, 7, some .long, 10, 1, 0, 0, 30)
def ip_m165 : ip_MT := (yX11_init, cX11_init, 1, none, 11, 1, 60, 20000, 60)
def ip_m166 : ip_MT := (yX11_in, cX11_in, 3, some .boolean, 11, 0, 0, 0, 0)
def ip_m167 : ip_MT := (yX11_no, cX11_no, 2, some .int, 11, 0, 0, 0, 0)
def ip_m168 : ip_MT := (yX11_yes, cX11_yes, 2, some .int, 11, 0, 0, 0, 0)
def ip_m169 : ip_MT := (yX11_clears, cX11_clears, 6, none, 11, 0, 0, 0, 0)
def ip_m170 : ip_MT := (yX11_keeps, cX11_keeps, 3, none, 11, 0, 0, 0, 0)
def ip_m171 : ip_MT := (yX11_comesBack, cX11_comesBack, 2, none, 11, 0, 0, 0, 0)
def ip_m172 : ip_MT := (yX11_undo, cX11_undo, 1, some .int, 11, 1, 0, 0, 21)
def ip_m173 : ip_MT := (yX11_stepsOrNone, cX11_stepsOrNone, 1, some .int, 11, 0, 0, 0, 0)
def ip_m174 : ip_MT := (yX11_image, cX11_image, 3, some .int, 11, 1, 0, 0, 22)
def ip_m175 : ip_MT := (yX11_back, cX11_back, 3, some .int, 11, 1, 0, 0, 22)
def ip_m176 : ip_MT := (yX11_e1, cX11_e1, 1, some .long, 11, 0, 0, 0, 0)
def ip_m177 : ip_MT := (yX11_e2, cX11_e2, 1, some .long, 11, 0, 0, 0, 0)
def ip_m178 : ip_MT := (yX11_e3, cX11_e3, 1, some .long, 11, 0, 0, 0, 0)
def ip_m179 : ip_MT := (yX11_squares, cX11_squares, 1, some .long, 11, 1, 0, 0, 20)
def ip_m180 : ip_MT := (yX11_mixed, cX11_mixed, 1, some .long, 11, 1, 0, 0, 20)
def ip_m181 : ip_MT := (yX11_pairs, cX11_pairs, 1, some .long, 11, 1, 0, 0, 20)
def ip_m182 : ip_MT := (yX11_traceOf, cX11_traceOf, 7, some .long, 11, 2, 0, 0, 40)
def ip_m183 : ip_MT := (yX11_secondOf, cX11_secondOf, 7, some .long, 11, 2, 0, 0, 40)
def ip_m184 : ip_MT := (yX11_normOf, cX11_normOf, 9, some .long, 11, 2, 0, 0, 40)
def ip_m185 : ip_MT := (yX11_signOf, cX11_signOf, 9, some .int, 11, 3, 0, 0, 68)
def ip_m186 : ip_MT := (yX11_floorOf, cX11_floorOf, 12, some .int, 11, 4, 0, 0, 96)
def ip_m187 : ip_MT := (yX11_common, cX11_common, 10, some .long, 11, 0, 0, 0, 0)
def ip_m188 : ip_MT := (yX11_is, cX11_is, 11, none, 11, 1, 0, 0, 29)
def ip_m189 : ip_MT := (yX11_isSmall, cX11_isSmall, 2, some .boolean, 11, 0, 0, 0, 0)
def ip_m190 : ip_MT := (yX11_canBe, cX11_canBe, 1, some .boolean, 11, 1, 0, 0, 21)
def ip_m191 : ip_MT := (yX11_multiplies, cX11_multiplies, 25, none, 11, 2, 0, 0, 59)
def ip_m192 : ip_MT := (yX11_divides, cX11_divides, 49, none, 11, 3, 0, 0, 103)
def ip_m193 : ip_MT := (yX11_xaAll, cX11_xaAll, 3, some .long, 11, 0, 0, 0, 0)
def ip_m194 : ip_MT := (yX11_xbAll, cX11_xbAll, 3, some .long, 11, 0, 0, 0, 0)
def ip_m195 : ip_MT := (yX11_xcAll, cX11_xcAll, 3, some .long, 11, 0, 0, 0, 0)
def ip_m196 : ip_MT := (yX11_isStore, cX11_isStore, 1, some .boolean, 11, 1, 0, 0, 22)
def ip_m197 : ip_MT := (yX11_at, cX11_at, 3, some .int, 11, 0, 0, 0, 0)
def ip_m198 : ip_MT := (yX11_lays, cX11_lays, 2, some .int, 11, 5, 0, 0, 127)
def ip_m199 : ip_MT := (yX11_discriminantOf, cX11_discriminantOf, 3, some .int, 11, 0, 0, 0, 0)
def ip_m200 : ip_MT := (yX11_isField, cX11_isField, 5, some .boolean, 11, 1, 0, 0, 22)
def ip_m201 : ip_MT := (yX11_field, cX11_field, 4, some .int, 11, 2, 0, 0, 46)
def ip_m202 : ip_MT := (yX11_way, cX11_way, 3, some .int, 11, 1, 0, 0, 22)
def ip_m203 : ip_MT := (yX11_set, cX11_set, 6, some .int, 11, 6, 0, 0, 148)
def ip_m204 : ip_MT := (yX11_measure, cX11_measure, 13, some .int, 11, 6, 0, 0, 148)
def ip_m205 : ip_MT := (yX11_combines, cX11_combines, 21, none, 11, 4, 0, 0, 171)
def ip_m206 : ip_MT := (yX11_isNought, cX11_isNought, 2, some .boolean, 11, 1, 0, 0, 22)
def ip_m207 : ip_MT := (yX11_combine, cX11_combine, 5, some .int, 11, 6, 0, 0, 211)
def ip_m208 : ip_MT := (yX11_stateAt, cX11_stateAt, 3, some .int, 11, 0, 0, 0, 0)
def ip_m209 : ip_MT := (yX11_floorAt, cX11_floorAt, 4, some .int, 11, 5, 0, 0, 127)
def ip_m210 : ip_MT := (yX11_canBegin, cX11_canBegin, 3, some .boolean, 11, 5, 0, 0, 127)
def ip_m211 : ip_MT := (yX11_begins, cX11_begins, 5, none, 11, 1, 0, 0, 22)
def ip_m212 : ip_MT := (yX11_begin, cX11_begin, 3, some .int, 11, 6, 0, 0, 150)
def ip_m213 : ip_MT := (yX11_parts, cX11_parts, 4, none, 11, 6, 0, 0, 150)
def ip_m214 : ip_MT := (yX11_ends, cX11_ends, 1, some .boolean, 11, 7, 0, 0, 173)
def ip_m215 : ip_MT := (yX11_plus, cX11_plus, 5, some .long, 11, 0, 0, 0, 0)
def ip_m216 : ip_MT := (yX11_times, cX11_times, 5, some .long, 11, 0, 0, 0, 0)
def ip_m217 : ip_MT := (yX11_squared, cX11_squared, 6, none, 11, 1, 0, 0, 24)
def ip_m218 : ip_MT := (yX11_isNext, cX11_isNext, 2, some .boolean, 11, 5, 0, 0, 127)
def ip_m219 : ip_MT := (yX11_tries, cX11_tries, 1, some .boolean, 11, 7, 0, 0, 173)
def ip_m220 : ip_MT := (yX11_does, cX11_does, 3, none, 11, 3, 0, 0, 67)
def ip_m221 : ip_MT := (yX11_areAlike, cX11_areAlike, 4, some .boolean, 11, 1, 0, 0, 22)
def ip_m222 : ip_MT := (yX11_looksBack, cX11_looksBack, 3, none, 11, 2, 0, 0, 45)
def ip_m223 : ip_MT := (yX11_step, cX11_step, 1, some .int, 11, 8, 0, 0, 193)
def ip_m224 : ip_MT := (yX11_go, cX11_go, 5, some .int, 11, 8, 0, 0, 193)
def ip_m225 : ip_MT := (yX11_keep, cX11_keep, 5, some .int, 11, 6, 0, 0, 150)
def ip_m226 : ip_MT := (yX11_lays4, cX11_lays4, 3, none, 11, 0, 0, 0, 0)
def ip_m227 : ip_MT := (yX11_feed, cX11_feed, 6, some .int, 11, 1, 0, 0, 22)
def ip_m228 : ip_MT := (yX11_end, cX11_end, 2, some .int, 11, 1, 0, 0, 22)
def ip_m229 : ip_MT := (yX11_isFigure, cX11_isFigure, 1, some .boolean, 11, 0, 0, 0, 0)
def ip_m230 : ip_MT := (yX11_reads, cX11_reads, 1, none, 11, 1, 0, 0, 20)
def ip_m231 : ip_MT := (yX11_isWhole, cX11_isWhole, 1, some .boolean, 11, 0, 0, 0, 0)
def ip_m232 : ip_MT := (yX11_readsOne, cX11_readsOne, 3, some .boolean, 11, 2, 0, 0, 40)
def ip_m233 : ip_MT := (yX11_readsAll, cX11_readsAll, 2, some .int, 11, 3, 0, 0, 62)
def ip_m234 : ip_MT := (yX11_read, cX11_read, 3, some .int, 11, 4, 0, 0, 83)
def ip_m235 : ip_MT := (yX11_fault, cX11_fault, 1, some .int, 11, 0, 0, 0, 0)
def ip_m236 : ip_MT := (yX11_value, cX11_value, 3, some .int, 11, 5, 0, 0, 127)
def ip_m237 : ip_MT := (yX11_matrix, cX11_matrix, 15, some .long, 11, 2, 0, 0, 42)
def ip_m238 : ip_MT := (yX11_norm, cX11_norm, 18, some .long, 11, 3, 0, 0, 68)
def ip_m239 : ip_MT := (yX11_compare, cX11_compare, 7, some .int, 11, 4, 0, 0, 96)
def ip_m240 : ip_MT := (yX11_state, cX11_state, 5, some .int, 11, 6, 0, 0, 150)
def ip_m241 : ip_MT := (yX11_digit, cX11_digit, 3, some .int, 11, 1, 0, 0, 22)
def ip_m242 : ip_MT := (yX11_product, cX11_product, 3, some .long, 11, 1, 0, 0, 22)
def ip_m243 : ip_MT := (yX11_turnedIn, cX11_turnedIn, 5, some .int, 11, 0, 0, 0, 0)
def ip_m244 : ip_MT := (yX11_evenOrOdd, cX11_evenOrOdd, 1, some .int, 11, 0, 0, 0, 0)
def ip_m245 : ip_MT := (yX11_determinant, cX11_determinant, 1, some .int, 11, 1, 0, 0, 24)
def ip_m246 : ip_MT := (yX11_areBounds, cX11_areBounds, 1, some .boolean, 11, 0, 0, 0, 0)
def ip_m247 : ip_MT := (yX11_isBelow, cX11_isBelow, 20, some .boolean, 11, 0, 0, 0, 0)
def ip_m248 : ip_MT := (yX11_outerOf, cX11_outerOf, 6, some .int, 11, 1, 0, 0, 39)
def ip_m249 : ip_MT := (yX11_bounds, cX11_bounds, 7, some .long, 11, 2, 0, 0, 64)
def ip_m250 : ip_MT := (yX11_outer, cX11_outer, 3, some .int, 11, 2, 0, 0, 64)
def ip_m251 : ip_MT := (yX11_isWithinBillion, cX11_isWithinBillion, 2, some .boolean, 11, 0, 0, 0, 0)
def ip_m252 : ip_MT := (yX11_other, cX11_other, 7, some .long, 11, 0, 0, 0, 0)
def ip_m253 : ip_MT := (yX11_inverse, cX11_inverse, 3, some .long, 11, 1, 0, 0, 26)
def ip_m254 : ip_MT := (yX11_side, cX11_side, 5, some .int, 11, 4, 0, 0, 96)
def ip_m255 : ip_MT := (yX11_laysSimplest, cX11_laysSimplest, 16, none, 11, 2, 0, 0, 64)
def ip_m256 : ip_MT := (yX11_simplest, cX11_simplest, 3, some .long, 11, 3, 0, 0, 99)
def ip_m257 : ip_MT := (yX11_areSmall, cX11_areSmall, 6, some .boolean, 11, 2, 0, 0, 64)
def ip_m258 : ip_MT := (yX11_wholeBy, cX11_wholeBy, 16, some .long, 11, 2, 0, 0, 64)
def ip_m259 : ip_MT := (yX11_shared, cX11_shared, 8, some .long, 11, 3, 0, 0, 99)
def ip_m260 : ip_MT := (yX11_isPeriod, cX11_isPeriod, 1, some .boolean, 11, 0, 0, 0, 0)
def ip_m261 : ip_MT := (yX11_period, cX11_period, 2, some .int, 11, 1, 0, 0, 22)
def ip_m262 : ip_MT := (yX11_begins1, cX11_begins1, 2, none, 11, 0, 0, 0, 0)
def ip_m263 : ip_MT := (yX11_rounds, cX11_rounds, 3, none, 11, 2, 0, 0, 49)
def ip_m264 : ip_MT := (yX11_laysRound, cX11_laysRound, 2, some .boolean, 11, 3, 0, 0, 71)
def ip_m265 : ip_MT := (yX11_round, cX11_round, 3, some .long, 11, 4, 0, 0, 92)
def ip_m266 : ip_MT := (yX11_isGreat, cX11_isGreat, 3, some .boolean, 11, 0, 0, 0, 0)
def ip_m267 : ip_MT := (yX11_isUnit, cX11_isUnit, 14, some .boolean, 11, 4, 0, 0, 92)
def ip_m268 : ip_MT := (yX11_unit, cX11_unit, 2, some .int, 11, 5, 0, 0, 125)
def ip_m269 : ip_MT := (yX11_minor, cX11_minor, 3, some .long, 11, 0, 0, 0, 0)
def ip_m270 : ip_MT := (yX11_equation, cX11_equation, 3, some .long, 11, 4, 0, 0, 92)
def ip_m271 : ip_MT := (yX11_isNone, cX11_isNone, 9, some .boolean, 11, 1, 0, 0, 22)
def ip_m272 : ip_MT := (yX11_isRelation, cX11_isRelation, 4, some .boolean, 11, 2, 0, 0, 50)
def ip_m273 : ip_MT := (yX11_size, cX11_size, 1, some .int, 11, 0, 0, 0, 0)
def ip_m274 : ip_MT := (yX11_relation, cX11_relation, 9, some .int, 11, 2, 0, 0, 50)
def ip_m275 : ip_MT := (yX11_word, cX11_word, 3, some .int, 11, 1, 0, 0, 22)
def ip_m276 : ip_MT := (yX11_spelt, cX11_spelt, 4, some .long, 11, 3, 0, 0, 71)
def ip_m277 : ip_MT := (yX11_isProper, cX11_isProper, 3, some .boolean, 11, 0, 0, 0, 0)
def ip_m278 : ip_MT := (yX11_isAsStep, cX11_isAsStep, 3, some .boolean, 11, 0, 0, 0, 0)
def ip_m279 : ip_MT := (yX11_asks, cX11_asks, 3, some .int, 11, 1, 0, 0, 22)
def ip_m280 : ip_MT := (yX11_refusesField, cX11_refusesField, 4, some .int, 11, 1, 0, 0, 21)
def ip_m281 : ip_MT := (yX11_isSolved, cX11_isSolved, 5, some .boolean, 11, 4, 0, 0, 171)
def ip_m282 : ip_MT := (yX11_laysSquares, cX11_laysSquares, 2, some .boolean, 11, 3, 0, 0, 71)
def ip_m283 : ip_MT := (yX11_turnedInWord, cX11_turnedInWord, 3, some .int, 11, 0, 0, 0, 0)
def ip_m284 : ip_MT := (yX11_solve, cX11_solve, 9, some .int, 11, 5, 0, 0, 195)
def ip_m285 : ip_MT := (yX11_second, cX11_second, 5, none, 11, 0, 0, 0, 0)
def ip_m286 : ip_MT := (yX11_goesOn, cX11_goesOn, 1, some .int, 11, 8, 0, 0, 193)
def ip_m287 : ip_MT := (yX11_would, cX11_would, 8, some .int, 11, 9, 0, 0, 213)
def ip_m288 : ip_MT := (yX11_count, cX11_count, 2, some .int, 11, 8, 0, 0, 193)
def ip_m289 : ip_MT := (yX11_status, cX11_status, 1, some .int, 11, 0, 0, 0, 0)
def ip_m290 : ip_MT := (yJ9_floorDiv_f86c9, cJ9_floorDiv_f86c9, 6, some .long, 12, 0, 0, 0, 0)
def ip_m291 : ip_MT := (yJ9_floorMod_7cf53, cJ9_floorMod_7cf53, 3, some .int, 12, 0, 0, 0, 0)
def ip_m292 : ip_MT := (yJ9_floorMod_f86c9, cJ9_floorMod_f86c9, 6, some .long, 12, 0, 0, 0, 0)
def ip_m293 : ip_MT := (yJ9_abs_0f7a4, cJ9_abs_0f7a4, 1, some .int, 12, 0, 0, 0, 0)
def ip_m294 : ip_MT := (yJ9_min_7cf53, cJ9_min_7cf53, 2, some .int, 12, 0, 0, 0, 0)
def ip_m295 : ip_MT := (yL_law, cL_law, 4, some .boolean, 14, 10, 600000, 7302250, 240)
set_option maxRecDepth 100000 in
def ip_mss : List (List ip_MT) := [[ip_m0, ip_m1, ip_m2, ip_m3, ip_m4, ip_m5, ip_m6, ip_m7, ip_m8, ip_m9, ip_m10, ip_m11, ip_m12, ip_m13, ip_m14, ip_m15], [ip_m16, ip_m17, ip_m18, ip_m19, ip_m20, ip_m21, ip_m22, ip_m23, ip_m24, ip_m25, ip_m26, ip_m27, ip_m28, ip_m29, ip_m30, ip_m31], [ip_m32, ip_m33, ip_m34, ip_m35, ip_m36, ip_m37, ip_m38, ip_m39, ip_m40, ip_m41, ip_m42, ip_m43, ip_m44, ip_m45, ip_m46, ip_m47], [ip_m48, ip_m49, ip_m50, ip_m51, ip_m52, ip_m53, ip_m54, ip_m55, ip_m56, ip_m57, ip_m58, ip_m59, ip_m60, ip_m61, ip_m62, ip_m63], [ip_m64, ip_m65, ip_m66, ip_m67, ip_m68, ip_m69, ip_m70, ip_m71, ip_m72, ip_m73, ip_m74, ip_m75, ip_m76, ip_m77, ip_m78, ip_m79], [ip_m80, ip_m81, ip_m82, ip_m83, ip_m84, ip_m85, ip_m86, ip_m87, ip_m88, ip_m89, ip_m90, ip_m91, ip_m92, ip_m93, ip_m94, ip_m95], [ip_m96, ip_m97, ip_m98, ip_m99, ip_m100, ip_m101, ip_m102, ip_m103, ip_m104, ip_m105, ip_m106, ip_m107, ip_m108, ip_m109, ip_m110, ip_m111], [ip_m112, ip_m113, ip_m114, ip_m115, ip_m116, ip_m117, ip_m118, ip_m119, ip_m120, ip_m121, ip_m122, ip_m123, ip_m124, ip_m125, ip_m126, ip_m127], [ip_m128, ip_m129, ip_m130, ip_m131, ip_m132, ip_m133, ip_m134, ip_m135, ip_m136, ip_m137, ip_m138, ip_m139, ip_m140, ip_m141, ip_m142, ip_m143], [ip_m144, ip_m145, ip_m146, ip_m147, ip_m148, ip_m149, ip_m150, ip_m151, ip_m152, ip_m153, ip_m154, ip_m155, ip_m156, ip_m157, ip_m158, ip_m159], [ip_m160, ip_m161, ip_m162, ip_m163, ip_m164, ip_m165, ip_m166, ip_m167, ip_m168, ip_m169, ip_m170, ip_m171, ip_m172, ip_m173, ip_m174, ip_m175], [ip_m176, ip_m177, ip_m178, ip_m179, ip_m180, ip_m181, ip_m182, ip_m183, ip_m184, ip_m185, ip_m186, ip_m187, ip_m188, ip_m189, ip_m190, ip_m191], [ip_m192, ip_m193, ip_m194, ip_m195, ip_m196, ip_m197, ip_m198, ip_m199, ip_m200, ip_m201, ip_m202, ip_m203, ip_m204, ip_m205, ip_m206, ip_m207], [ip_m208, ip_m209, ip_m210, ip_m211, ip_m212, ip_m213, ip_m214, ip_m215, ip_m216, ip_m217, ip_m218, ip_m219, ip_m220, ip_m221, ip_m222, ip_m223], [ip_m224, ip_m225, ip_m226, ip_m227, ip_m228, ip_m229, ip_m230, ip_m231, ip_m232, ip_m233, ip_m234, ip_m235, ip_m236, ip_m237, ip_m238, ip_m239], [ip_m240, ip_m241, ip_m242, ip_m243, ip_m244, ip_m245, ip_m246, ip_m247, ip_m248, ip_m249, ip_m250, ip_m251, ip_m252, ip_m253, ip_m254, ip_m255], [ip_m256, ip_m257, ip_m258, ip_m259, ip_m260, ip_m261, ip_m262, ip_m263, ip_m264, ip_m265, ip_m266, ip_m267, ip_m268, ip_m269, ip_m270, ip_m271], [ip_m272, ip_m273, ip_m274, ip_m275, ip_m276, ip_m277, ip_m278, ip_m279, ip_m280, ip_m281, ip_m282, ip_m283, ip_m284, ip_m285, ip_m286, ip_m287], [ip_m288, ip_m289, ip_m290, ip_m291, ip_m292, ip_m293, ip_m294, ip_m295]]
-- field links: own class, pool number, class of the field, its place, its class is a nest mate
set_option maxRecDepth 100000 in
def ip_F : List (Nat × Nat × Nat × Nat × Bool) := [(0, 9, 0, 0, false), (0, 15, 0, 1, false), (1, 9, 1, 0, false), (1, 15, 1, 1, false), (1, 22, 1, 2, false), (1, 26, 1, 3, false), (1, 30, 1, 4, false), (1, 33, 1, 5, false), (1, 36, 1, 6, false), (1, 39, 1, 7, false), (1, 45, 1, 8, false), (1, 49, 1, 9, false), (1, 52, 1, 10, false), (1, 55, 1, 11, false), (1, 58, 1, 12, false), (1, 61, 1, 13, false), (1, 64, 1, 14, false), (1, 184, 8, 3, true), (1, 188, 8, 0, true), (1, 195, 8, 1, true), (1, 198, 8, 2, true), (2, 7, 2, 0, false), (2, 13, 2, 1, false), (2, 16, 2, 2, false), (2, 22, 2, 3, false), (2, 29, 2, 4, false), (2, 51, 8, 0, true), (2, 55, 8, 1, true), (2, 58, 8, 2, true), (2, 65, 8, 3, true), (3, 11, 3, 0, false), (3, 17, 3, 1, false), (3, 21, 3, 2, false), (3, 24, 3, 3, false), (3, 28, 3, 4, false), (3, 32, 3, 5, false), (4, 9, 4, 0, false), (4, 45, 8, 0, true), (4, 54, 8, 1, true), (4, 57, 8, 2, true), (5, 9, 5, 0, false), (5, 15, 5, 1, false), (5, 18, 5, 2, false), (5, 21, 5, 3, false), (5, 28, 5, 4, false), (5, 32, 5, 5, false), (5, 35, 5, 6, false), (5, 38, 5, 7, false), (5, 41, 2, 0, true), (5, 44, 2, 1, true), (5, 45, 2, 2, true), (5, 56, 1, 3, true), (5, 59, 1, 4, true), (5, 60, 1, 0, true), (6, 9, 6, 0, false), (6, 18, 6, 1, false), (6, 22, 6, 2, false), (6, 26, 6, 3, false), (6, 29, 6, 4, false), (6, 36, 9, 1, true), (7, 9, 7, 0, false), (7, 15, 7, 1, false), (8, 9, 8, 0, false), (8, 15, 8, 1, false), (8, 18, 8, 2, false), (8, 21, 8, 3, false), (9, 9, 9, 0, false), (9, 15, 9, 1, false), (10, 12, 10, 0, false), (10, 20, 10, 1, false), (10, 27, 10, 2, false), (10, 34, 10, 3, false), (10, 41, 10, 4, false), (10, 48, 10, 5, false), (10, 55, 10, 6, false), (10, 59, 10, 7, false), (10, 63, 10, 8, false), (10, 66, 10, 9, false), (10, 72, 10, 10, false), (10, 79, 10, 11, false), (10, 84, 10, 12, false), (10, 88, 10, 13, false), (10, 170, 1, 4, true), (10, 189, 6, 2, true), (10, 198, 6, 1, true), (10, 204, 9, 1, true), (10, 212, 2, 0, true), (10, 215, 2, 1, true), (10, 218, 2, 2, true), (10, 221, 6, 4, true), (10, 224, 3, 5, true), (10, 240, 3, 2, true), (10, 246, 3, 3, true), (10, 268, 8, 0, true), (10, 272, 8, 1, true), (10, 275, 8, 2, true), (10, 282, 2, 3, true), (10, 289, 8, 3, true), (10, 313, 1, 2, true), (10, 344, 1, 5, true), (10, 347, 1, 6, true), (10, 387, 7, 1, true), (11, 7, 11, 1, false), (11, 13, 11, 2, false), (11, 17, 11, 5, false), (11, 20, 11, 6, false), (11, 23, 11, 7, false), (11, 26, 11, 8, false), (11, 29, 11, 9, false), (11, 32, 11, 10, false), (11, 35, 11, 11, false), (11, 39, 11, 28, false), (11, 42, 11, 30, false), (11, 45, 11, 31, false), (11, 48, 11, 33, false), (11, 52, 11, 39, false), (11, 55, 11, 42, false), (11, 58, 11, 43, false), (11, 61, 11, 44, false), (11, 64, 11, 45, false), (11, 67, 11, 46, false), (11, 70, 11, 47, false), (11, 80, 11, 4, false), (11, 83, 11, 12, false), (11, 77, 11, 0, false), (11, 139, 11, 13, false), (11, 143, 11, 14, false), (11, 146, 11, 15, false), (11, 149, 11, 16, false), (11, 199, 11, 3, false), (11, 243, 11, 17, false), (11, 246, 11, 18, false), (11, 252, 11, 22, false), (11, 255, 11, 19, false), (11, 258, 11, 20, false), (11, 261, 11, 21, false), (11, 264, 11, 26, false), (11, 267, 11, 23, false), (11, 270, 11, 24, false), (11, 273, 11, 25, false), (11, 276, 11, 27, false), (11, 285, 11, 29, false), (11, 316, 11, 32, false), (11, 322, 11, 34, false), (11, 325, 11, 36, false), (11, 328, 11, 35, false), (11, 331, 11, 38, false), (11, 334, 11, 37, false), (11, 380, 11, 40, false), (11, 383, 11, 41, false)]
-- method links: own class, pool number, the method, its kind of call
def ip_K0 : List (Nat × Nat × Nat × Nat) := [(0, 19, 62, 1), (0, 25, 2, 1), (0, 29, 3, 0), (0, 33, 164, 3), (0, 39, 4, 1), (0, 42, 9, 1), (1, 21, 60, 5), (1, 44, 92, 5), (1, 68, 11, 1), (1, 73, 14, 1), (1, 77, 96, 1), (1, 81, 15, 1), (1, 85, 19, 0), (1, 89, 46, 1), (1, 95, 49, 1), (1, 98, 21, 1), (1, 101, 95, 1), (1, 105, 28, 1), (1, 108, 64, 1), (1, 111, 20, 1), (1, 115, 25, 1), (1, 119, 27, 1), (1, 122, 24, 1), (1, 126, 23, 1), (1, 129, 26, 1)]
def ip_K1 : List (Nat × Nat × Nat × Nat) := [(1, 133, 101, 1), (1, 136, 52, 1), (1, 140, 93, 1), (1, 144, 99, 1), (1, 147, 65, 1), (1, 150, 66, 1), (1, 154, 69, 1), (1, 157, 16, 1), (1, 161, 98, 1), (1, 165, 48, 1), (1, 169, 29, 1), (1, 172, 97, 1), (1, 175, 30, 1), (1, 178, 12, 1), (1, 181, 17, 1), (1, 191, 35, 0), (1, 205, 62, 1), (1, 209, 290, 0), (1, 215, 292, 0), (1, 220, 37, 1), (2, 21, 60, 5), (2, 28, 92, 5), (2, 37, 41, 0), (2, 47, 63, 1), (2, 61, 45, 1)]
def ip_K2 : List (Nat × Nat × Nat × Nat) := [(2, 68, 47, 1), (2, 72, 93, 1), (2, 76, 44, 1), (2, 80, 73, 1), (2, 84, 72, 1), (2, 88, 71, 1), (2, 92, 62, 1), (2, 95, 101, 1), (2, 99, 52, 1), (3, 35, 74, 5), (3, 36, 59, 1), (3, 40, 291, 0), (4, 15, 61, 0), (4, 19, 63, 1), (4, 29, 68, 0), (4, 33, 67, 0), (4, 41, 71, 1), (4, 51, 62, 1), (5, 27, 103, 5), (5, 46, 97, 1), (5, 52, 105, 1), (5, 69, 42, 1), (5, 73, 96, 1), (5, 76, 21, 1), (5, 79, 22, 1)]
def ip_K3 : List (Nat × Nat × Nat × Nat) := [(6, 17, 103, 5), (6, 32, 78, 1), (6, 37, 82, 1), (6, 41, 83, 1), (6, 45, 84, 1), (6, 49, 104, 1), (6, 53, 85, 1), (6, 56, 86, 1), (6, 59, 87, 1), (6, 62, 294, 0), (8, 24, 163, 3), (8, 32, 93, 1), (8, 40, 99, 1), (8, 44, 100, 0), (9, 25, 64, 1), (9, 30, 106, 1), (9, 34, 66, 1), (10, 11, 38, 5), (10, 26, 10, 5), (10, 33, 103, 5), (10, 40, 77, 5), (10, 47, 54, 2), (10, 54, 88, 5), (10, 71, 60, 5), (10, 78, 0, 5)]
def ip_K4 : List (Nat × Nat × Nat × Nat) := [(10, 83, 92, 5), (10, 91, 39, 0), (10, 95, 89, 1), (10, 99, 40, 0), (10, 102, 153, 1), (10, 106, 154, 1), (10, 110, 43, 1), (10, 114, 90, 1), (10, 117, 155, 0), (10, 121, 156, 0), (10, 125, 93, 1), (10, 129, 49, 1), (10, 133, 94, 1), (10, 137, 95, 1), (10, 141, 101, 1), (10, 145, 158, 1), (10, 149, 99, 1), (10, 151, 18, 0), (10, 155, 20, 1), (10, 159, 15, 1), (10, 163, 25, 1), (10, 167, 27, 1), (10, 173, 12, 1), (10, 176, 11, 1), (10, 179, 16, 1)]
def ip_K5 : List (Nat × Nat × Nat × Nat) := [(10, 183, 78, 1), (10, 186, 79, 1), (10, 192, 80, 1), (10, 195, 81, 1), (10, 201, 105, 1), (10, 205, 107, 1), (10, 209, 159, 1), (10, 227, 56, 1), (10, 231, 76, 1), (10, 237, 57, 1), (10, 244, 75, 1), (10, 250, 157, 1), (10, 253, 58, 1), (10, 257, 46, 1), (10, 260, 102, 1), (10, 263, 61, 0), (10, 278, 44, 1), (10, 285, 62, 1), (10, 292, 72, 1), (10, 296, 164, 0), (10, 300, 48, 1), (10, 304, 13, 1), (10, 307, 14, 1), (10, 310, 17, 1), (10, 316, 160, 1)]
def ip_K6 : List (Nat × Nat × Nat × Nat) := [(10, 319, 4, 1), (10, 322, 5, 1), (10, 327, 70, 1), (10, 330, 71, 1), (10, 333, 47, 1), (10, 337, 7, 1), (10, 340, 6, 1), (10, 341, 8, 1), (10, 350, 33, 1), (10, 355, 69, 1), (10, 358, 34, 1), (10, 362, 37, 1), (10, 366, 161, 1), (10, 369, 106, 1), (10, 372, 108, 1), (10, 375, 162, 1), (10, 378, 31, 1), (10, 381, 32, 1), (10, 384, 91, 1), (10, 390, 55, 1), (10, 393, 42, 1), (10, 395, 21, 1), (10, 398, 50, 1), (10, 401, 51, 1), (10, 405, 52, 1)]
def ip_K7 : List (Nat × Nat × Nat × Nat) := [(10, 410, 53, 1), (10, 414, 1, 1), (10, 417, 36, 1), (10, 420, 293, 0), (10, 425, 294, 0), (10, 428, 163, 0), (11, 73, 169, 1), (11, 86, 167, 1), (11, 90, 171, 1), (11, 93, 168, 1), (11, 96, 166, 0), (11, 100, 173, 1), (11, 104, 176, 1), (11, 110, 177, 1), (11, 115, 178, 1), (11, 118, 179, 1), (11, 121, 180, 1), (11, 124, 181, 1), (11, 127, 184, 1), (11, 131, 185, 1), (11, 135, 187, 0), (11, 156, 189, 0), (11, 160, 188, 1), (11, 164, 182, 1), (11, 167, 183, 1)]
def ip_K8 : List (Nat × Nat × Nat × Nat) := [(11, 170, 191, 1), (11, 174, 193, 1), (11, 178, 194, 1), (11, 181, 195, 1), (11, 184, 186, 1), (11, 188, 199, 0), (11, 192, 200, 0), (11, 195, 170, 1), (11, 202, 196, 0), (11, 206, 198, 1), (11, 215, 197, 1), (11, 219, 192, 1), (11, 223, 206, 1), (11, 226, 205, 1), (11, 229, 190, 1), (11, 233, 210, 1), (11, 237, 211, 1), (11, 240, 209, 1), (11, 249, 208, 1), (11, 280, 213, 1), (11, 288, 216, 1), (11, 291, 215, 1), (11, 294, 217, 1), (11, 298, 218, 1), (11, 301, 222, 1)]
def ip_K9 : List (Nat × Nat × Nat × Nat) := [(11, 304, 221, 1), (11, 307, 214, 1), (11, 310, 219, 1), (11, 313, 220, 1), (11, 319, 226, 1), (11, 337, 229, 1), (11, 340, 231, 1), (11, 343, 230, 1), (11, 346, 232, 1), (11, 349, 233, 1), (11, 355, 243, 1), (11, 358, 244, 0), (11, 361, 247, 0), (11, 365, 246, 1), (11, 368, 248, 1), (11, 373, 251, 1), (11, 376, 252, 1), (11, 386, 255, 1), (11, 389, 257, 1), (11, 394, 258, 1), (11, 398, 260, 1), (11, 401, 262, 1), (11, 404, 263, 1), (11, 407, 264, 1), (11, 412, 266, 1)]
def ip_K10 : List (Nat × Nat × Nat × Nat) := [(11, 415, 267, 1), (11, 418, 269, 1), (11, 421, 271, 1), (11, 424, 273, 0), (11, 427, 277, 1), (11, 430, 278, 1), (11, 433, 282, 1), (11, 438, 283, 1), (11, 441, 281, 1), (11, 444, 280, 1), (11, 447, 285, 1), (11, 451, 286, 1), (14, 9, 109, 2), (14, 12, 165, 2), (14, 13, 110, 1), (14, 17, 201, 1), (14, 18, 111, 1), (14, 22, 202, 1), (14, 23, 112, 1), (14, 27, 203, 1), (14, 30, 113, 1), (14, 34, 204, 1), (14, 35, 114, 1), (14, 39, 207, 1), (14, 40, 115, 1)]
def ip_K11 : List (Nat × Nat × Nat × Nat) := [(14, 44, 212, 1), (14, 45, 116, 1), (14, 49, 223, 1), (14, 50, 117, 1), (14, 53, 224, 1), (14, 54, 118, 1), (14, 57, 225, 1), (14, 58, 119, 1), (14, 61, 227, 1), (14, 62, 120, 1), (14, 65, 228, 1), (14, 66, 121, 1), (14, 69, 234, 1), (14, 70, 122, 1), (14, 73, 284, 1), (14, 74, 123, 1), (14, 77, 235, 1), (14, 78, 124, 1), (14, 81, 172, 1), (14, 82, 125, 1), (14, 85, 174, 1), (14, 86, 126, 1), (14, 89, 175, 1), (14, 90, 127, 1), (14, 93, 236, 1)]
def ip_K12 : List (Nat × Nat × Nat × Nat) := [(14, 94, 128, 1), (14, 98, 237, 1), (14, 99, 129, 1), (14, 102, 238, 1), (14, 103, 130, 1), (14, 106, 239, 1), (14, 107, 131, 1), (14, 111, 240, 1), (14, 112, 132, 1), (14, 115, 241, 1), (14, 116, 133, 1), (14, 120, 242, 1), (14, 121, 134, 1), (14, 124, 245, 1), (14, 125, 135, 1), (14, 129, 249, 1), (14, 130, 136, 1), (14, 134, 250, 1), (14, 135, 137, 1), (14, 138, 253, 1), (14, 139, 138, 1), (14, 143, 254, 1), (14, 144, 139, 1), (14, 147, 256, 1), (14, 148, 140, 1)]
def ip_K13 : List (Nat × Nat × Nat × Nat) := [(14, 152, 259, 1), (14, 153, 141, 1), (14, 156, 261, 1), (14, 157, 142, 1), (14, 160, 265, 1), (14, 161, 143, 1), (14, 164, 268, 1), (14, 165, 144, 1), (14, 168, 270, 1), (14, 169, 145, 1), (14, 173, 272, 1), (14, 174, 146, 1), (14, 177, 274, 1), (14, 178, 147, 1), (14, 181, 275, 1), (14, 182, 148, 1), (14, 185, 276, 1), (14, 186, 149, 1), (14, 189, 279, 1), (14, 190, 150, 1), (14, 193, 287, 1), (14, 194, 151, 1), (14, 197, 288, 1), (14, 198, 152, 1), (14, 201, 289, 1)]
def ip_K : List (Nat × Nat × Nat × Nat) := ip_K0 ++ (ip_K1 ++ (ip_K2 ++ (ip_K3 ++ (ip_K4 ++ (ip_K5 ++ (ip_K6 ++ (ip_K7 ++ (ip_K8 ++ (ip_K9 ++ (ip_K10 ++ (ip_K11 ++ (ip_K12 ++ (ip_K13)))))))))))))
end
noncomputable section
-- PART 04.interp
-- THE INTERPRETER: values are the kit's, a reference is the number of a cell (in the order of making), .retAddr 0 the script, .retAddr 1 nothing
abbrev ip_H : Type := List (Nat × Nat × Nat) × (Nat → Nat → Int32) × (Nat → Nat → Int64) × (Nat → Nat → Option Nat)
abbrev ip_X : Type := Nat × (Nat → Int32)
abbrev ip_Z : Type := Nat × List Value × List Value × ip_H
def ip_at (y pc : Nat) : Option ip_E := (ip_cs.getD y []).lookup pc
def ip_me (y : Nat) : ip_MT := (ip_mss.getD (y / 16) []).getD (y % 16) ip_m0
def ip_nm (y : Nat) : MethodName := (ip_me y).1
def ip_by (y : Nat) : ByteArray := (ip_me y).2.1
def ip_ml (y : Nat) : Nat := (ip_me y).2.2.1
def ip_rt (y : Nat) : Option FieldType := (ip_me y).2.2.2.1
def ip_oc (y : Nat) : Nat := (ip_me y).2.2.2.2.1
def ip_fr (y : Nat) : Nat := (ip_me y).2.2.2.2.2.1
def ip_lw (y : Nat) : Nat := (ip_me y).2.2.2.2.2.2.2.2
def ip_get (ls : List Value) (i : Nat) : Value := ls.getD i (.retAddr 1)
def ip_clr (ls : List Value) : Nat → List Value
  | 0 => ls
  | j + 1 => if (ip_get ls j).category = 2 then ls.set j (.retAddr 1) else ls
def ip_set1 (ls : List Value) (i : Nat) (v : Value) : List Value := (ip_clr ls i).set i v
def ip_set2 (ls : List Value) (i : Nat) (v : Value) : List Value := ((ip_clr ls i).set i v).set (i + 1) (.retAddr 1)
/-- the locals with which a method begins -/
def ip_pad (vs : List Value) : List Value := vs.flatMap fun v => if v.category = 2 then [v, .retAddr 1] else [v]
def ip_ent (n : Nat) (vs : List Value) : List Value := ip_pad vs ++ List.replicate (n - (ip_pad vs).length) (.retAddr 1)
-- memory
def ip_uI (M : ip_H) (k j : Nat) (v : Int32) : ip_H := (M.1, (fun a b => if a = k ∧ b = j then v else M.2.1 a b), M.2.2.1, M.2.2.2)
def ip_uL (M : ip_H) (k j : Nat) (v : Int64) : ip_H := (M.1, M.2.1, (fun a b => if a = k ∧ b = j then v else M.2.2.1 a b), M.2.2.2)
def ip_uR (M : ip_H) (k j : Nat) (v : Option Nat) : ip_H := (M.1, M.2.1, M.2.2.1, (fun a b => if a = k ∧ b = j then v else M.2.2.2 a b))
def ip_nw (M : ip_H) (s : Nat × Nat × Nat) : ip_H := (M.1 ++ [s], (fun a b => if a = M.1.length then 0 else M.2.1 a b), (fun a b => if a = M.1.length then 0 else M.2.2.1 a b), (fun a b => if a = M.1.length then none else M.2.2.2 a b))
def ip_sh (M : ip_H) (k : Nat) : Nat × Nat × Nat := M.1.getD k (2, 0, 0)
def ip_cpI (M : ip_H) (k0 k1 sp dp n : Nat) : ip_H := (M.1, (fun a => if a = k1 then va_cpy (M.2.1 k0) (M.2.1 k1) sp dp n else M.2.1 a), M.2.2.1, M.2.2.2)
def ip_cpL (M : ip_H) (k0 k1 sp dp n : Nat) : ip_H := (M.1, M.2.1, (fun a => if a = k1 then va_cpy (M.2.2.1 k0) (M.2.2.1 k1) sp dp n else M.2.2.1 a), M.2.2.2)
def ip_ty : Nat → FieldType
  | 0 => .int
  | 1 => .long
  | 2 => .byte
  | 3 => .boolean
  | 4 => .object RX8
  | _ => .object RX5
def ip_oi : Nat → Nat
  | 4 => 8
  | _ => 5
/-- the script's method -/
def ip_LAW : Nat := 295
def ip_i1 (st : List Value) (f : Int32 → List Value → Option ip_Z) : Option ip_Z := match st with
  | .int x :: r => f x r
  | _ => none
def ip_i2 (st : List Value) (f : Int32 → Int32 → List Value → Option ip_Z) : Option ip_Z := match st with
  | .int y :: .int x :: r => f x y r
  | _ => none
def ip_l1 (st : List Value) (f : Int64 → List Value → Option ip_Z) : Option ip_Z := match st with
  | .long x :: r => f x r
  | _ => none
def ip_l2 (st : List Value) (f : Int64 → Int64 → List Value → Option ip_Z) : Option ip_Z := match st with
  | .long y :: .long x :: r => f x y r
  | _ => none
def ip_li (st : List Value) (f : Int64 → Int32 → List Value → Option ip_Z) : Option ip_Z := match st with
  | .int y :: .long x :: r => f x y r
  | _ => none
def ip_r1 (st : List Value) (f : Nat → List Value → Option ip_Z) : Option ip_Z := match st with
  | .ref k :: r => f k r
  | _ => none
def ip_cd : ClassFile.Cond → Int32 → Int32 → Bool
  | .eq, x, y => decide (x = y)
  | .ne, x, y => !decide (x = y)
  | .lt, x, y => decide (x < y)
  | .ge, x, y => decide (y ≤ x)
  | .gt, x, y => decide (y < x)
  | .le, x, y => decide (x ≤ y)
/-- the value of a reference -/
def ip_vr (o : Option Nat) : Value := match o with
  | none => .null
  | some k => .ref k
/-- an index within -/
def ip_ix (i : Int32) (n : Nat) : Bool := decide (¬ i < 0) && decide (i.toNatClampNeg < n)
def ip_step (y : Nat) (X : ip_X) (e : ip_E) (ls st : List Value) (M : ip_H) : Option ip_Z :=
  let nx := e.2.1
  let a := e.2.2.1
  let b := e.2.2.2.1
  let t := e.2.2.2.2.1
  let v := e.2.2.2.2.2.2.1
  let ts := e.2.2.2.2.2.2.2
  match e.1 with
  | .iconst _ => some (nx, ls, v :: st, M)
  | .bipush _ => some (nx, ls, v :: st, M)
  | .sipush _ => some (nx, ls, v :: st, M)
  | .lconst _ => some (nx, ls, v :: st, M)
  | .ldc _ => some (nx, ls, v :: st, M)
  | .ldc_w _ => some (nx, ls, v :: st, M)
  | .ldc2_w _ => some (nx, ls, v :: st, M)
  | .iload _ => match ip_get ls a with
    | .int x => some (nx, ls, .int x :: st, M)
    | _ => none
  | .iload_n _ => match ip_get ls a with
    | .int x => some (nx, ls, .int x :: st, M)
    | _ => none
  | .lload _ => match ip_get ls a with
    | .long x => some (nx, ls, .long x :: st, M)
    | _ => none
  | .lload_n _ => match ip_get ls a with
    | .long x => some (nx, ls, .long x :: st, M)
    | _ => none
  | .aload _ => match ip_get ls a with
    | .ref x => some (nx, ls, .ref x :: st, M)
    | .retAddr 0 => some (nx, ls, .retAddr 0 :: st, M)
    | _ => none
  | .aload_n _ => match ip_get ls a with
    | .ref x => some (nx, ls, .ref x :: st, M)
    | .retAddr 0 => some (nx, ls, .retAddr 0 :: st, M)
    | _ => none
  | .istore _ => ip_i1 st fun x r => some (nx, ip_set1 ls a (.int x), r, M)
  | .istore_n _ => ip_i1 st fun x r => some (nx, ip_set1 ls a (.int x), r, M)
  | .lstore _ => ip_l1 st fun x r => some (nx, ip_set2 ls a (.long x), r, M)
  | .lstore_n _ => ip_l1 st fun x r => some (nx, ip_set2 ls a (.long x), r, M)
  | .astore _ => ip_r1 st fun x r => some (nx, ip_set1 ls a (.ref x), r, M)
  | .astore_n _ => ip_r1 st fun x r => some (nx, ip_set1 ls a (.ref x), r, M)
  | .iinc _ _ => match ip_get ls a, v with
    | .int x, .int c => some (nx, ip_set1 ls a (.int (x + c)), st, M)
    | _, _ => none
  | .iadd => ip_i2 st fun x y r => some (nx, ls, .int (x + y) :: r, M)
  | .isub => ip_i2 st fun x y r => some (nx, ls, .int (x - y) :: r, M)
  | .imul => ip_i2 st fun x y r => some (nx, ls, .int (x * y) :: r, M)
  | .idiv => ip_i2 st fun x y r => if y = 0 then none else some (nx, ls, .int (x / y) :: r, M)
  | .irem => ip_i2 st fun x y r => if y = 0 then none else some (nx, ls, .int (x - x / y * y) :: r, M)
  | .ineg => ip_i1 st fun x r => some (nx, ls, .int (-x) :: r, M)
  | .iand => ip_i2 st fun x y r => some (nx, ls, .int (x &&& y) :: r, M)
  | .ior => ip_i2 st fun x y r => some (nx, ls, .int (x ||| y) :: r, M)
  | .ixor => ip_i2 st fun x y r => some (nx, ls, .int (x ^^^ y) :: r, M)
  | .ishl => ip_i2 st fun x y r => some (nx, ls, .int (x <<< (y &&& 31)) :: r, M)
  | .ishr => ip_i2 st fun x y r => some (nx, ls, .int (x >>> (y &&& 31)) :: r, M)
  | .ladd => ip_l2 st fun x y r => some (nx, ls, .long (x + y) :: r, M)
  | .lsub => ip_l2 st fun x y r => some (nx, ls, .long (x - y) :: r, M)
  | .lmul => ip_l2 st fun x y r => some (nx, ls, .long (x * y) :: r, M)
  | .ldiv => ip_l2 st fun x y r => if y = 0 then none else some (nx, ls, .long (x / y) :: r, M)
  | .lrem => ip_l2 st fun x y r => if y = 0 then none else some (nx, ls, .long (x - x / y * y) :: r, M)
  | .lneg => ip_l1 st fun x r => some (nx, ls, .long (-x) :: r, M)
  | .land => ip_l2 st fun x y r => some (nx, ls, .long (x &&& y) :: r, M)
  | .lor => ip_l2 st fun x y r => some (nx, ls, .long (x ||| y) :: r, M)
  | .lxor => ip_l2 st fun x y r => some (nx, ls, .long (x ^^^ y) :: r, M)
  | .lshl => ip_li st fun x y r => some (nx, ls, .long (x <<< (y.toInt64 &&& 63)) :: r, M)
  | .lshr => ip_li st fun x y r => some (nx, ls, .long (x >>> (y.toInt64 &&& 63)) :: r, M)
  | .lushr => ip_li st fun x y r => some (nx, ls, .long ((x.toUInt64 >>> (y.toInt64.toUInt64 &&& Int64.toUInt64 63)).toInt64) :: r, M)
  | .lcmp => ip_l2 st fun x y r => some (nx, ls, .int (lg_cmp x y) :: r, M)
  | .i2l => ip_i1 st fun x r => some (nx, ls, .long x.toInt64 :: r, M)
  | .l2i => ip_l1 st fun x r => some (nx, ls, .int x.toInt32 :: r, M)
  | .i2b => ip_i1 st fun x r => some (nx, ls, .int x.toInt8.toInt32 :: r, M)
  | .goto _ => some (a, ls, st, M)
  | .ifCond c _ => ip_i1 st fun x r => some (if ip_cd c x 0 then a else nx, ls, r, M)
  | .if_icmp c _ => ip_i2 st fun x y r => some (if ip_cd c x y then a else nx, ls, r, M)
  | .tableswitch _ lo hi _ => ip_i1 st fun x r => some (if x.toInt < lo ∨ hi < x.toInt then a else ts.getD (x.toInt - lo).toNat a, ls, r, M)
  | .dup => match st with
    | .ref k :: r => some (nx, ls, .ref k :: .ref k :: r, M)
    | .int k :: r => some (nx, ls, .int k :: .int k :: r, M)
    | _ => none
  | .dup2 => match st with
    | .int i :: .ref k :: r => some (nx, ls, .int i :: .ref k :: .int i :: .ref k :: r, M)
    | _ => none
  | .pop => match st with
    | .int _ :: r => some (nx, ls, r, M)
    | _ => none
  | .pop2 => match st with
    | .long _ :: r => some (nx, ls, r, M)
    | _ => none
  | .getfield _ => ip_r1 st fun k r => if (ip_sh M k).1 = 0 ∧ (ip_sh M k).2.1 = a then
      some (nx, ls, (if t = 1 then .long (M.2.2.1 k b) else if t = 2 then ip_vr (M.2.2.2 k b) else .int (M.2.1 k b)) :: r, M) else none
  | .putfield _ => match st with
    | .int x :: .ref k :: r => if (ip_sh M k).1 = 0 ∧ (ip_sh M k).2.1 = a ∧ (t = 0 ∨ t = 3 ∧ (x = 0 ∨ x = 1)) then some (nx, ls, r, ip_uI M k b x) else none
    | .long x :: .ref k :: r => if (ip_sh M k).1 = 0 ∧ (ip_sh M k).2.1 = a ∧ t = 1 then some (nx, ls, r, ip_uL M k b x) else none
    | .ref x :: .ref k :: r => if (ip_sh M k).1 = 0 ∧ (ip_sh M k).2.1 = a ∧ t = 2 then some (nx, ls, r, ip_uR M k b (some x)) else none
    | _ => none
  | .arraylength => match st with
    | .ref k :: r => if (ip_sh M k).1 = 1 then some (nx, ls, .int (Int32.ofNat (ip_sh M k).2.2) :: r, M) else none
    | .retAddr 0 :: r => if y = ip_LAW then some (nx, ls, .int (Int32.ofNat X.1) :: r, M) else none
    | _ => none
  | .iaload => match st with
    | .int i :: .ref k :: r => if (ip_sh M k).1 = 1 ∧ (ip_sh M k).2.1 = 0 ∧ ip_ix i (ip_sh M k).2.2 = true then some (nx, ls, .int (M.2.1 k i.toNatClampNeg) :: r, M) else none
    | .int i :: .retAddr 0 :: r => if y = ip_LAW ∧ ip_ix i X.1 = true then some (nx, ls, .int (X.2 i.toNatClampNeg) :: r, M) else none
    | _ => none
  | .laload => match st with
    | .int i :: .ref k :: r => if (ip_sh M k).1 = 1 ∧ (ip_sh M k).2.1 = 1 ∧ ip_ix i (ip_sh M k).2.2 = true then some (nx, ls, .long (M.2.2.1 k i.toNatClampNeg) :: r, M) else none
    | _ => none
  | .baload => match st with
    | .int i :: .ref k :: r => if (ip_sh M k).1 = 1 ∧ ((ip_sh M k).2.1 = 2 ∨ (ip_sh M k).2.1 = 3) ∧ ip_ix i (ip_sh M k).2.2 = true then some (nx, ls, .int (M.2.1 k i.toNatClampNeg) :: r, M) else none
    | _ => none
  | .aaload => match st with
    | .int i :: .ref k :: r => if (ip_sh M k).1 = 1 ∧ 4 ≤ (ip_sh M k).2.1 ∧ ip_ix i (ip_sh M k).2.2 = true then some (nx, ls, ip_vr (M.2.2.2 k i.toNatClampNeg) :: r, M) else none
    | _ => none
  | .iastore => match st with
    | .int x :: .int i :: .ref k :: r => if (ip_sh M k).1 = 1 ∧ (ip_sh M k).2.1 = 0 ∧ ip_ix i (ip_sh M k).2.2 = true then some (nx, ls, r, ip_uI M k i.toNatClampNeg x) else none
    | _ => none
  | .lastore => match st with
    | .long x :: .int i :: .ref k :: r => if (ip_sh M k).1 = 1 ∧ (ip_sh M k).2.1 = 1 ∧ ip_ix i (ip_sh M k).2.2 = true then some (nx, ls, r, ip_uL M k i.toNatClampNeg x) else none
    | _ => none
  | .bastore => match st with
    | .int x :: .int i :: .ref k :: r => if (ip_sh M k).1 = 1 ∧ ((ip_sh M k).2.1 = 2 ∨ (ip_sh M k).2.1 = 3) ∧ ip_ix i (ip_sh M k).2.2 = true then
        some (nx, ls, r, ip_uI M k i.toNatClampNeg (if (ip_sh M k).2.1 = 2 then x.toInt8.toInt32 else x &&& 1)) else none
    | _ => none
  | .aastore => match st with
    | .ref x :: .int i :: .ref k :: r => if (ip_sh M k).1 = 1 ∧ 4 ≤ (ip_sh M k).2.1 ∧ (ip_sh M x).1 = 0 ∧ (ip_sh M x).2.1 = ip_oi (ip_sh M k).2.1 ∧ ip_ix i (ip_sh M k).2.2 = true then some (nx, ls, r, ip_uR M k i.toNatClampNeg (some x)) else none
    | _ => none
  | .new _ => some (nx, ls, .ref M.1.length :: st, ip_nw M (0, a, b))
  | .newarray _ => ip_i1 st fun n r => if ¬ n < 0 ∧ n.toNatClampNeg ≤ 10000 then some (nx, ls, .ref M.1.length :: r, ip_nw M (1, a, n.toNatClampNeg)) else none
  | .anewarray _ => ip_i1 st fun n r => if ¬ n < 0 ∧ n.toNatClampNeg ≤ 10000 then some (nx, ls, .ref M.1.length :: r, ip_nw M (1, a, n.toNatClampNeg)) else none
  | .invokespecial _ => ip_r1 st fun _ r => if t = 6 ∧ r.length ≤ 4 then some (nx, ls, r, M) else none
  | .invokestatic _ => match st with
    | .int n :: .int dp :: .ref k1 :: .int sp :: .ref k0 :: r =>
      if t = 7 ∧ r.length ≤ 4 ∧ (ip_sh M k0).1 = 1 ∧ (ip_sh M k1).1 = 1 ∧ (ip_sh M k0).2.1 = (ip_sh M k1).2.1 ∧ (ip_sh M k0).2.1 < 3 ∧ ¬ sp < 0 ∧ ¬ dp < 0 ∧ ¬ n < 0 ∧ sp.toNatClampNeg + n.toNatClampNeg ≤ (ip_sh M k0).2.2 ∧ dp.toNatClampNeg + n.toNatClampNeg ≤ (ip_sh M k1).2.2 then
        if (ip_sh M k0).2.1 = 1 then some (nx, ls, r, ip_cpL M k0 k1 sp.toNatClampNeg dp.toNatClampNeg n.toNatClampNeg)
        else if (ip_sh M k0).2.1 = 0 ∨ ∀ i ∈ List.range n.toNatClampNeg, fits .byte (.int (M.2.1 k0 (sp.toNatClampNeg + i))) = true then some (nx, ls, r, ip_cpI M k0 k1 sp.toNatClampNeg dp.toNatClampNeg n.toNatClampNeg)
        else none
      else none
    | _ => none
  | _ => none
/-- is it a call of a method of the tables? -/
def ip_ic (e : ip_E) : Bool := match e.1 with
  | .invokestatic _ => decide (e.2.2.2.2.1 < 6)
  | .invokevirtual _ => true
  | .invokespecial _ => decide (e.2.2.2.2.1 < 6)
  | _ => false
def ip_rv (e : ip_E) (st : List Value) : Option (Option Value) := match e.1, st with
  | .ireturn, [.int x] => if e.2.2.2.2.1 = 0 ∨ x = 0 ∨ x = 1 then some (some (.int x)) else none
  | .lreturn, [.long x] => some (some (.long x))
  | .areturn, [.ref x] => some (some (.ref x))
  | .return_, [] => some none
  | _, _ => none
def ip_size (l : List (Nat × Nat × Nat)) : Nat := (l.map fun s => s.2.2).sum
/-- the receiver of a call; its arguments fit its locals -/
def ip_rc (e : ip_E) (args : List Value) (M : ip_H) : Bool := decide ((ip_pad args).length ≤ ip_ml e.2.2.1) && match e.2.2.2.2.1, args with
  | 0, _ => true
  | 3, _ => true
  | _, .ref k :: _ => decide ((ip_sh M k).1 = 0 ∧ (ip_sh M k).2.1 = ip_oc e.2.2.1)
  | _, _ => false
/-- the words of a stack -/
def ip_cw (st : List Value) : Nat := (st.map fun v => v.category).sum
def ip_exec (X : ip_X) : Nat → Nat → Nat → List Value → List Value → ip_H → Option (Option Value × ip_H)
  | 0, _, _, _, _, _ => none
  | n + 1, y, pc, ls, st, M => match ip_at y pc with
    | none => none
    | some e =>
      if ip_ic e = true then
        if e.2.2.2.1 ≤ st.length ∧ ip_cw (st.drop e.2.2.2.1) ≤ 8 ∧ ip_rc e (st.take e.2.2.2.1).reverse M = true then
          match ip_exec X n e.2.2.1 0 (ip_ent (ip_ml e.2.2.1) (st.take e.2.2.2.1).reverse) [] M with
          | none => none
          | some (r, M1) => ip_exec X n y e.2.1 ls (r.toList ++ st.drop e.2.2.2.1) M1
        else none
      else match ip_rv e st with
        | some r => some (r, M)
        | none => match ip_step y X e ls st M with
          | none => none
          | some z => ip_exec X n y z.1 z.2.1 z.2.2.1 z.2.2.2
theorem ip_mono (X : ip_X) : ∀ (n y pc : Nat) (ls st : List Value) (M : ip_H) (z : Option Value × ip_H), ip_exec X n y pc ls st M = some z → ip_exec X (n + 1) y pc ls st M = some z := by
  intro n
  induction n with
  | zero => intro y pc ls st M z h; cases h
  | succ n ih =>
    intro y pc ls st M z h
    rw [ip_exec] at h ⊢
    split at h
    · cases h
    · rename_i e he
      split at h
      · rename_i hc
        rw [if_pos hc]
        split at h
        · rename_i hg
          rw [if_pos hg]
          split at h
          · cases h
          · rename_i r M1 hx
            rw [ih _ _ _ _ _ _ hx]
            exact ih _ _ _ _ _ _ h
        · cases h
      · rename_i hc
        rw [if_neg hc]
        split at h
        · exact h
        · split at h
          · cases h
          · rename_i w hw
            exact ih _ _ _ _ _ _ h
theorem ip_mono_le (X : ip_X) {n m y pc : Nat} {ls st : List Value} {M : ip_H} {z : Option Value × ip_H} (hnm : n ≤ m) (h : ip_exec X n y pc ls st M = some z) : ip_exec X m y pc ls st M = some z := by
  induction hnm with
  | refl => exact h
  | step _ ih => exact ip_mono X _ _ _ _ _ _ _ ih
end
noncomputable section
-- PART 05.ok
-- WHAT IS CHECKED OF AN ENTRY, by program; the world of the cells
def ip_os (y : Nat) : String := ip_own.getD (ip_oc y) ""
def ip_dc (y pc : Nat) (i : Instr) (len nx : Nat) : Bool := decide (decode (ip_by y) pc = .ok (i, len)) && decide (nx = pc + len)
def ip_tg (pc : Nat) (off : Int) (a : Nat) : Bool := decide ((pc : Int) + off = (a : Int))
def ip_fty (ci j : Nat) : FieldType := (ip_tys.getD ci (fun _ => .int)) j
def ip_kd : FieldType → Nat
  | .int => 0
  | .long => 1
  | .boolean => 3
  | _ => 2
def ip_fin (ci j : Nat) : Bool := match ip_cl[ci]? with
  | some q => (q.2.1 j).2.2.2
  | none => false
def ip_ok (y pc : Nat) (e : ip_E) : Bool :=
  let nx := e.2.1
  let a := e.2.2.1
  let b := e.2.2.2.1
  let t := e.2.2.2.2.1
  let w := e.2.2.2.2.2.1
  let v := e.2.2.2.2.2.2.1
  let ts := e.2.2.2.2.2.2.2
  match e.1 with
  | .iconst n => ip_dc y pc (.iconst n) 1 nx && decide (v = .int (Int32.ofInt n))
  | .bipush n => ip_dc y pc (.bipush n) 2 nx && decide (v = .int (Int8.ofInt n).toInt32)
  | .sipush n => ip_dc y pc (.sipush n) 3 nx && decide (v = .int (Int16.ofInt n).toInt32)
  | .lconst n => ip_dc y pc (.lconst n) 1 nx && decide (v = .long (Int64.ofNat (n : Nat)))
  | .ldc n => ip_dc y pc (.ldc n) 2 nx && (match v with | .int x => decide (lw_tbl[w]? = some (.constant (ip_os y) n x)) | _ => false)
  | .ldc_w n => ip_dc y pc (.ldc_w n) 3 nx && (match v with | .int x => decide (lw_tbl[w]? = some (.constant (ip_os y) n x)) | _ => false)
  | .ldc2_w n => ip_dc y pc (.ldc2_w n) 3 nx && (match v with | .long x => decide (lw_tbl[w]? = some (.constantLong (ip_os y) n x)) | _ => false)
  | .iload n => ip_dc y pc (.iload n) 2 nx && decide (n = a)
  | .lload n => ip_dc y pc (.lload n) 2 nx && decide (n = a)
  | .aload n => ip_dc y pc (.aload n) 2 nx && decide (n = a)
  | .iload_n n => ip_dc y pc (.iload_n n) 1 nx && decide ((n : Nat) = a)
  | .lload_n n => ip_dc y pc (.lload_n n) 1 nx && decide ((n : Nat) = a)
  | .aload_n n => ip_dc y pc (.aload_n n) 1 nx && decide ((n : Nat) = a)
  | .istore n => ip_dc y pc (.istore n) 2 nx && (decide (n = a) && decide (a < ip_ml y))
  | .lstore n => ip_dc y pc (.lstore n) 2 nx && (decide (n = a) && decide (a + 1 < ip_ml y))
  | .astore n => ip_dc y pc (.astore n) 2 nx && (decide (n = a) && decide (a < ip_ml y))
  | .istore_n n => ip_dc y pc (.istore_n n) 1 nx && (decide ((n : Nat) = a) && decide (a < ip_ml y))
  | .lstore_n n => ip_dc y pc (.lstore_n n) 1 nx && (decide ((n : Nat) = a) && decide (a + 1 < ip_ml y))
  | .astore_n n => ip_dc y pc (.astore_n n) 1 nx && (decide ((n : Nat) = a) && decide (a < ip_ml y))
  | .iinc n k => (ip_dc y pc (.iinc n k) 3 nx || ip_dc y pc (.iinc n k) 6 nx) && (decide (n = a) && (decide (a < ip_ml y) && decide (v = .int (Int32.ofInt k))))
  | .goto off => decide (decode (ip_by y) pc = .ok (.goto off, 3)) && ip_tg pc off a
  | .ifCond c off => ip_dc y pc (.ifCond c off) 3 nx && ip_tg pc off a
  | .if_icmp c off => ip_dc y pc (.if_icmp c off) 3 nx && ip_tg pc off a
  | .tableswitch d lo hi offs => decide (decode (ip_by y) pc = .ok (.tableswitch d lo hi offs, t)) && (ip_tg pc d a && (decide (offs.size = ts.length) && (decide ((hi - lo).toNat < ts.length) && (List.range ts.length).all fun i => decide ((pc : Int) + offs.getD i 0 = ((ts.getD i a : Nat) : Int)))))
  | .getfield n => ip_dc y pc (.getfield n) 3 nx && (decide (ip_F[w]? = some (ip_oc y, n, a, b, false) ∨ ip_F[w]? = some (ip_oc y, n, a, b, true)) && (decide (t = ip_kd (ip_fty a b)) && (match ip_cl[a]? with | some q => decide (b < q.2.2) | none => false)))
  | .putfield n => ip_dc y pc (.putfield n) 3 nx && (decide (ip_F[w]? = some (ip_oc y, n, a, b, false) ∨ ip_F[w]? = some (ip_oc y, n, a, b, true)) && (decide (t = ip_kd (ip_fty a b)) && ((match ip_cl[a]? with | some q => decide (b < q.2.2) | none => false) &&
      (!(ip_fin a b) || (decide ((ip_nm y).name = "<init>") && (decide (ip_oc y = a) && decide (ip_F[w]? = some (ip_oc y, n, a, b, false))))))))
  | .new n => ip_dc y pc (.new n) 3 nx && (match ip_cl[a]? with | some q => decide (q.2.2 = b) && (decide (.classLink (ip_os y) n q.1 ∈ lw_tbl) && (decide (.instantiable q.1 q.2.2 ∈ lw_tbl) && decide (.initialized q.1 ∈ lw_tbl))) | none => false)
  | .newarray n => ip_dc y pc (.newarray n) 2 nx && (decide (newarray.typeOf n = ip_ty a) && (decide (a < 4) && decide (.arrayClass (ip_ty a) ∈ lw_tbl)))
  | .anewarray n => ip_dc y pc (.anewarray n) 3 nx && ((decide (a = 4) || decide (a = 5)) && decide (.classLink (ip_os y) n (if a = 4 then RX8 else RX5) ∈ lw_tbl))
  | .invokestatic n => ip_dc y pc (.invokestatic n) 3 nx && (if t = 7 then decide (.methodLink (ip_os y) n arraycopyName ∈ lw_tbl) && (decide (1 ≤ ip_fr y) && decide (8 + (nativeFrameWords "java/lang/System" "arraycopy" 5 + 11) ≤ ip_lw y)) else
      (decide (t = 0 ∨ t = 3) && (decide (ip_K[w]? = some (ip_oc y, n, a, t)) && (decide ((parseMethodDescriptor (ip_nm a).desc).map (fun d => d.parameters.length) = some b) && (decide (ip_fr a + 1 ≤ ip_fr y) && decide (8 + (ip_ml a + 11) + ip_lw a ≤ ip_lw y))))))
  | .invokevirtual n => ip_dc y pc (.invokevirtual n) 3 nx && (decide (t = 1 ∨ t = 4) && (decide (ip_K[w]? = some (ip_oc y, n, a, t)) && (decide ((parseMethodDescriptor (ip_nm a).desc).map (fun d => d.parameters.length + 1) = some b) && (decide (ip_fr a + 1 ≤ ip_fr y) && decide (8 + (ip_ml a + 11) + ip_lw a ≤ ip_lw y)))))
  | .invokespecial n => ip_dc y pc (.invokespecial n) 3 nx && (if t = 6 then decide (.methodLink (ip_os y) n Lib.objectInit ∈ lw_tbl) && (decide (1 ≤ ip_fr y) && decide (20 ≤ ip_lw y)) else
      (decide (t = 2 ∨ t = 5) && (decide (ip_K[w]? = some (ip_oc y, n, a, t)) && (decide ((parseMethodDescriptor (ip_nm a).desc).map (fun d => d.parameters.length + 1) = some b) && (decide (ip_fr a + 1 ≤ ip_fr y) && (decide (8 + (ip_ml a + 11) + ip_lw a ≤ ip_lw y) && (decide ((ip_nm a).name = "<init>") && decide (ip_rt a = none))))))))
  | .ireturn => ip_dc y pc .ireturn 1 nx && decide ((t = 0 ∧ ip_rt y = some .int) ∨ (t = 3 ∧ ip_rt y = some .boolean))
  | .lreturn => ip_dc y pc .lreturn 1 nx && decide (ip_rt y = some .long)
  | .areturn => ip_dc y pc .areturn 1 nx && (match ip_rt y with | some (.object _) => true | _ => false)
  | .return_ => ip_dc y pc .return_ 1 nx && decide (ip_rt y = none)
  | i => ip_dc y pc i 1 nx
def ip_isN : Cond → Bool
  | .fieldLinkNest .. => true
  | .methodLinkNest .. => true
  | _ => false
def ip_gw (w : Cond) : Bool := goodWord w || ip_isN w
end
noncomputable section
-- PART 06.words
-- THE TABLES WORDS THAT THE LISTS OF 03 NEED, by their places
theorem ip_t1 {w : Cond} (h : w ∈ tables_1_1) : w ∈ lw_tbl := List.mem_append_right _ (show w ∈ tables_1 from List.mem_append_left _ h)
theorem ip_t2 {w : Cond} (h : w ∈ tables_1_2) : w ∈ lw_tbl := List.mem_append_right _ (show w ∈ tables_1 from List.mem_append_right _ (List.mem_append_left _ h))
theorem ip_t3 {w : Cond} (h : w ∈ tables_1_3) : w ∈ lw_tbl := List.mem_append_right _ (show w ∈ tables_1 from List.mem_append_right _ (List.mem_append_right _ (List.mem_append_left _ h)))
theorem ip_t4 {w : Cond} (h : w ∈ tables_1_4) : w ∈ lw_tbl := List.mem_append_right _ (show w ∈ tables_1 from List.mem_append_right _ (List.mem_append_right _ (List.mem_append_right _ (List.mem_append_left _ h))))
theorem ip_t5 {w : Cond} (h : w ∈ tables_1_5) : w ∈ lw_tbl := List.mem_append_right _ (show w ∈ tables_1 from List.mem_append_right _ (List.mem_append_right _ (List.mem_append_right _ (List.mem_append_right _ (List.mem_append_left _ h)))))
theorem ip_t6 {w : Cond} (h : w ∈ tables_1_6) : w ∈ lw_tbl := List.mem_append_right _ (show w ∈ tables_1 from List.mem_append_right _ (List.mem_append_right _ (List.mem_append_right _ (List.mem_append_right _ (List.mem_append_right _ (List.mem_append_left _ h))))))
theorem ip_t7 {w : Cond} (h : w ∈ tables_1_7) : w ∈ lw_tbl := List.mem_append_right _ (show w ∈ tables_1 from List.mem_append_right _ (List.mem_append_right _ (List.mem_append_right _ (List.mem_append_right _ (List.mem_append_right _ (List.mem_append_right _ (List.mem_append_left _ h)))))))
theorem ip_t8 {w : Cond} (h : w ∈ tables_1_8) : w ∈ lw_tbl := List.mem_append_right _ (show w ∈ tables_1 from List.mem_append_right _ (List.mem_append_right _ (List.mem_append_right _ (List.mem_append_right _ (List.mem_append_right _ (List.mem_append_right _ (List.mem_append_right _ (h))))))))
def ip_FC (r : Nat × Nat × Nat × Nat × Bool) : Cond := if r.2.2.2.2 = true then .fieldLinkNest (ip_own.getD r.1 "") r.2.1 ((ip_cl.getD r.2.2.1 (RX0, TX0, 0)).2.1 r.2.2.2.1).1 ((ip_cl.getD r.2.2.1 (RX0, TX0, 0)).2.1 r.2.2.2.1).2.1 ((ip_cl.getD r.2.2.1 (RX0, TX0, 0)).2.1 r.2.2.2.1).2.2.1 RX10 else .fieldLink (ip_own.getD r.1 "") r.2.1 ((ip_cl.getD r.2.2.1 (RX0, TX0, 0)).2.1 r.2.2.2.1).1 ((ip_cl.getD r.2.2.1 (RX0, TX0, 0)).2.1 r.2.2.2.1).2.1 ((ip_cl.getD r.2.2.1 (RX0, TX0, 0)).2.1 r.2.2.2.1).2.2.1
def iy_F0 : List (Nat × Nat × Nat × Nat × Bool) := [(0, 9, 0, 0, false), (0, 15, 0, 1, false), (1, 9, 1, 0, false), (1, 15, 1, 1, false), (1, 22, 1, 2, false), (1, 26, 1, 3, false), (1, 30, 1, 4, false), (1, 33, 1, 5, false), (1, 36, 1, 6, false), (1, 39, 1, 7, false), (1, 45, 1, 8, false), (1, 49, 1, 9, false), (1, 52, 1, 10, false), (1, 55, 1, 11, false), (1, 58, 1, 12, false), (1, 61, 1, 13, false), (1, 64, 1, 14, false), (1, 184, 8, 3, true), (1, 188, 8, 0, true), (1, 195, 8, 1, true), (1, 198, 8, 2, true), (2, 7, 2, 0, false), (2, 13, 2, 1, false), (2, 16, 2, 2, false), (2, 22, 2, 3, false)]
def iy_F1 : List (Nat × Nat × Nat × Nat × Bool) := [(2, 29, 2, 4, false), (2, 51, 8, 0, true), (2, 55, 8, 1, true), (2, 58, 8, 2, true), (2, 65, 8, 3, true), (3, 11, 3, 0, false), (3, 17, 3, 1, false), (3, 21, 3, 2, false), (3, 24, 3, 3, false), (3, 28, 3, 4, false), (3, 32, 3, 5, false), (4, 9, 4, 0, false), (4, 45, 8, 0, true), (4, 54, 8, 1, true), (4, 57, 8, 2, true), (5, 9, 5, 0, false), (5, 15, 5, 1, false), (5, 18, 5, 2, false), (5, 21, 5, 3, false), (5, 28, 5, 4, false), (5, 32, 5, 5, false), (5, 35, 5, 6, false), (5, 38, 5, 7, false), (5, 41, 2, 0, true), (5, 44, 2, 1, true)]
def iy_F2 : List (Nat × Nat × Nat × Nat × Bool) := [(5, 45, 2, 2, true), (5, 56, 1, 3, true), (5, 59, 1, 4, true), (5, 60, 1, 0, true), (6, 9, 6, 0, false), (6, 18, 6, 1, false), (6, 22, 6, 2, false), (6, 26, 6, 3, false), (6, 29, 6, 4, false), (6, 36, 9, 1, true), (7, 9, 7, 0, false), (7, 15, 7, 1, false), (8, 9, 8, 0, false), (8, 15, 8, 1, false), (8, 18, 8, 2, false), (8, 21, 8, 3, false), (9, 9, 9, 0, false), (9, 15, 9, 1, false), (10, 12, 10, 0, false), (10, 20, 10, 1, false), (10, 27, 10, 2, false), (10, 34, 10, 3, false), (10, 41, 10, 4, false), (10, 48, 10, 5, false), (10, 55, 10, 6, false)]
def iy_F3 : List (Nat × Nat × Nat × Nat × Bool) := [(10, 59, 10, 7, false), (10, 63, 10, 8, false), (10, 66, 10, 9, false), (10, 72, 10, 10, false), (10, 79, 10, 11, false), (10, 84, 10, 12, false), (10, 88, 10, 13, false), (10, 170, 1, 4, true), (10, 189, 6, 2, true), (10, 198, 6, 1, true), (10, 204, 9, 1, true), (10, 212, 2, 0, true), (10, 215, 2, 1, true), (10, 218, 2, 2, true), (10, 221, 6, 4, true), (10, 224, 3, 5, true), (10, 240, 3, 2, true), (10, 246, 3, 3, true), (10, 268, 8, 0, true), (10, 272, 8, 1, true), (10, 275, 8, 2, true), (10, 282, 2, 3, true), (10, 289, 8, 3, true), (10, 313, 1, 2, true), (10, 344, 1, 5, true)]
def iy_F4 : List (Nat × Nat × Nat × Nat × Bool) := [(10, 347, 1, 6, true), (10, 387, 7, 1, true), (11, 7, 11, 1, false), (11, 13, 11, 2, false), (11, 17, 11, 5, false), (11, 20, 11, 6, false), (11, 23, 11, 7, false), (11, 26, 11, 8, false), (11, 29, 11, 9, false), (11, 32, 11, 10, false), (11, 35, 11, 11, false), (11, 39, 11, 28, false), (11, 42, 11, 30, false), (11, 45, 11, 31, false), (11, 48, 11, 33, false), (11, 52, 11, 39, false), (11, 55, 11, 42, false), (11, 58, 11, 43, false), (11, 61, 11, 44, false), (11, 64, 11, 45, false), (11, 67, 11, 46, false), (11, 70, 11, 47, false), (11, 80, 11, 4, false), (11, 83, 11, 12, false), (11, 77, 11, 0, false)]
def iy_F5 : List (Nat × Nat × Nat × Nat × Bool) := [(11, 139, 11, 13, false), (11, 143, 11, 14, false), (11, 146, 11, 15, false), (11, 149, 11, 16, false), (11, 199, 11, 3, false), (11, 243, 11, 17, false), (11, 246, 11, 18, false), (11, 252, 11, 22, false), (11, 255, 11, 19, false), (11, 258, 11, 20, false), (11, 261, 11, 21, false), (11, 264, 11, 26, false), (11, 267, 11, 23, false), (11, 270, 11, 24, false), (11, 273, 11, 25, false), (11, 276, 11, 27, false), (11, 285, 11, 29, false), (11, 316, 11, 32, false), (11, 322, 11, 34, false), (11, 325, 11, 36, false), (11, 328, 11, 35, false), (11, 331, 11, 38, false), (11, 334, 11, 37, false), (11, 380, 11, 40, false), (11, 383, 11, 41, false)]
set_option maxRecDepth 100000 in
theorem iy_F_e : ip_F = iy_F0 ++ (iy_F1 ++ (iy_F2 ++ (iy_F3 ++ (iy_F4 ++ iy_F5)))) := by decide +kernel
def iy_FP (r : Nat × Nat × Nat × Nat × Bool) : Prop := ip_FC r ∈ lw_tbl ∧ ip_gw (ip_FC r) = true
set_option maxRecDepth 100000 in
theorem iy_f0 : iy_FP (0, 9, 0, 0, false) := ⟨(ip_t2 (ip_v2_1 (List.mem_of_getElem? (l := ip_u2_1.1) (i := 19) rfl))), rfl⟩
set_option maxRecDepth 100000 in
theorem iy_f1 : iy_FP (0, 15, 0, 1, false) := ⟨(ip_t2 (ip_v2_1 (List.mem_of_getElem? (l := ip_u2_1.1) (i := 20) rfl))), rfl⟩
set_option maxRecDepth 100000 in
theorem iy_f2 : iy_FP (1, 9, 1, 0, false) := ⟨(ip_t1 (ip_v1_3 (List.mem_of_getElem? (l := ip_u1_3.1) (i := 13) rfl))), rfl⟩
set_option maxRecDepth 100000 in
theorem iy_f3 : iy_FP (1, 15, 1, 1, false) := ⟨(ip_t1 (ip_v1_3 (List.mem_of_getElem? (l := ip_u1_3.1) (i := 15) rfl))), rfl⟩
set_option maxRecDepth 100000 in
theorem iy_f4 : iy_FP (1, 22, 1, 2, false) := ⟨(ip_t1 (ip_v1_3 (List.mem_of_getElem? (l := ip_u1_3.1) (i := 16) rfl))), rfl⟩
set_option maxRecDepth 100000 in
theorem iy_f5 : iy_FP (1, 26, 1, 3, false) := ⟨(ip_t1 (ip_v1_3 (List.mem_of_getElem? (l := ip_u1_3.1) (i := 18) rfl))), rfl⟩
set_option maxRecDepth 100000 in
theorem iy_f6 : iy_FP (1, 30, 1, 4, false) := ⟨(ip_t1 (ip_v1_3 (List.mem_of_getElem? (l := ip_u1_3.1) (i := 20) rfl))), rfl⟩
set_option maxRecDepth 100000 in
theorem iy_f7 : iy_FP (1, 33, 1, 5, false) := ⟨(ip_t1 (ip_v1_3 (List.mem_of_getElem? (l := ip_u1_3.1) (i := 23) rfl))), rfl⟩
set_option maxRecDepth 100000 in
theorem iy_f8 : iy_FP (1, 36, 1, 6, false) := ⟨(ip_t1 (ip_v1_3 (List.mem_of_getElem? (l := ip_u1_3.1) (i := 25) rfl))), rfl⟩
set_option maxRecDepth 100000 in
theorem iy_f9 : iy_FP (1, 39, 1, 7, false) := ⟨(ip_t1 (ip_v1_3 (List.mem_of_getElem? (l := ip_u1_3.1) (i := 27) rfl))), rfl⟩
set_option maxRecDepth 100000 in
theorem iy_f10 : iy_FP (1, 45, 1, 8, false) := ⟨(ip_t1 (ip_v1_3 (List.mem_of_getElem? (l := ip_u1_3.1) (i := 28) rfl))), rfl⟩
set_option maxRecDepth 100000 in
theorem iy_f11 : iy_FP (1, 49, 1, 9, false) := ⟨(ip_t1 (ip_v1_3 (List.mem_of_getElem? (l := ip_u1_3.1) (i := 29) rfl))), rfl⟩
set_option maxRecDepth 100000 in
theorem iy_f12 : iy_FP (1, 52, 1, 10, false) := ⟨(ip_t1 (ip_v1_3 (List.mem_of_getElem? (l := ip_u1_3.1) (i := 30) rfl))), rfl⟩
set_option maxRecDepth 100000 in
theorem iy_f13 : iy_FP (1, 55, 1, 11, false) := ⟨(ip_t1 (ip_v1_3 (List.mem_of_getElem? (l := ip_u1_3.1) (i := 31) rfl))), rfl⟩
set_option maxRecDepth 100000 in
theorem iy_f14 : iy_FP (1, 58, 1, 12, false) := ⟨(ip_t1 (ip_v1_4 (List.mem_of_getElem? (l := ip_u1_4.1) (i := 0) rfl))), rfl⟩
set_option maxRecDepth 100000 in
theorem iy_f15 : iy_FP (1, 61, 1, 13, false) := ⟨(ip_t1 (ip_v1_4 (List.mem_of_getElem? (l := ip_u1_4.1) (i := 1) rfl))), rfl⟩
set_option maxRecDepth 100000 in
theorem iy_f16 : iy_FP (1, 64, 1, 14, false) := ⟨(ip_t1 (ip_v1_4 (List.mem_of_getElem? (l := ip_u1_4.1) (i := 2) rfl))), rfl⟩
set_option maxRecDepth 100000 in
theorem iy_f17 : iy_FP (1, 184, 8, 3, true) := ⟨(ip_t1 (ip_v1_2 (List.mem_of_getElem? (l := ip_u1_2.1) (i := 0) rfl))), rfl⟩
set_option maxRecDepth 100000 in
theorem iy_f18 : iy_FP (1, 188, 8, 0, true) := ⟨(ip_t1 (ip_v1_1 (List.mem_of_getElem? (l := ip_u1_1.1) (i := 18) rfl))), rfl⟩
set_option maxRecDepth 100000 in
theorem iy_f19 : iy_FP (1, 195, 8, 1, true) := ⟨(ip_t1 (ip_v1_1 (List.mem_of_getElem? (l := ip_u1_1.1) (i := 23) rfl))), rfl⟩
set_option maxRecDepth 100000 in
theorem iy_f20 : iy_FP (1, 198, 8, 2, true) := ⟨(ip_t1 (ip_v1_1 (List.mem_of_getElem? (l := ip_u1_1.1) (i := 28) rfl))), rfl⟩
set_option maxRecDepth 100000 in
theorem iy_f21 : iy_FP (2, 7, 2, 0, false) := ⟨(ip_t1 (ip_v1_2 (List.mem_of_getElem? (l := ip_u1_2.1) (i := 10) rfl))), rfl⟩
set_option maxRecDepth 100000 in
theorem iy_f22 : iy_FP (2, 13, 2, 1, false) := ⟨(ip_t1 (ip_v1_2 (List.mem_of_getElem? (l := ip_u1_2.1) (i := 13) rfl))), rfl⟩
set_option maxRecDepth 100000 in
theorem iy_f23 : iy_FP (2, 16, 2, 2, false) := ⟨(ip_t1 (ip_v1_2 (List.mem_of_getElem? (l := ip_u1_2.1) (i := 16) rfl))), rfl⟩
set_option maxRecDepth 100000 in
theorem iy_f24 : iy_FP (2, 22, 2, 3, false) := ⟨(ip_t1 (ip_v1_2 (List.mem_of_getElem? (l := ip_u1_2.1) (i := 19) rfl))), rfl⟩
set_option maxRecDepth 100000 in
theorem iy_f25 : iy_FP (2, 29, 2, 4, false) := ⟨(ip_t1 (ip_v1_2 (List.mem_of_getElem? (l := ip_u1_2.1) (i := 21) rfl))), rfl⟩
set_option maxRecDepth 100000 in
theorem iy_f26 : iy_FP (2, 51, 8, 0, true) := ⟨(ip_t1 (ip_v1_1 (List.mem_of_getElem? (l := ip_u1_1.1) (i := 15) rfl))), rfl⟩
set_option maxRecDepth 100000 in
theorem iy_f27 : iy_FP (2, 55, 8, 1, true) := ⟨(ip_t1 (ip_v1_1 (List.mem_of_getElem? (l := ip_u1_1.1) (i := 20) rfl))), rfl⟩
set_option maxRecDepth 100000 in
theorem iy_f28 : iy_FP (2, 58, 8, 2, true) := ⟨(ip_t1 (ip_v1_1 (List.mem_of_getElem? (l := ip_u1_1.1) (i := 25) rfl))), rfl⟩
set_option maxRecDepth 100000 in
theorem iy_f29 : iy_FP (2, 65, 8, 3, true) := ⟨(ip_t1 (ip_v1_1 (List.mem_of_getElem? (l := ip_u1_1.1) (i := 30) rfl))), rfl⟩
set_option maxRecDepth 100000 in
theorem iy_f30 : iy_FP (3, 11, 3, 0, false) := ⟨(ip_t2 (ip_v2_0 (List.mem_of_getElem? (l := ip_u2_0.1) (i := 7) rfl))), rfl⟩
set_option maxRecDepth 100000 in
theorem iy_f31 : iy_FP (3, 17, 3, 1, false) := ⟨(ip_t2 (ip_v2_0 (List.mem_of_getElem? (l := ip_u2_0.1) (i := 8) rfl))), rfl⟩
set_option maxRecDepth 100000 in
theorem iy_f32 : iy_FP (3, 21, 3, 2, false) := ⟨(ip_t2 (ip_v2_0 (List.mem_of_getElem? (l := ip_u2_0.1) (i := 9) rfl))), rfl⟩
set_option maxRecDepth 100000 in
theorem iy_f33 : iy_FP (3, 24, 3, 3, false) := ⟨(ip_t2 (ip_v2_0 (List.mem_of_getElem? (l := ip_u2_0.1) (i := 11) rfl))), rfl⟩
set_option maxRecDepth 100000 in
theorem iy_f34 : iy_FP (3, 28, 3, 4, false) := ⟨(ip_t2 (ip_v2_0 (List.mem_of_getElem? (l := ip_u2_0.1) (i := 13) rfl))), rfl⟩
set_option maxRecDepth 100000 in
theorem iy_f35 : iy_FP (3, 32, 3, 5, false) := ⟨(ip_t2 (ip_v2_0 (List.mem_of_getElem? (l := ip_u2_0.1) (i := 14) rfl))), rfl⟩
set_option maxRecDepth 100000 in
theorem iy_f36 : iy_FP (4, 9, 4, 0, false) := ⟨(ip_t1 (ip_v1_1 (List.mem_of_getElem? (l := ip_u1_1.1) (i := 3) rfl))), rfl⟩
set_option maxRecDepth 100000 in
theorem iy_f37 : iy_FP (4, 45, 8, 0, true) := ⟨(ip_t1 (ip_v1_1 (List.mem_of_getElem? (l := ip_u1_1.1) (i := 16) rfl))), rfl⟩
set_option maxRecDepth 100000 in
theorem iy_f38 : iy_FP (4, 54, 8, 1, true) := ⟨(ip_t1 (ip_v1_1 (List.mem_of_getElem? (l := ip_u1_1.1) (i := 21) rfl))), rfl⟩
set_option maxRecDepth 100000 in
theorem iy_f39 : iy_FP (4, 57, 8, 2, true) := ⟨(ip_t1 (ip_v1_1 (List.mem_of_getElem? (l := ip_u1_1.1) (i := 26) rfl))), rfl⟩
set_option maxRecDepth 100000 in
theorem iy_f40 : iy_FP (5, 9, 5, 0, false) := ⟨(ip_t1 (ip_v1_6 (List.mem_of_getElem? (l := ip_u1_6.1) (i := 29) rfl))), rfl⟩
set_option maxRecDepth 100000 in
theorem iy_f41 : iy_FP (5, 15, 5, 1, false) := ⟨(ip_t1 (ip_v1_6 (List.mem_of_getElem? (l := ip_u1_6.1) (i := 30) rfl))), rfl⟩
set_option maxRecDepth 100000 in
theorem iy_f42 : iy_FP (5, 18, 5, 2, false) := ⟨(ip_t1 (ip_v1_6 (List.mem_of_getElem? (l := ip_u1_6.1) (i := 31) rfl))), rfl⟩
set_option maxRecDepth 100000 in
theorem iy_f43 : iy_FP (5, 21, 5, 3, false) := ⟨(ip_t1 (ip_v1_7 (List.mem_of_getElem? (l := ip_u1_7.1) (i := 0) rfl))), rfl⟩
set_option maxRecDepth 100000 in
theorem iy_f44 : iy_FP (5, 28, 5, 4, false) := ⟨(ip_t1 (ip_v1_7 (List.mem_of_getElem? (l := ip_u1_7.1) (i := 1) rfl))), rfl⟩
set_option maxRecDepth 100000 in
theorem iy_f45 : iy_FP (5, 32, 5, 5, false) := ⟨(ip_t1 (ip_v1_7 (List.mem_of_getElem? (l := ip_u1_7.1) (i := 2) rfl))), rfl⟩
set_option maxRecDepth 100000 in
theorem iy_f46 : iy_FP (5, 35, 5, 6, false) := ⟨(ip_t1 (ip_v1_7 (List.mem_of_getElem? (l := ip_u1_7.1) (i := 3) rfl))), rfl⟩
set_option maxRecDepth 100000 in
theorem iy_f47 : iy_FP (5, 38, 5, 7, false) := ⟨(ip_t1 (ip_v1_7 (List.mem_of_getElem? (l := ip_u1_7.1) (i := 4) rfl))), rfl⟩
set_option maxRecDepth 100000 in
theorem iy_f48 : iy_FP (5, 41, 2, 0, true) := ⟨(ip_t1 (ip_v1_2 (List.mem_of_getElem? (l := ip_u1_2.1) (i := 11) rfl))), rfl⟩
set_option maxRecDepth 100000 in
theorem iy_f49 : iy_FP (5, 44, 2, 1, true) := ⟨(ip_t1 (ip_v1_2 (List.mem_of_getElem? (l := ip_u1_2.1) (i := 14) rfl))), rfl⟩
set_option maxRecDepth 100000 in
theorem iy_f50 : iy_FP (5, 45, 2, 2, true) := ⟨(ip_t1 (ip_v1_2 (List.mem_of_getElem? (l := ip_u1_2.1) (i := 17) rfl))), rfl⟩
set_option maxRecDepth 100000 in
theorem iy_f51 : iy_FP (5, 56, 1, 3, true) := ⟨(ip_t1 (ip_v1_3 (List.mem_of_getElem? (l := ip_u1_3.1) (i := 19) rfl))), rfl⟩
set_option maxRecDepth 100000 in
theorem iy_f52 : iy_FP (5, 59, 1, 4, true) := ⟨(ip_t1 (ip_v1_3 (List.mem_of_getElem? (l := ip_u1_3.1) (i := 21) rfl))), rfl⟩
set_option maxRecDepth 100000 in
theorem iy_f53 : iy_FP (5, 60, 1, 0, true) := ⟨(ip_t1 (ip_v1_3 (List.mem_of_getElem? (l := ip_u1_3.1) (i := 14) rfl))), rfl⟩
set_option maxRecDepth 100000 in
theorem iy_f54 : iy_FP (6, 9, 6, 0, false) := ⟨(ip_t1 (ip_v1_5 (List.mem_of_getElem? (l := ip_u1_5.1) (i := 27) rfl))), rfl⟩
set_option maxRecDepth 100000 in
theorem iy_f55 : iy_FP (6, 18, 6, 1, false) := ⟨(ip_t1 (ip_v1_5 (List.mem_of_getElem? (l := ip_u1_5.1) (i := 28) rfl))), rfl⟩
set_option maxRecDepth 100000 in
theorem iy_f56 : iy_FP (6, 22, 6, 2, false) := ⟨(ip_t1 (ip_v1_5 (List.mem_of_getElem? (l := ip_u1_5.1) (i := 30) rfl))), rfl⟩
set_option maxRecDepth 100000 in
theorem iy_f57 : iy_FP (6, 26, 6, 3, false) := ⟨(ip_t1 (ip_v1_6 (List.mem_of_getElem? (l := ip_u1_6.1) (i := 0) rfl))), rfl⟩
set_option maxRecDepth 100000 in
theorem iy_f58 : iy_FP (6, 29, 6, 4, false) := ⟨(ip_t1 (ip_v1_6 (List.mem_of_getElem? (l := ip_u1_6.1) (i := 1) rfl))), rfl⟩
set_option maxRecDepth 100000 in
theorem iy_f59 : iy_FP (6, 36, 9, 1, true) := ⟨(ip_t1 (ip_v1_5 (List.mem_of_getElem? (l := ip_u1_5.1) (i := 12) rfl))), rfl⟩
set_option maxRecDepth 100000 in
theorem iy_f60 : iy_FP (7, 9, 7, 0, false) := ⟨(ip_t2 (ip_v2_1 (List.mem_of_getElem? (l := ip_u2_1.1) (i := 3) rfl))), rfl⟩
set_option maxRecDepth 100000 in
theorem iy_f61 : iy_FP (7, 15, 7, 1, false) := ⟨(ip_t2 (ip_v2_1 (List.mem_of_getElem? (l := ip_u2_1.1) (i := 4) rfl))), rfl⟩
set_option maxRecDepth 100000 in
theorem iy_f62 : iy_FP (8, 9, 8, 0, false) := ⟨(ip_t1 (ip_v1_1 (List.mem_of_getElem? (l := ip_u1_1.1) (i := 14) rfl))), rfl⟩
set_option maxRecDepth 100000 in
theorem iy_f63 : iy_FP (8, 15, 8, 1, false) := ⟨(ip_t1 (ip_v1_1 (List.mem_of_getElem? (l := ip_u1_1.1) (i := 19) rfl))), rfl⟩
set_option maxRecDepth 100000 in
theorem iy_f64 : iy_FP (8, 18, 8, 2, false) := ⟨(ip_t1 (ip_v1_1 (List.mem_of_getElem? (l := ip_u1_1.1) (i := 24) rfl))), rfl⟩
set_option maxRecDepth 100000 in
theorem iy_f65 : iy_FP (8, 21, 8, 3, false) := ⟨(ip_t1 (ip_v1_1 (List.mem_of_getElem? (l := ip_u1_1.1) (i := 29) rfl))), rfl⟩
set_option maxRecDepth 100000 in
theorem iy_f66 : iy_FP (9, 9, 9, 0, false) := ⟨(ip_t1 (ip_v1_5 (List.mem_of_getElem? (l := ip_u1_5.1) (i := 10) rfl))), rfl⟩
set_option maxRecDepth 100000 in
theorem iy_f67 : iy_FP (9, 15, 9, 1, false) := ⟨(ip_t1 (ip_v1_5 (List.mem_of_getElem? (l := ip_u1_5.1) (i := 11) rfl))), rfl⟩
set_option maxRecDepth 100000 in
theorem iy_f68 : iy_FP (10, 12, 10, 0, false) := ⟨(ip_t2 (ip_v2_1 (List.mem_of_getElem? (l := ip_u2_1.1) (i := 27) rfl))), rfl⟩
set_option maxRecDepth 100000 in
theorem iy_f69 : iy_FP (10, 20, 10, 1, false) := ⟨(ip_t2 (ip_v2_1 (List.mem_of_getElem? (l := ip_u2_1.1) (i := 28) rfl))), rfl⟩
set_option maxRecDepth 100000 in
theorem iy_f70 : iy_FP (10, 27, 10, 2, false) := ⟨(ip_t2 (ip_v2_1 (List.mem_of_getElem? (l := ip_u2_1.1) (i := 29) rfl))), rfl⟩
set_option maxRecDepth 100000 in
theorem iy_f71 : iy_FP (10, 34, 10, 3, false) := ⟨(ip_t2 (ip_v2_1 (List.mem_of_getElem? (l := ip_u2_1.1) (i := 30) rfl))), rfl⟩
set_option maxRecDepth 100000 in
theorem iy_f72 : iy_FP (10, 41, 10, 4, false) := ⟨(ip_t2 (ip_v2_1 (List.mem_of_getElem? (l := ip_u2_1.1) (i := 31) rfl))), rfl⟩
set_option maxRecDepth 100000 in
theorem iy_f73 : iy_FP (10, 48, 10, 5, false) := ⟨(ip_t2 (ip_v2_2 (List.mem_of_getElem? (l := ip_u2_2.1) (i := 0) rfl))), rfl⟩
set_option maxRecDepth 100000 in
theorem iy_f74 : iy_FP (10, 55, 10, 6, false) := ⟨(ip_t2 (ip_v2_2 (List.mem_of_getElem? (l := ip_u2_2.1) (i := 1) rfl))), rfl⟩
set_option maxRecDepth 100000 in
theorem iy_f75 : iy_FP (10, 59, 10, 7, false) := ⟨(ip_t2 (ip_v2_2 (List.mem_of_getElem? (l := ip_u2_2.1) (i := 2) rfl))), rfl⟩
set_option maxRecDepth 100000 in
theorem iy_f76 : iy_FP (10, 63, 10, 8, false) := ⟨(ip_t2 (ip_v2_2 (List.mem_of_getElem? (l := ip_u2_2.1) (i := 3) rfl))), rfl⟩
set_option maxRecDepth 100000 in
theorem iy_f77 : iy_FP (10, 66, 10, 9, false) := ⟨(ip_t2 (ip_v2_2 (List.mem_of_getElem? (l := ip_u2_2.1) (i := 4) rfl))), rfl⟩
set_option maxRecDepth 100000 in
theorem iy_f78 : iy_FP (10, 72, 10, 10, false) := ⟨(ip_t2 (ip_v2_2 (List.mem_of_getElem? (l := ip_u2_2.1) (i := 5) rfl))), rfl⟩
set_option maxRecDepth 100000 in
theorem iy_f79 : iy_FP (10, 79, 10, 11, false) := ⟨(ip_t2 (ip_v2_2 (List.mem_of_getElem? (l := ip_u2_2.1) (i := 6) rfl))), rfl⟩
set_option maxRecDepth 100000 in
theorem iy_f80 : iy_FP (10, 84, 10, 12, false) := ⟨(ip_t2 (ip_v2_2 (List.mem_of_getElem? (l := ip_u2_2.1) (i := 7) rfl))), rfl⟩
set_option maxRecDepth 100000 in
theorem iy_f81 : iy_FP (10, 88, 10, 13, false) := ⟨(ip_t2 (ip_v2_2 (List.mem_of_getElem? (l := ip_u2_2.1) (i := 8) rfl))), rfl⟩
set_option maxRecDepth 100000 in
theorem iy_f82 : iy_FP (10, 170, 1, 4, true) := ⟨(ip_t1 (ip_v1_3 (List.mem_of_getElem? (l := ip_u1_3.1) (i := 22) rfl))), rfl⟩
set_option maxRecDepth 100000 in
theorem iy_f83 : iy_FP (10, 189, 6, 2, true) := ⟨(ip_t1 (ip_v1_5 (List.mem_of_getElem? (l := ip_u1_5.1) (i := 31) rfl))), rfl⟩
set_option maxRecDepth 100000 in
theorem iy_f84 : iy_FP (10, 198, 6, 1, true) := ⟨(ip_t1 (ip_v1_5 (List.mem_of_getElem? (l := ip_u1_5.1) (i := 29) rfl))), rfl⟩
set_option maxRecDepth 100000 in
theorem iy_f85 : iy_FP (10, 204, 9, 1, true) := ⟨(ip_t1 (ip_v1_5 (List.mem_of_getElem? (l := ip_u1_5.1) (i := 13) rfl))), rfl⟩
set_option maxRecDepth 100000 in
theorem iy_f86 : iy_FP (10, 212, 2, 0, true) := ⟨(ip_t1 (ip_v1_2 (List.mem_of_getElem? (l := ip_u1_2.1) (i := 12) rfl))), rfl⟩
set_option maxRecDepth 100000 in
theorem iy_f87 : iy_FP (10, 215, 2, 1, true) := ⟨(ip_t1 (ip_v1_2 (List.mem_of_getElem? (l := ip_u1_2.1) (i := 15) rfl))), rfl⟩
set_option maxRecDepth 100000 in
theorem iy_f88 : iy_FP (10, 218, 2, 2, true) := ⟨(ip_t1 (ip_v1_2 (List.mem_of_getElem? (l := ip_u1_2.1) (i := 18) rfl))), rfl⟩
set_option maxRecDepth 100000 in
theorem iy_f89 : iy_FP (10, 221, 6, 4, true) := ⟨(ip_t1 (ip_v1_6 (List.mem_of_getElem? (l := ip_u1_6.1) (i := 2) rfl))), rfl⟩
set_option maxRecDepth 100000 in
theorem iy_f90 : iy_FP (10, 224, 3, 5, true) := ⟨(ip_t2 (ip_v2_0 (List.mem_of_getElem? (l := ip_u2_0.1) (i := 15) rfl))), rfl⟩
set_option maxRecDepth 100000 in
theorem iy_f91 : iy_FP (10, 240, 3, 2, true) := ⟨(ip_t2 (ip_v2_0 (List.mem_of_getElem? (l := ip_u2_0.1) (i := 10) rfl))), rfl⟩
set_option maxRecDepth 100000 in
theorem iy_f92 : iy_FP (10, 246, 3, 3, true) := ⟨(ip_t2 (ip_v2_0 (List.mem_of_getElem? (l := ip_u2_0.1) (i := 12) rfl))), rfl⟩
set_option maxRecDepth 100000 in
theorem iy_f93 : iy_FP (10, 268, 8, 0, true) := ⟨(ip_t1 (ip_v1_1 (List.mem_of_getElem? (l := ip_u1_1.1) (i := 17) rfl))), rfl⟩
set_option maxRecDepth 100000 in
theorem iy_f94 : iy_FP (10, 272, 8, 1, true) := ⟨(ip_t1 (ip_v1_1 (List.mem_of_getElem? (l := ip_u1_1.1) (i := 22) rfl))), rfl⟩
set_option maxRecDepth 100000 in
theorem iy_f95 : iy_FP (10, 275, 8, 2, true) := ⟨(ip_t1 (ip_v1_1 (List.mem_of_getElem? (l := ip_u1_1.1) (i := 27) rfl))), rfl⟩
set_option maxRecDepth 100000 in
theorem iy_f96 : iy_FP (10, 282, 2, 3, true) := ⟨(ip_t1 (ip_v1_2 (List.mem_of_getElem? (l := ip_u1_2.1) (i := 20) rfl))), rfl⟩
set_option maxRecDepth 100000 in
theorem iy_f97 : iy_FP (10, 289, 8, 3, true) := ⟨(ip_t1 (ip_v1_1 (List.mem_of_getElem? (l := ip_u1_1.1) (i := 31) rfl))), rfl⟩
set_option maxRecDepth 100000 in
theorem iy_f98 : iy_FP (10, 313, 1, 2, true) := ⟨(ip_t1 (ip_v1_3 (List.mem_of_getElem? (l := ip_u1_3.1) (i := 17) rfl))), rfl⟩
set_option maxRecDepth 100000 in
theorem iy_f99 : iy_FP (10, 344, 1, 5, true) := ⟨(ip_t1 (ip_v1_3 (List.mem_of_getElem? (l := ip_u1_3.1) (i := 24) rfl))), rfl⟩
set_option maxRecDepth 100000 in
theorem iy_f100 : iy_FP (10, 347, 1, 6, true) := ⟨(ip_t1 (ip_v1_3 (List.mem_of_getElem? (l := ip_u1_3.1) (i := 26) rfl))), rfl⟩
set_option maxRecDepth 100000 in
theorem iy_f101 : iy_FP (10, 387, 7, 1, true) := ⟨(ip_t2 (ip_v2_1 (List.mem_of_getElem? (l := ip_u2_1.1) (i := 5) rfl))), rfl⟩
set_option maxRecDepth 100000 in
theorem iy_f102 : iy_FP (11, 7, 11, 1, false) := ⟨(ip_t5 (ip_v5_2 (List.mem_of_getElem? (l := ip_u5_2.1) (i := 23) rfl))), rfl⟩
set_option maxRecDepth 100000 in
theorem iy_f103 : iy_FP (11, 13, 11, 2, false) := ⟨(ip_t5 (ip_v5_2 (List.mem_of_getElem? (l := ip_u5_2.1) (i := 24) rfl))), rfl⟩
set_option maxRecDepth 100000 in
theorem iy_f104 : iy_FP (11, 17, 11, 5, false) := ⟨(ip_t5 (ip_v5_2 (List.mem_of_getElem? (l := ip_u5_2.1) (i := 27) rfl))), rfl⟩
set_option maxRecDepth 100000 in
theorem iy_f105 : iy_FP (11, 20, 11, 6, false) := ⟨(ip_t5 (ip_v5_2 (List.mem_of_getElem? (l := ip_u5_2.1) (i := 28) rfl))), rfl⟩
set_option maxRecDepth 100000 in
theorem iy_f106 : iy_FP (11, 23, 11, 7, false) := ⟨(ip_t5 (ip_v5_2 (List.mem_of_getElem? (l := ip_u5_2.1) (i := 29) rfl))), rfl⟩
set_option maxRecDepth 100000 in
theorem iy_f107 : iy_FP (11, 26, 11, 8, false) := ⟨(ip_t5 (ip_v5_2 (List.mem_of_getElem? (l := ip_u5_2.1) (i := 30) rfl))), rfl⟩
set_option maxRecDepth 100000 in
theorem iy_f108 : iy_FP (11, 29, 11, 9, false) := ⟨(ip_t5 (ip_v5_2 (List.mem_of_getElem? (l := ip_u5_2.1) (i := 31) rfl))), rfl⟩
set_option maxRecDepth 100000 in
theorem iy_f109 : iy_FP (11, 32, 11, 10, false) := ⟨(ip_t5 (ip_v5_3 (List.mem_of_getElem? (l := ip_u5_3.1) (i := 0) rfl))), rfl⟩
set_option maxRecDepth 100000 in
theorem iy_f110 : iy_FP (11, 35, 11, 11, false) := ⟨(ip_t5 (ip_v5_3 (List.mem_of_getElem? (l := ip_u5_3.1) (i := 1) rfl))), rfl⟩
set_option maxRecDepth 100000 in
theorem iy_f111 : iy_FP (11, 39, 11, 28, false) := ⟨(ip_t5 (ip_v5_3 (List.mem_of_getElem? (l := ip_u5_3.1) (i := 18) rfl))), rfl⟩
set_option maxRecDepth 100000 in
theorem iy_f112 : iy_FP (11, 42, 11, 30, false) := ⟨(ip_t5 (ip_v5_3 (List.mem_of_getElem? (l := ip_u5_3.1) (i := 20) rfl))), rfl⟩
set_option maxRecDepth 100000 in
theorem iy_f113 : iy_FP (11, 45, 11, 31, false) := ⟨(ip_t5 (ip_v5_3 (List.mem_of_getElem? (l := ip_u5_3.1) (i := 21) rfl))), rfl⟩
set_option maxRecDepth 100000 in
theorem iy_f114 : iy_FP (11, 48, 11, 33, false) := ⟨(ip_t5 (ip_v5_3 (List.mem_of_getElem? (l := ip_u5_3.1) (i := 23) rfl))), rfl⟩
set_option maxRecDepth 100000 in
theorem iy_f115 : iy_FP (11, 52, 11, 39, false) := ⟨(ip_t5 (ip_v5_3 (List.mem_of_getElem? (l := ip_u5_3.1) (i := 29) rfl))), rfl⟩
set_option maxRecDepth 100000 in
theorem iy_f116 : iy_FP (11, 55, 11, 42, false) := ⟨(ip_t5 (ip_v5_4 (List.mem_of_getElem? (l := ip_u5_4.1) (i := 0) rfl))), rfl⟩
set_option maxRecDepth 100000 in
theorem iy_f117 : iy_FP (11, 58, 11, 43, false) := ⟨(ip_t5 (ip_v5_4 (List.mem_of_getElem? (l := ip_u5_4.1) (i := 1) rfl))), rfl⟩
set_option maxRecDepth 100000 in
theorem iy_f118 : iy_FP (11, 61, 11, 44, false) := ⟨(ip_t5 (ip_v5_4 (List.mem_of_getElem? (l := ip_u5_4.1) (i := 2) rfl))), rfl⟩
set_option maxRecDepth 100000 in
theorem iy_f119 : iy_FP (11, 64, 11, 45, false) := ⟨(ip_t5 (ip_v5_4 (List.mem_of_getElem? (l := ip_u5_4.1) (i := 3) rfl))), rfl⟩
set_option maxRecDepth 100000 in
theorem iy_f120 : iy_FP (11, 67, 11, 46, false) := ⟨(ip_t5 (ip_v5_4 (List.mem_of_getElem? (l := ip_u5_4.1) (i := 4) rfl))), rfl⟩
set_option maxRecDepth 100000 in
theorem iy_f121 : iy_FP (11, 70, 11, 47, false) := ⟨(ip_t5 (ip_v5_4 (List.mem_of_getElem? (l := ip_u5_4.1) (i := 5) rfl))), rfl⟩
set_option maxRecDepth 100000 in
theorem iy_f122 : iy_FP (11, 80, 11, 4, false) := ⟨(ip_t5 (ip_v5_2 (List.mem_of_getElem? (l := ip_u5_2.1) (i := 26) rfl))), rfl⟩
set_option maxRecDepth 100000 in
theorem iy_f123 : iy_FP (11, 83, 11, 12, false) := ⟨(ip_t5 (ip_v5_3 (List.mem_of_getElem? (l := ip_u5_3.1) (i := 2) rfl))), rfl⟩
set_option maxRecDepth 100000 in
theorem iy_f124 : iy_FP (11, 77, 11, 0, false) := ⟨(ip_t5 (ip_v5_2 (List.mem_of_getElem? (l := ip_u5_2.1) (i := 22) rfl))), rfl⟩
set_option maxRecDepth 100000 in
theorem iy_f125 : iy_FP (11, 139, 11, 13, false) := ⟨(ip_t5 (ip_v5_3 (List.mem_of_getElem? (l := ip_u5_3.1) (i := 3) rfl))), rfl⟩
set_option maxRecDepth 100000 in
theorem iy_f126 : iy_FP (11, 143, 11, 14, false) := ⟨(ip_t5 (ip_v5_3 (List.mem_of_getElem? (l := ip_u5_3.1) (i := 4) rfl))), rfl⟩
set_option maxRecDepth 100000 in
theorem iy_f127 : iy_FP (11, 146, 11, 15, false) := ⟨(ip_t5 (ip_v5_3 (List.mem_of_getElem? (l := ip_u5_3.1) (i := 5) rfl))), rfl⟩
set_option maxRecDepth 100000 in
theorem iy_f128 : iy_FP (11, 149, 11, 16, false) := ⟨(ip_t5 (ip_v5_3 (List.mem_of_getElem? (l := ip_u5_3.1) (i := 6) rfl))), rfl⟩
set_option maxRecDepth 100000 in
theorem iy_f129 : iy_FP (11, 199, 11, 3, false) := ⟨(ip_t5 (ip_v5_2 (List.mem_of_getElem? (l := ip_u5_2.1) (i := 25) rfl))), rfl⟩
set_option maxRecDepth 100000 in
theorem iy_f130 : iy_FP (11, 243, 11, 17, false) := ⟨(ip_t5 (ip_v5_3 (List.mem_of_getElem? (l := ip_u5_3.1) (i := 7) rfl))), rfl⟩
set_option maxRecDepth 100000 in
theorem iy_f131 : iy_FP (11, 246, 11, 18, false) := ⟨(ip_t5 (ip_v5_3 (List.mem_of_getElem? (l := ip_u5_3.1) (i := 8) rfl))), rfl⟩
set_option maxRecDepth 100000 in
theorem iy_f132 : iy_FP (11, 252, 11, 22, false) := ⟨(ip_t5 (ip_v5_3 (List.mem_of_getElem? (l := ip_u5_3.1) (i := 12) rfl))), rfl⟩
set_option maxRecDepth 100000 in
theorem iy_f133 : iy_FP (11, 255, 11, 19, false) := ⟨(ip_t5 (ip_v5_3 (List.mem_of_getElem? (l := ip_u5_3.1) (i := 9) rfl))), rfl⟩
set_option maxRecDepth 100000 in
theorem iy_f134 : iy_FP (11, 258, 11, 20, false) := ⟨(ip_t5 (ip_v5_3 (List.mem_of_getElem? (l := ip_u5_3.1) (i := 10) rfl))), rfl⟩
set_option maxRecDepth 100000 in
theorem iy_f135 : iy_FP (11, 261, 11, 21, false) := ⟨(ip_t5 (ip_v5_3 (List.mem_of_getElem? (l := ip_u5_3.1) (i := 11) rfl))), rfl⟩
set_option maxRecDepth 100000 in
theorem iy_f136 : iy_FP (11, 264, 11, 26, false) := ⟨(ip_t5 (ip_v5_3 (List.mem_of_getElem? (l := ip_u5_3.1) (i := 16) rfl))), rfl⟩
set_option maxRecDepth 100000 in
theorem iy_f137 : iy_FP (11, 267, 11, 23, false) := ⟨(ip_t5 (ip_v5_3 (List.mem_of_getElem? (l := ip_u5_3.1) (i := 13) rfl))), rfl⟩
set_option maxRecDepth 100000 in
theorem iy_f138 : iy_FP (11, 270, 11, 24, false) := ⟨(ip_t5 (ip_v5_3 (List.mem_of_getElem? (l := ip_u5_3.1) (i := 14) rfl))), rfl⟩
set_option maxRecDepth 100000 in
theorem iy_f139 : iy_FP (11, 273, 11, 25, false) := ⟨(ip_t5 (ip_v5_3 (List.mem_of_getElem? (l := ip_u5_3.1) (i := 15) rfl))), rfl⟩
set_option maxRecDepth 100000 in
theorem iy_f140 : iy_FP (11, 276, 11, 27, false) := ⟨(ip_t5 (ip_v5_3 (List.mem_of_getElem? (l := ip_u5_3.1) (i := 17) rfl))), rfl⟩
set_option maxRecDepth 100000 in
theorem iy_f141 : iy_FP (11, 285, 11, 29, false) := ⟨(ip_t5 (ip_v5_3 (List.mem_of_getElem? (l := ip_u5_3.1) (i := 19) rfl))), rfl⟩
set_option maxRecDepth 100000 in
theorem iy_f142 : iy_FP (11, 316, 11, 32, false) := ⟨(ip_t5 (ip_v5_3 (List.mem_of_getElem? (l := ip_u5_3.1) (i := 22) rfl))), rfl⟩
set_option maxRecDepth 100000 in
theorem iy_f143 : iy_FP (11, 322, 11, 34, false) := ⟨(ip_t5 (ip_v5_3 (List.mem_of_getElem? (l := ip_u5_3.1) (i := 24) rfl))), rfl⟩
set_option maxRecDepth 100000 in
theorem iy_f144 : iy_FP (11, 325, 11, 36, false) := ⟨(ip_t5 (ip_v5_3 (List.mem_of_getElem? (l := ip_u5_3.1) (i := 26) rfl))), rfl⟩
set_option maxRecDepth 100000 in
theorem iy_f145 : iy_FP (11, 328, 11, 35, false) := ⟨(ip_t5 (ip_v5_3 (List.mem_of_getElem? (l := ip_u5_3.1) (i := 25) rfl))), rfl⟩
set_option maxRecDepth 100000 in
theorem iy_f146 : iy_FP (11, 331, 11, 38, false) := ⟨(ip_t5 (ip_v5_3 (List.mem_of_getElem? (l := ip_u5_3.1) (i := 28) rfl))), rfl⟩
set_option maxRecDepth 100000 in
theorem iy_f147 : iy_FP (11, 334, 11, 37, false) := ⟨(ip_t5 (ip_v5_3 (List.mem_of_getElem? (l := ip_u5_3.1) (i := 27) rfl))), rfl⟩
set_option maxRecDepth 100000 in
theorem iy_f148 : iy_FP (11, 380, 11, 40, false) := ⟨(ip_t5 (ip_v5_3 (List.mem_of_getElem? (l := ip_u5_3.1) (i := 30) rfl))), rfl⟩
set_option maxRecDepth 100000 in
theorem iy_f149 : iy_FP (11, 383, 11, 41, false) := ⟨(ip_t5 (ip_v5_3 (List.mem_of_getElem? (l := ip_u5_3.1) (i := 31) rfl))), rfl⟩
set_option maxRecDepth 100000 in
theorem iy_Fq0 : ∀ r ∈ iy_F0, iy_FP r := List.forall_mem_cons.mpr ⟨iy_f0, List.forall_mem_cons.mpr ⟨iy_f1, List.forall_mem_cons.mpr ⟨iy_f2, List.forall_mem_cons.mpr ⟨iy_f3, List.forall_mem_cons.mpr ⟨iy_f4, List.forall_mem_cons.mpr ⟨iy_f5, List.forall_mem_cons.mpr ⟨iy_f6, List.forall_mem_cons.mpr ⟨iy_f7, List.forall_mem_cons.mpr ⟨iy_f8, List.forall_mem_cons.mpr ⟨iy_f9, List.forall_mem_cons.mpr ⟨iy_f10, List.forall_mem_cons.mpr ⟨iy_f11, List.forall_mem_cons.mpr ⟨iy_f12, List.forall_mem_cons.mpr ⟨iy_f13, List.forall_mem_cons.mpr ⟨iy_f14, List.forall_mem_cons.mpr ⟨iy_f15, List.forall_mem_cons.mpr ⟨iy_f16, List.forall_mem_cons.mpr ⟨iy_f17, List.forall_mem_cons.mpr ⟨iy_f18, List.forall_mem_cons.mpr ⟨iy_f19, List.forall_mem_cons.mpr ⟨iy_f20, List.forall_mem_cons.mpr ⟨iy_f21, List.forall_mem_cons.mpr ⟨iy_f22, List.forall_mem_cons.mpr ⟨iy_f23, List.forall_mem_cons.mpr ⟨iy_f24, fun _ h => absurd h List.not_mem_nil⟩⟩⟩⟩⟩⟩⟩⟩⟩⟩⟩⟩⟩⟩⟩⟩⟩⟩⟩⟩⟩⟩⟩⟩⟩
set_option maxRecDepth 100000 in
theorem iy_Fq1 : ∀ r ∈ iy_F1, iy_FP r := List.forall_mem_cons.mpr ⟨iy_f25, List.forall_mem_cons.mpr ⟨iy_f26, List.forall_mem_cons.mpr ⟨iy_f27, List.forall_mem_cons.mpr ⟨iy_f28, List.forall_mem_cons.mpr ⟨iy_f29, List.forall_mem_cons.mpr ⟨iy_f30, List.forall_mem_cons.mpr ⟨iy_f31, List.forall_mem_cons.mpr ⟨iy_f32, List.forall_mem_cons.mpr ⟨iy_f33, List.forall_mem_cons.mpr ⟨iy_f34, List.forall_mem_cons.mpr ⟨iy_f35, List.forall_mem_cons.mpr ⟨iy_f36, List.forall_mem_cons.mpr ⟨iy_f37, List.forall_mem_cons.mpr ⟨iy_f38, List.forall_mem_cons.mpr ⟨iy_f39, List.forall_mem_cons.mpr ⟨iy_f40, List.forall_mem_cons.mpr ⟨iy_f41, List.forall_mem_cons.mpr ⟨iy_f42, List.forall_mem_cons.mpr ⟨iy_f43, List.forall_mem_cons.mpr ⟨iy_f44, List.forall_mem_cons.mpr ⟨iy_f45, List.forall_mem_cons.mpr ⟨iy_f46, List.forall_mem_cons.mpr ⟨iy_f47, List.forall_mem_cons.mpr ⟨iy_f48, List.forall_mem_cons.mpr ⟨iy_f49, fun _ h => absurd h List.not_mem_nil⟩⟩⟩⟩⟩⟩⟩⟩⟩⟩⟩⟩⟩⟩⟩⟩⟩⟩⟩⟩⟩⟩⟩⟩⟩
set_option maxRecDepth 100000 in
theorem iy_Fq2 : ∀ r ∈ iy_F2, iy_FP r := List.forall_mem_cons.mpr ⟨iy_f50, List.forall_mem_cons.mpr ⟨iy_f51, List.forall_mem_cons.mpr ⟨iy_f52, List.forall_mem_cons.mpr ⟨iy_f53, List.forall_mem_cons.mpr ⟨iy_f54, List.forall_mem_cons.mpr ⟨iy_f55, List.forall_mem_cons.mpr ⟨iy_f56, List.forall_mem_cons.mpr ⟨iy_f57, List.forall_mem_cons.mpr ⟨iy_f58, List.forall_mem_cons.mpr ⟨iy_f59, List.forall_mem_cons.mpr ⟨iy_f60, List.forall_mem_cons.mpr ⟨iy_f61, List.forall_mem_cons.mpr ⟨iy_f62, List.forall_mem_cons.mpr ⟨iy_f63, List.forall_mem_cons.mpr ⟨iy_f64, List.forall_mem_cons.mpr ⟨iy_f65, List.forall_mem_cons.mpr ⟨iy_f66, List.forall_mem_cons.mpr ⟨iy_f67, List.forall_mem_cons.mpr ⟨iy_f68, List.forall_mem_cons.mpr ⟨iy_f69, List.forall_mem_cons.mpr ⟨iy_f70, List.forall_mem_cons.mpr ⟨iy_f71, List.forall_mem_cons.mpr ⟨iy_f72, List.forall_mem_cons.mpr ⟨iy_f73, List.forall_mem_cons.mpr ⟨iy_f74, fun _ h => absurd h List.not_mem_nil⟩⟩⟩⟩⟩⟩⟩⟩⟩⟩⟩⟩⟩⟩⟩⟩⟩⟩⟩⟩⟩⟩⟩⟩⟩
set_option maxRecDepth 100000 in
theorem iy_Fq3 : ∀ r ∈ iy_F3, iy_FP r := List.forall_mem_cons.mpr ⟨iy_f75, List.forall_mem_cons.mpr ⟨iy_f76, List.forall_mem_cons.mpr ⟨iy_f77, List.forall_mem_cons.mpr ⟨iy_f78, List.forall_mem_cons.mpr ⟨iy_f79, List.forall_mem_cons.mpr ⟨iy_f80, List.forall_mem_cons.mpr ⟨iy_f81, List.forall_mem_cons.mpr ⟨iy_f82, List.forall_mem_cons.mpr ⟨iy_f83, List.forall_mem_cons.mpr ⟨iy_f84, List.forall_mem_cons.mpr ⟨iy_f85, List.forall_mem_cons.mpr ⟨iy_f86, List.forall_mem_cons.mpr ⟨iy_f87, List.forall_mem_cons.mpr ⟨iy_f88, List.forall_mem_cons.mpr ⟨iy_f89, List.forall_mem_cons.mpr ⟨iy_f90, List.forall_mem_cons.mpr ⟨iy_f91, List.forall_mem_cons.mpr ⟨iy_f92, List.forall_mem_cons.mpr ⟨iy_f93, List.forall_mem_cons.mpr ⟨iy_f94, List.forall_mem_cons.mpr ⟨iy_f95, List.forall_mem_cons.mpr ⟨iy_f96, List.forall_mem_cons.mpr ⟨iy_f97, List.forall_mem_cons.mpr ⟨iy_f98, List.forall_mem_cons.mpr ⟨iy_f99, fun _ h => absurd h List.not_mem_nil⟩⟩⟩⟩⟩⟩⟩⟩⟩⟩⟩⟩⟩⟩⟩⟩⟩⟩⟩⟩⟩⟩⟩⟩⟩
set_option maxRecDepth 100000 in
theorem iy_Fq4 : ∀ r ∈ iy_F4, iy_FP r := List.forall_mem_cons.mpr ⟨iy_f100, List.forall_mem_cons.mpr ⟨iy_f101, List.forall_mem_cons.mpr ⟨iy_f102, List.forall_mem_cons.mpr ⟨iy_f103, List.forall_mem_cons.mpr ⟨iy_f104, List.forall_mem_cons.mpr ⟨iy_f105, List.forall_mem_cons.mpr ⟨iy_f106, List.forall_mem_cons.mpr ⟨iy_f107, List.forall_mem_cons.mpr ⟨iy_f108, List.forall_mem_cons.mpr ⟨iy_f109, List.forall_mem_cons.mpr ⟨iy_f110, List.forall_mem_cons.mpr ⟨iy_f111, List.forall_mem_cons.mpr ⟨iy_f112, List.forall_mem_cons.mpr ⟨iy_f113, List.forall_mem_cons.mpr ⟨iy_f114, List.forall_mem_cons.mpr ⟨iy_f115, List.forall_mem_cons.mpr ⟨iy_f116, List.forall_mem_cons.mpr ⟨iy_f117, List.forall_mem_cons.mpr ⟨iy_f118, List.forall_mem_cons.mpr ⟨iy_f119, List.forall_mem_cons.mpr ⟨iy_f120, List.forall_mem_cons.mpr ⟨iy_f121, List.forall_mem_cons.mpr ⟨iy_f122, List.forall_mem_cons.mpr ⟨iy_f123, List.forall_mem_cons.mpr ⟨iy_f124, fun _ h => absurd h List.not_mem_nil⟩⟩⟩⟩⟩⟩⟩⟩⟩⟩⟩⟩⟩⟩⟩⟩⟩⟩⟩⟩⟩⟩⟩⟩⟩
set_option maxRecDepth 100000 in
theorem iy_Fq5 : ∀ r ∈ iy_F5, iy_FP r := List.forall_mem_cons.mpr ⟨iy_f125, List.forall_mem_cons.mpr ⟨iy_f126, List.forall_mem_cons.mpr ⟨iy_f127, List.forall_mem_cons.mpr ⟨iy_f128, List.forall_mem_cons.mpr ⟨iy_f129, List.forall_mem_cons.mpr ⟨iy_f130, List.forall_mem_cons.mpr ⟨iy_f131, List.forall_mem_cons.mpr ⟨iy_f132, List.forall_mem_cons.mpr ⟨iy_f133, List.forall_mem_cons.mpr ⟨iy_f134, List.forall_mem_cons.mpr ⟨iy_f135, List.forall_mem_cons.mpr ⟨iy_f136, List.forall_mem_cons.mpr ⟨iy_f137, List.forall_mem_cons.mpr ⟨iy_f138, List.forall_mem_cons.mpr ⟨iy_f139, List.forall_mem_cons.mpr ⟨iy_f140, List.forall_mem_cons.mpr ⟨iy_f141, List.forall_mem_cons.mpr ⟨iy_f142, List.forall_mem_cons.mpr ⟨iy_f143, List.forall_mem_cons.mpr ⟨iy_f144, List.forall_mem_cons.mpr ⟨iy_f145, List.forall_mem_cons.mpr ⟨iy_f146, List.forall_mem_cons.mpr ⟨iy_f147, List.forall_mem_cons.mpr ⟨iy_f148, List.forall_mem_cons.mpr ⟨iy_f149, fun _ h => absurd h List.not_mem_nil⟩⟩⟩⟩⟩⟩⟩⟩⟩⟩⟩⟩⟩⟩⟩⟩⟩⟩⟩⟩⟩⟩⟩⟩⟩
theorem ip_F_ok : ∀ r ∈ ip_F, ip_FC r ∈ lw_tbl ∧ ip_gw (ip_FC r) = true := by
  intro r h
  rw [iy_F_e] at h
  exact (List.mem_append.mp h).elim (iy_Fq0 r) (fun h => (List.mem_append.mp h).elim (iy_Fq1 r) (fun h => (List.mem_append.mp h).elim (iy_Fq2 r) (fun h => (List.mem_append.mp h).elim (iy_Fq3 r) (fun h => (List.mem_append.mp h).elim (iy_Fq4 r) (fun h => iy_Fq5 r h)))))
def ip_KC (r : Nat × Nat × Nat × Nat) : Cond := if r.2.2.2 < 3 then .methodLink (ip_own.getD r.1 "") r.2.1 (ip_nm r.2.2.1) else .methodLinkNest (ip_own.getD r.1 "") r.2.1 (ip_nm r.2.2.1) RX10
def ip_KS (r : Nat × Nat × Nat × Nat) : Cond := if r.2.2.2 = 0 ∨ r.2.2.2 = 3 then .static (ip_nm r.2.2.1) else .instanceMethod (ip_nm r.2.2.1)
def ip_KV (r : Nat × Nat × Nat × Nat) : Cond := if r.2.2.2 = 1 ∨ r.2.2.2 = 4 then .selects (ip_nm r.2.2.1).cls (ip_nm r.2.2.1) (ip_nm r.2.2.1) else ip_KS r
def ip_Kok (r : Nat × Nat × Nat × Nat) : Prop := (ip_KC r ∈ lw_tbl ∧ ip_KS r ∈ lw_tbl ∧ ip_KV r ∈ lw_tbl) ∧ ip_gw (ip_KC r) = true ∧ ip_gw (ip_KS r) = true ∧ ip_gw (ip_KV r) = true
set_option maxRecDepth 100000 in
theorem ip_k_0 : ip_Kok (0, 19, 62, 1) := ⟨⟨(ip_t4 (ip_v4_4 (List.mem_of_getElem? (l := ip_u4_4.1) (i := 19) rfl))), (ip_t3 (ip_v3_0 (List.mem_of_getElem? (l := ip_u3_0.1) (i := 30) rfl))), (ip_t3 (ip_v3_0 (List.mem_of_getElem? (l := ip_u3_0.1) (i := 31) rfl)))⟩, rfl, rfl, rfl⟩
set_option maxRecDepth 100000 in
theorem ip_k_1 : ip_Kok (0, 25, 2, 1) := ⟨⟨(ip_t4 (ip_v4_4 (List.mem_of_getElem? (l := ip_u4_4.1) (i := 20) rfl))), (ip_t4 (ip_v4_4 (List.mem_of_getElem? (l := ip_u4_4.1) (i := 22) rfl))), (List.mem_of_getElem? (l := lw_tbl) (i := 19) rfl)⟩, rfl, rfl, rfl⟩
set_option maxRecDepth 100000 in
theorem ip_k_2 : ip_Kok (0, 29, 3, 0) := ⟨⟨(ip_t4 (ip_v4_4 (List.mem_of_getElem? (l := ip_u4_4.1) (i := 24) rfl))), (ip_t4 (ip_v4_4 (List.mem_of_getElem? (l := ip_u4_4.1) (i := 25) rfl))), (ip_t4 (ip_v4_4 (List.mem_of_getElem? (l := ip_u4_4.1) (i := 25) rfl)))⟩, rfl, rfl, rfl⟩
set_option maxRecDepth 100000 in
theorem ip_k_3 : ip_Kok (0, 33, 164, 3) := ⟨⟨(ip_t4 (ip_v4_4 (List.mem_of_getElem? (l := ip_u4_4.1) (i := 27) rfl))), (ip_t4 (ip_v4_3 (List.mem_of_getElem? (l := ip_u4_3.1) (i := 6) rfl))), (ip_t4 (ip_v4_3 (List.mem_of_getElem? (l := ip_u4_3.1) (i := 6) rfl)))⟩, rfl, rfl, rfl⟩
set_option maxRecDepth 100000 in
theorem ip_k_4 : ip_Kok (0, 39, 4, 1) := ⟨⟨(ip_t4 (ip_v4_5 (List.mem_of_getElem? (l := ip_u4_5.1) (i := 28) rfl))), (ip_t4 (ip_v4_4 (List.mem_of_getElem? (l := ip_u4_4.1) (i := 29) rfl))), (ip_t4 (ip_v4_4 (List.mem_of_getElem? (l := ip_u4_4.1) (i := 30) rfl)))⟩, rfl, rfl, rfl⟩
set_option maxRecDepth 100000 in
theorem ip_k_5 : ip_Kok (0, 42, 9, 1) := ⟨⟨(ip_t4 (ip_v4_6 (List.mem_of_getElem? (l := ip_u4_6.1) (i := 9) rfl))), (ip_t4 (ip_v4_6 (List.mem_of_getElem? (l := ip_u4_6.1) (i := 11) rfl))), (List.mem_of_getElem? (l := lw_tbl) (i := 20) rfl)⟩, rfl, rfl, rfl⟩
set_option maxRecDepth 100000 in
theorem ip_k_6 : ip_Kok (1, 21, 60, 5) := ⟨⟨(ip_t1 (ip_v1_3 (List.mem_of_getElem? (l := ip_u1_3.1) (i := 10) rfl))), (ip_t1 (ip_v1_1 (List.mem_of_getElem? (l := ip_u1_1.1) (i := 0) rfl))), (ip_t1 (ip_v1_1 (List.mem_of_getElem? (l := ip_u1_1.1) (i := 0) rfl)))⟩, rfl, rfl, rfl⟩
set_option maxRecDepth 100000 in
theorem ip_k_7 : ip_Kok (1, 44, 92, 5) := ⟨⟨(ip_t1 (ip_v1_3 (List.mem_of_getElem? (l := ip_u1_3.1) (i := 12) rfl))), (ip_t1 (ip_v1_1 (List.mem_of_getElem? (l := ip_u1_1.1) (i := 11) rfl))), (ip_t1 (ip_v1_1 (List.mem_of_getElem? (l := ip_u1_1.1) (i := 11) rfl)))⟩, rfl, rfl, rfl⟩
set_option maxRecDepth 100000 in
theorem ip_k_8 : ip_Kok (1, 68, 11, 1) := ⟨⟨(ip_t3 (ip_v3_2 (List.mem_of_getElem? (l := ip_u3_2.1) (i := 31) rfl))), (ip_t3 (ip_v3_3 (List.mem_of_getElem? (l := ip_u3_3.1) (i := 0) rfl))), (ip_t3 (ip_v3_3 (List.mem_of_getElem? (l := ip_u3_3.1) (i := 1) rfl)))⟩, rfl, rfl, rfl⟩
set_option maxRecDepth 100000 in
theorem ip_k_9 : ip_Kok (1, 73, 14, 1) := ⟨⟨(ip_t3 (ip_v3_2 (List.mem_of_getElem? (l := ip_u3_2.1) (i := 18) rfl))), (ip_t3 (ip_v3_2 (List.mem_of_getElem? (l := ip_u3_2.1) (i := 19) rfl))), (ip_t3 (ip_v3_2 (List.mem_of_getElem? (l := ip_u3_2.1) (i := 20) rfl)))⟩, rfl, rfl, rfl⟩
set_option maxRecDepth 100000 in
theorem ip_k_10 : ip_Kok (1, 77, 96, 1) := ⟨⟨(ip_t3 (ip_v3_3 (List.mem_of_getElem? (l := ip_u3_3.1) (i := 19) rfl))), (ip_t3 (ip_v3_3 (List.mem_of_getElem? (l := ip_u3_3.1) (i := 20) rfl))), (ip_t3 (ip_v3_3 (List.mem_of_getElem? (l := ip_u3_3.1) (i := 21) rfl)))⟩, rfl, rfl, rfl⟩
set_option maxRecDepth 100000 in
theorem ip_k_11 : ip_Kok (1, 81, 15, 1) := ⟨⟨(ip_t3 (ip_v3_3 (List.mem_of_getElem? (l := ip_u3_3.1) (i := 23) rfl))), (ip_t3 (ip_v3_2 (List.mem_of_getElem? (l := ip_u3_2.1) (i := 15) rfl))), (ip_t3 (ip_v3_2 (List.mem_of_getElem? (l := ip_u3_2.1) (i := 16) rfl)))⟩, rfl, rfl, rfl⟩
set_option maxRecDepth 100000 in
theorem ip_k_12 : ip_Kok (1, 85, 19, 0) := ⟨⟨(ip_t3 (ip_v3_1 (List.mem_of_getElem? (l := ip_u3_1.1) (i := 22) rfl))), (ip_t3 (ip_v3_1 (List.mem_of_getElem? (l := ip_u3_1.1) (i := 23) rfl))), (ip_t3 (ip_v3_1 (List.mem_of_getElem? (l := ip_u3_1.1) (i := 23) rfl)))⟩, rfl, rfl, rfl⟩
set_option maxRecDepth 100000 in
theorem ip_k_13 : ip_Kok (1, 89, 46, 1) := ⟨⟨(ip_t3 (ip_v3_1 (List.mem_of_getElem? (l := ip_u3_1.1) (i := 25) rfl))), (ip_t3 (ip_v3_1 (List.mem_of_getElem? (l := ip_u3_1.1) (i := 26) rfl))), (ip_t3 (ip_v3_1 (List.mem_of_getElem? (l := ip_u3_1.1) (i := 27) rfl)))⟩, rfl, rfl, rfl⟩
set_option maxRecDepth 100000 in
theorem ip_k_14 : ip_Kok (1, 95, 49, 1) := ⟨⟨(ip_t3 (ip_v3_1 (List.mem_of_getElem? (l := ip_u3_1.1) (i := 29) rfl))), (ip_t2 (ip_v2_6 (List.mem_of_getElem? (l := ip_u2_6.1) (i := 5) rfl))), (ip_t2 (ip_v2_6 (List.mem_of_getElem? (l := ip_u2_6.1) (i := 6) rfl)))⟩, rfl, rfl, rfl⟩
set_option maxRecDepth 100000 in
theorem ip_k_15 : ip_Kok (1, 98, 21, 1) := ⟨⟨(ip_t3 (ip_v3_2 (List.mem_of_getElem? (l := ip_u3_2.1) (i := 2) rfl))), (ip_t2 (ip_v2_5 (List.mem_of_getElem? (l := ip_u2_5.1) (i := 11) rfl))), (ip_t2 (ip_v2_5 (List.mem_of_getElem? (l := ip_u2_5.1) (i := 12) rfl)))⟩, rfl, rfl, rfl⟩
set_option maxRecDepth 100000 in
theorem ip_k_16 : ip_Kok (1, 101, 95, 1) := ⟨⟨(ip_t3 (ip_v3_2 (List.mem_of_getElem? (l := ip_u3_2.1) (i := 3) rfl))), (ip_t2 (ip_v2_7 (List.mem_of_getElem? (l := ip_u2_7.1) (i := 6) rfl))), (ip_t2 (ip_v2_7 (List.mem_of_getElem? (l := ip_u2_7.1) (i := 7) rfl)))⟩, rfl, rfl, rfl⟩
set_option maxRecDepth 100000 in
theorem ip_k_17 : ip_Kok (1, 105, 28, 1) := ⟨⟨(ip_t3 (ip_v3_2 (List.mem_of_getElem? (l := ip_u3_2.1) (i := 4) rfl))), (ip_t3 (ip_v3_2 (List.mem_of_getElem? (l := ip_u3_2.1) (i := 6) rfl))), (List.mem_of_getElem? (l := lw_tbl) (i := 5) rfl)⟩, rfl, rfl, rfl⟩
set_option maxRecDepth 100000 in
theorem ip_k_18 : ip_Kok (1, 108, 64, 1) := ⟨⟨(ip_t3 (ip_v3_2 (List.mem_of_getElem? (l := ip_u3_2.1) (i := 9) rfl))), (ip_t3 (ip_v3_2 (List.mem_of_getElem? (l := ip_u3_2.1) (i := 10) rfl))), (ip_t3 (ip_v3_2 (List.mem_of_getElem? (l := ip_u3_2.1) (i := 11) rfl)))⟩, rfl, rfl, rfl⟩
set_option maxRecDepth 100000 in
theorem ip_k_19 : ip_Kok (1, 111, 20, 1) := ⟨⟨(ip_t4 (ip_v4_1 (List.mem_of_getElem? (l := ip_u4_1.1) (i := 23) rfl))), (ip_t3 (ip_v3_1 (List.mem_of_getElem? (l := ip_u3_1.1) (i := 31) rfl))), (ip_t3 (ip_v3_2 (List.mem_of_getElem? (l := ip_u3_2.1) (i := 0) rfl)))⟩, rfl, rfl, rfl⟩
set_option maxRecDepth 100000 in
theorem ip_k_20 : ip_Kok (1, 115, 25, 1) := ⟨⟨(ip_t4 (ip_v4_1 (List.mem_of_getElem? (l := ip_u4_1.1) (i := 24) rfl))), (ip_t3 (ip_v3_2 (List.mem_of_getElem? (l := ip_u3_2.1) (i := 28) rfl))), (ip_t3 (ip_v3_2 (List.mem_of_getElem? (l := ip_u3_2.1) (i := 29) rfl)))⟩, rfl, rfl, rfl⟩
set_option maxRecDepth 100000 in
theorem ip_k_21 : ip_Kok (1, 119, 27, 1) := ⟨⟨(ip_t4 (ip_v4_1 (List.mem_of_getElem? (l := ip_u4_1.1) (i := 25) rfl))), (ip_t3 (ip_v3_4 (List.mem_of_getElem? (l := ip_u3_4.1) (i := 26) rfl))), (ip_t3 (ip_v3_4 (List.mem_of_getElem? (l := ip_u3_4.1) (i := 27) rfl)))⟩, rfl, rfl, rfl⟩
set_option maxRecDepth 100000 in
theorem ip_k_22 : ip_Kok (1, 122, 24, 1) := ⟨⟨(ip_t3 (ip_v3_3 (List.mem_of_getElem? (l := ip_u3_3.1) (i := 7) rfl))), (ip_t3 (ip_v3_3 (List.mem_of_getElem? (l := ip_u3_3.1) (i := 9) rfl))), (List.mem_of_getElem? (l := lw_tbl) (i := 6) rfl)⟩, rfl, rfl, rfl⟩
set_option maxRecDepth 100000 in
theorem ip_k_23 : ip_Kok (1, 126, 23, 1) := ⟨⟨(ip_t3 (ip_v3_3 (List.mem_of_getElem? (l := ip_u3_3.1) (i := 3) rfl))), (ip_t3 (ip_v3_3 (List.mem_of_getElem? (l := ip_u3_3.1) (i := 4) rfl))), (ip_t3 (ip_v3_3 (List.mem_of_getElem? (l := ip_u3_3.1) (i := 5) rfl)))⟩, rfl, rfl, rfl⟩
set_option maxRecDepth 100000 in
theorem ip_k_24 : ip_Kok (1, 129, 26, 1) := ⟨⟨(ip_t3 (ip_v3_3 (List.mem_of_getElem? (l := ip_u3_3.1) (i := 11) rfl))), (ip_t3 (ip_v3_3 (List.mem_of_getElem? (l := ip_u3_3.1) (i := 13) rfl))), (List.mem_of_getElem? (l := lw_tbl) (i := 7) rfl)⟩, rfl, rfl, rfl⟩
set_option maxRecDepth 100000 in
theorem ip_k_25 : ip_Kok (1, 133, 101, 1) := ⟨⟨(ip_t3 (ip_v3_4 (List.mem_of_getElem? (l := ip_u3_4.1) (i := 0) rfl))), (ip_t2 (ip_v2_7 (List.mem_of_getElem? (l := ip_u2_7.1) (i := 14) rfl))), (ip_t2 (ip_v2_7 (List.mem_of_getElem? (l := ip_u2_7.1) (i := 15) rfl)))⟩, rfl, rfl, rfl⟩
set_option maxRecDepth 100000 in
theorem ip_k_26 : ip_Kok (1, 136, 52, 1) := ⟨⟨(ip_t3 (ip_v3_4 (List.mem_of_getElem? (l := ip_u3_4.1) (i := 1) rfl))), (ip_t3 (ip_v3_1 (List.mem_of_getElem? (l := ip_u3_1.1) (i := 2) rfl))), (ip_t3 (ip_v3_1 (List.mem_of_getElem? (l := ip_u3_1.1) (i := 3) rfl)))⟩, rfl, rfl, rfl⟩
set_option maxRecDepth 100000 in
theorem ip_k_27 : ip_Kok (1, 140, 93, 1) := ⟨⟨(ip_t3 (ip_v3_4 (List.mem_of_getElem? (l := ip_u3_4.1) (i := 2) rfl))), (ip_t2 (ip_v2_5 (List.mem_of_getElem? (l := ip_u2_5.1) (i := 4) rfl))), (ip_t2 (ip_v2_5 (List.mem_of_getElem? (l := ip_u2_5.1) (i := 5) rfl)))⟩, rfl, rfl, rfl⟩
set_option maxRecDepth 100000 in
theorem ip_k_28 : ip_Kok (1, 144, 99, 1) := ⟨⟨(ip_t3 (ip_v3_4 (List.mem_of_getElem? (l := ip_u3_4.1) (i := 3) rfl))), (ip_t2 (ip_v2_6 (List.mem_of_getElem? (l := ip_u2_6.1) (i := 30) rfl))), (ip_t2 (ip_v2_6 (List.mem_of_getElem? (l := ip_u2_6.1) (i := 31) rfl)))⟩, rfl, rfl, rfl⟩
set_option maxRecDepth 100000 in
theorem ip_k_29 : ip_Kok (1, 147, 65, 1) := ⟨⟨(ip_t3 (ip_v3_4 (List.mem_of_getElem? (l := ip_u3_4.1) (i := 4) rfl))), (ip_t3 (ip_v3_4 (List.mem_of_getElem? (l := ip_u3_4.1) (i := 5) rfl))), (ip_t3 (ip_v3_4 (List.mem_of_getElem? (l := ip_u3_4.1) (i := 6) rfl)))⟩, rfl, rfl, rfl⟩
set_option maxRecDepth 100000 in
theorem ip_k_30 : ip_Kok (1, 150, 66, 1) := ⟨⟨(ip_t3 (ip_v3_4 (List.mem_of_getElem? (l := ip_u3_4.1) (i := 9) rfl))), (ip_t3 (ip_v3_4 (List.mem_of_getElem? (l := ip_u3_4.1) (i := 10) rfl))), (ip_t3 (ip_v3_4 (List.mem_of_getElem? (l := ip_u3_4.1) (i := 11) rfl)))⟩, rfl, rfl, rfl⟩
set_option maxRecDepth 100000 in
theorem ip_k_31 : ip_Kok (1, 154, 69, 1) := ⟨⟨(ip_t3 (ip_v3_4 (List.mem_of_getElem? (l := ip_u3_4.1) (i := 21) rfl))), (ip_t3 (ip_v3_4 (List.mem_of_getElem? (l := ip_u3_4.1) (i := 22) rfl))), (ip_t3 (ip_v3_4 (List.mem_of_getElem? (l := ip_u3_4.1) (i := 23) rfl)))⟩, rfl, rfl, rfl⟩
set_option maxRecDepth 100000 in
theorem ip_k_32 : ip_Kok (1, 157, 16, 1) := ⟨⟨(ip_t3 (ip_v3_3 (List.mem_of_getElem? (l := ip_u3_3.1) (i := 15) rfl))), (ip_t3 (ip_v3_3 (List.mem_of_getElem? (l := ip_u3_3.1) (i := 16) rfl))), (ip_t3 (ip_v3_3 (List.mem_of_getElem? (l := ip_u3_3.1) (i := 17) rfl)))⟩, rfl, rfl, rfl⟩
set_option maxRecDepth 100000 in
theorem ip_k_33 : ip_Kok (1, 161, 98, 1) := ⟨⟨(ip_t3 (ip_v3_3 (List.mem_of_getElem? (l := ip_u3_3.1) (i := 24) rfl))), (ip_t3 (ip_v3_3 (List.mem_of_getElem? (l := ip_u3_3.1) (i := 25) rfl))), (ip_t3 (ip_v3_3 (List.mem_of_getElem? (l := ip_u3_3.1) (i := 26) rfl)))⟩, rfl, rfl, rfl⟩
set_option maxRecDepth 100000 in
theorem ip_k_34 : ip_Kok (1, 165, 48, 1) := ⟨⟨(ip_t3 (ip_v3_3 (List.mem_of_getElem? (l := ip_u3_3.1) (i := 28) rfl))), (ip_t3 (ip_v3_3 (List.mem_of_getElem? (l := ip_u3_3.1) (i := 29) rfl))), (ip_t3 (ip_v3_3 (List.mem_of_getElem? (l := ip_u3_3.1) (i := 30) rfl)))⟩, rfl, rfl, rfl⟩
set_option maxRecDepth 100000 in
theorem ip_k_35 : ip_Kok (1, 169, 29, 1) := ⟨⟨(ip_t3 (ip_v3_4 (List.mem_of_getElem? (l := ip_u3_4.1) (i := 29) rfl))), (ip_t3 (ip_v3_4 (List.mem_of_getElem? (l := ip_u3_4.1) (i := 31) rfl))), (List.mem_of_getElem? (l := lw_tbl) (i := 8) rfl)⟩, rfl, rfl, rfl⟩
set_option maxRecDepth 100000 in
theorem ip_k_36 : ip_Kok (1, 172, 97, 1) := ⟨⟨(ip_t3 (ip_v3_2 (List.mem_of_getElem? (l := ip_u3_2.1) (i := 8) rfl))), (ip_t2 (ip_v2_4 (List.mem_of_getElem? (l := ip_u2_4.1) (i := 16) rfl))), (ip_t2 (ip_v2_4 (List.mem_of_getElem? (l := ip_u2_4.1) (i := 17) rfl)))⟩, rfl, rfl, rfl⟩
set_option maxRecDepth 100000 in
theorem ip_k_37 : ip_Kok (1, 175, 30, 1) := ⟨⟨(ip_t3 (ip_v3_5 (List.mem_of_getElem? (l := ip_u3_5.1) (i := 1) rfl))), (ip_t3 (ip_v3_5 (List.mem_of_getElem? (l := ip_u3_5.1) (i := 3) rfl))), (List.mem_of_getElem? (l := lw_tbl) (i := 9) rfl)⟩, rfl, rfl, rfl⟩
set_option maxRecDepth 100000 in
theorem ip_k_38 : ip_Kok (1, 178, 12, 1) := ⟨⟨(ip_t5 (ip_v5_1 (List.mem_of_getElem? (l := ip_u5_1.1) (i := 26) rfl))), (ip_t3 (ip_v3_5 (List.mem_of_getElem? (l := ip_u3_5.1) (i := 10) rfl))), (ip_t3 (ip_v3_5 (List.mem_of_getElem? (l := ip_u3_5.1) (i := 11) rfl)))⟩, rfl, rfl, rfl⟩
set_option maxRecDepth 100000 in
theorem ip_k_39 : ip_Kok (1, 181, 17, 1) := ⟨⟨(ip_t4 (ip_v4_6 (List.mem_of_getElem? (l := ip_u4_6.1) (i := 25) rfl))), (ip_t4 (ip_v4_3 (List.mem_of_getElem? (l := ip_u4_3.1) (i := 28) rfl))), (ip_t4 (ip_v4_3 (List.mem_of_getElem? (l := ip_u4_3.1) (i := 29) rfl)))⟩, rfl, rfl, rfl⟩
set_option maxRecDepth 100000 in
theorem ip_k_40 : ip_Kok (1, 191, 35, 0) := ⟨⟨(ip_t4 (ip_v4_7 (List.mem_of_getElem? (l := ip_u4_7.1) (i := 3) rfl))), (ip_t4 (ip_v4_7 (List.mem_of_getElem? (l := ip_u4_7.1) (i := 4) rfl))), (ip_t4 (ip_v4_7 (List.mem_of_getElem? (l := ip_u4_7.1) (i := 4) rfl)))⟩, rfl, rfl, rfl⟩
set_option maxRecDepth 100000 in
theorem ip_k_41 : ip_Kok (1, 205, 62, 1) := ⟨⟨(ip_t4 (ip_v4_7 (List.mem_of_getElem? (l := ip_u4_7.1) (i := 7) rfl))), (ip_t3 (ip_v3_0 (List.mem_of_getElem? (l := ip_u3_0.1) (i := 30) rfl))), (ip_t3 (ip_v3_0 (List.mem_of_getElem? (l := ip_u3_0.1) (i := 31) rfl)))⟩, rfl, rfl, rfl⟩
set_option maxRecDepth 100000 in
theorem ip_k_42 : ip_Kok (1, 209, 290, 0) := ⟨⟨(ip_t4 (ip_v4_7 (List.mem_of_getElem? (l := ip_u4_7.1) (i := 8) rfl))), (ip_t4 (ip_v4_7 (List.mem_of_getElem? (l := ip_u4_7.1) (i := 9) rfl))), (ip_t4 (ip_v4_7 (List.mem_of_getElem? (l := ip_u4_7.1) (i := 9) rfl)))⟩, rfl, rfl, rfl⟩
set_option maxRecDepth 100000 in
theorem ip_k_43 : ip_Kok (1, 215, 292, 0) := ⟨⟨(ip_t4 (ip_v4_7 (List.mem_of_getElem? (l := ip_u4_7.1) (i := 11) rfl))), (ip_t4 (ip_v4_7 (List.mem_of_getElem? (l := ip_u4_7.1) (i := 12) rfl))), (ip_t4 (ip_v4_7 (List.mem_of_getElem? (l := ip_u4_7.1) (i := 12) rfl)))⟩, rfl, rfl, rfl⟩
set_option maxRecDepth 100000 in
theorem ip_k_44 : ip_Kok (1, 220, 37, 1) := ⟨⟨(ip_t5 (ip_v5_0 (List.mem_of_getElem? (l := ip_u5_0.1) (i := 24) rfl))), (ip_t5 (ip_v5_0 (List.mem_of_getElem? (l := ip_u5_0.1) (i := 9) rfl))), (ip_t5 (ip_v5_0 (List.mem_of_getElem? (l := ip_u5_0.1) (i := 10) rfl)))⟩, rfl, rfl, rfl⟩
set_option maxRecDepth 100000 in
theorem ip_k_45 : ip_Kok (2, 21, 60, 5) := ⟨⟨(ip_t1 (ip_v1_0 (List.mem_of_getElem? (l := ip_u1_0.1) (i := 31) rfl))), (ip_t1 (ip_v1_1 (List.mem_of_getElem? (l := ip_u1_1.1) (i := 0) rfl))), (ip_t1 (ip_v1_1 (List.mem_of_getElem? (l := ip_u1_1.1) (i := 0) rfl)))⟩, rfl, rfl, rfl⟩
set_option maxRecDepth 100000 in
theorem ip_k_46 : ip_Kok (2, 28, 92, 5) := ⟨⟨(ip_t1 (ip_v1_1 (List.mem_of_getElem? (l := ip_u1_1.1) (i := 10) rfl))), (ip_t1 (ip_v1_1 (List.mem_of_getElem? (l := ip_u1_1.1) (i := 11) rfl))), (ip_t1 (ip_v1_1 (List.mem_of_getElem? (l := ip_u1_1.1) (i := 11) rfl)))⟩, rfl, rfl, rfl⟩
set_option maxRecDepth 100000 in
theorem ip_k_47 : ip_Kok (2, 37, 41, 0) := ⟨⟨(ip_t2 (ip_v2_3 (List.mem_of_getElem? (l := ip_u2_3.1) (i := 22) rfl))), (ip_t2 (ip_v2_3 (List.mem_of_getElem? (l := ip_u2_3.1) (i := 23) rfl))), (ip_t2 (ip_v2_3 (List.mem_of_getElem? (l := ip_u2_3.1) (i := 23) rfl)))⟩, rfl, rfl, rfl⟩
set_option maxRecDepth 100000 in
theorem ip_k_48 : ip_Kok (2, 47, 63, 1) := ⟨⟨(ip_t3 (ip_v3_0 (List.mem_of_getElem? (l := ip_u3_0.1) (i := 18) rfl))), (ip_t3 (ip_v3_0 (List.mem_of_getElem? (l := ip_u3_0.1) (i := 19) rfl))), (ip_t3 (ip_v3_0 (List.mem_of_getElem? (l := ip_u3_0.1) (i := 20) rfl)))⟩, rfl, rfl, rfl⟩
set_option maxRecDepth 100000 in
theorem ip_k_49 : ip_Kok (2, 61, 45, 1) := ⟨⟨(ip_t2 (ip_v2_6 (List.mem_of_getElem? (l := ip_u2_6.1) (i := 12) rfl))), (ip_t2 (ip_v2_6 (List.mem_of_getElem? (l := ip_u2_6.1) (i := 14) rfl))), (List.mem_of_getElem? (l := lw_tbl) (i := 3) rfl)⟩, rfl, rfl, rfl⟩
set_option maxRecDepth 100000 in
theorem ip_k_50 : ip_Kok (2, 68, 47, 1) := ⟨⟨(ip_t2 (ip_v2_6 (List.mem_of_getElem? (l := ip_u2_6.1) (i := 8) rfl))), (ip_t2 (ip_v2_6 (List.mem_of_getElem? (l := ip_u2_6.1) (i := 9) rfl))), (ip_t2 (ip_v2_6 (List.mem_of_getElem? (l := ip_u2_6.1) (i := 10) rfl)))⟩, rfl, rfl, rfl⟩
set_option maxRecDepth 100000 in
theorem ip_k_51 : ip_Kok (2, 72, 93, 1) := ⟨⟨(ip_t3 (ip_v3_0 (List.mem_of_getElem? (l := ip_u3_0.1) (i := 9) rfl))), (ip_t2 (ip_v2_5 (List.mem_of_getElem? (l := ip_u2_5.1) (i := 4) rfl))), (ip_t2 (ip_v2_5 (List.mem_of_getElem? (l := ip_u2_5.1) (i := 5) rfl)))⟩, rfl, rfl, rfl⟩
set_option maxRecDepth 100000 in
theorem ip_k_52 : ip_Kok (2, 76, 44, 1) := ⟨⟨(ip_t3 (ip_v3_0 (List.mem_of_getElem? (l := ip_u3_0.1) (i := 14) rfl))), (ip_t3 (ip_v3_0 (List.mem_of_getElem? (l := ip_u3_0.1) (i := 15) rfl))), (ip_t3 (ip_v3_0 (List.mem_of_getElem? (l := ip_u3_0.1) (i := 16) rfl)))⟩, rfl, rfl, rfl⟩
set_option maxRecDepth 100000 in
theorem ip_k_53 : ip_Kok (2, 80, 73, 1) := ⟨⟨(ip_t3 (ip_v3_0 (List.mem_of_getElem? (l := ip_u3_0.1) (i := 25) rfl))), (ip_t3 (ip_v3_0 (List.mem_of_getElem? (l := ip_u3_0.1) (i := 26) rfl))), (ip_t3 (ip_v3_0 (List.mem_of_getElem? (l := ip_u3_0.1) (i := 27) rfl)))⟩, rfl, rfl, rfl⟩
set_option maxRecDepth 100000 in
theorem ip_k_54 : ip_Kok (2, 84, 72, 1) := ⟨⟨(ip_t3 (ip_v3_1 (List.mem_of_getElem? (l := ip_u3_1.1) (i := 5) rfl))), (ip_t3 (ip_v3_1 (List.mem_of_getElem? (l := ip_u3_1.1) (i := 6) rfl))), (ip_t3 (ip_v3_1 (List.mem_of_getElem? (l := ip_u3_1.1) (i := 7) rfl)))⟩, rfl, rfl, rfl⟩
set_option maxRecDepth 100000 in
theorem ip_k_55 : ip_Kok (2, 88, 71, 1) := ⟨⟨(ip_t3 (ip_v3_1 (List.mem_of_getElem? (l := ip_u3_1.1) (i := 13) rfl))), (ip_t3 (ip_v3_1 (List.mem_of_getElem? (l := ip_u3_1.1) (i := 10) rfl))), (ip_t3 (ip_v3_1 (List.mem_of_getElem? (l := ip_u3_1.1) (i := 11) rfl)))⟩, rfl, rfl, rfl⟩
set_option maxRecDepth 100000 in
theorem ip_k_56 : ip_Kok (2, 92, 62, 1) := ⟨⟨(ip_t4 (ip_v4_0 (List.mem_of_getElem? (l := ip_u4_0.1) (i := 29) rfl))), (ip_t3 (ip_v3_0 (List.mem_of_getElem? (l := ip_u3_0.1) (i := 30) rfl))), (ip_t3 (ip_v3_0 (List.mem_of_getElem? (l := ip_u3_0.1) (i := 31) rfl)))⟩, rfl, rfl, rfl⟩
set_option maxRecDepth 100000 in
theorem ip_k_57 : ip_Kok (2, 95, 101, 1) := ⟨⟨(ip_t4 (ip_v4_0 (List.mem_of_getElem? (l := ip_u4_0.1) (i := 30) rfl))), (ip_t2 (ip_v2_7 (List.mem_of_getElem? (l := ip_u2_7.1) (i := 14) rfl))), (ip_t2 (ip_v2_7 (List.mem_of_getElem? (l := ip_u2_7.1) (i := 15) rfl)))⟩, rfl, rfl, rfl⟩
set_option maxRecDepth 100000 in
theorem ip_k_58 : ip_Kok (2, 99, 52, 1) := ⟨⟨(ip_t4 (ip_v4_0 (List.mem_of_getElem? (l := ip_u4_0.1) (i := 31) rfl))), (ip_t3 (ip_v3_1 (List.mem_of_getElem? (l := ip_u3_1.1) (i := 2) rfl))), (ip_t3 (ip_v3_1 (List.mem_of_getElem? (l := ip_u3_1.1) (i := 3) rfl)))⟩, rfl, rfl, rfl⟩
set_option maxRecDepth 100000 in
theorem ip_k_59 : ip_Kok (3, 35, 74, 5) := ⟨⟨(ip_t1 (ip_v1_6 (List.mem_of_getElem? (l := ip_u1_6.1) (i := 23) rfl))), (ip_t1 (ip_v1_6 (List.mem_of_getElem? (l := ip_u1_6.1) (i := 24) rfl))), (ip_t1 (ip_v1_6 (List.mem_of_getElem? (l := ip_u1_6.1) (i := 24) rfl)))⟩, rfl, rfl, rfl⟩
set_option maxRecDepth 100000 in
theorem ip_k_60 : ip_Kok (3, 36, 59, 1) := ⟨⟨(ip_t2 (ip_v2_4 (List.mem_of_getElem? (l := ip_u2_4.1) (i := 4) rfl))), (ip_t2 (ip_v2_4 (List.mem_of_getElem? (l := ip_u2_4.1) (i := 6) rfl))), (List.mem_of_getElem? (l := lw_tbl) (i := 1) rfl)⟩, rfl, rfl, rfl⟩
set_option maxRecDepth 100000 in
theorem ip_k_61 : ip_Kok (3, 40, 291, 0) := ⟨⟨(ip_t2 (ip_v2_4 (List.mem_of_getElem? (l := ip_u2_4.1) (i := 8) rfl))), (ip_t2 (ip_v2_4 (List.mem_of_getElem? (l := ip_u2_4.1) (i := 9) rfl))), (ip_t2 (ip_v2_4 (List.mem_of_getElem? (l := ip_u2_4.1) (i := 9) rfl)))⟩, rfl, rfl, rfl⟩
set_option maxRecDepth 100000 in
theorem ip_k_62 : ip_Kok (4, 15, 61, 0) := ⟨⟨(ip_t3 (ip_v3_0 (List.mem_of_getElem? (l := ip_u3_0.1) (i := 22) rfl))), (ip_t3 (ip_v3_0 (List.mem_of_getElem? (l := ip_u3_0.1) (i := 23) rfl))), (ip_t3 (ip_v3_0 (List.mem_of_getElem? (l := ip_u3_0.1) (i := 23) rfl)))⟩, rfl, rfl, rfl⟩
set_option maxRecDepth 100000 in
theorem ip_k_63 : ip_Kok (4, 19, 63, 1) := ⟨⟨(ip_t3 (ip_v3_2 (List.mem_of_getElem? (l := ip_u3_2.1) (i := 13) rfl))), (ip_t3 (ip_v3_0 (List.mem_of_getElem? (l := ip_u3_0.1) (i := 19) rfl))), (ip_t3 (ip_v3_0 (List.mem_of_getElem? (l := ip_u3_0.1) (i := 20) rfl)))⟩, rfl, rfl, rfl⟩
set_option maxRecDepth 100000 in
theorem ip_k_64 : ip_Kok (4, 29, 68, 0) := ⟨⟨(ip_t3 (ip_v3_4 (List.mem_of_getElem? (l := ip_u3_4.1) (i := 13) rfl))), (ip_t3 (ip_v3_4 (List.mem_of_getElem? (l := ip_u3_4.1) (i := 14) rfl))), (ip_t3 (ip_v3_4 (List.mem_of_getElem? (l := ip_u3_4.1) (i := 14) rfl)))⟩, rfl, rfl, rfl⟩
set_option maxRecDepth 100000 in
theorem ip_k_65 : ip_Kok (4, 33, 67, 0) := ⟨⟨(ip_t3 (ip_v3_4 (List.mem_of_getElem? (l := ip_u3_4.1) (i := 18) rfl))), (ip_t3 (ip_v3_4 (List.mem_of_getElem? (l := ip_u3_4.1) (i := 19) rfl))), (ip_t3 (ip_v3_4 (List.mem_of_getElem? (l := ip_u3_4.1) (i := 19) rfl)))⟩, rfl, rfl, rfl⟩
set_option maxRecDepth 100000 in
theorem ip_k_66 : ip_Kok (4, 41, 71, 1) := ⟨⟨(ip_t3 (ip_v3_1 (List.mem_of_getElem? (l := ip_u3_1.1) (i := 9) rfl))), (ip_t3 (ip_v3_1 (List.mem_of_getElem? (l := ip_u3_1.1) (i := 10) rfl))), (ip_t3 (ip_v3_1 (List.mem_of_getElem? (l := ip_u3_1.1) (i := 11) rfl)))⟩, rfl, rfl, rfl⟩
set_option maxRecDepth 100000 in
theorem ip_k_67 : ip_Kok (4, 51, 62, 1) := ⟨⟨(ip_t3 (ip_v3_0 (List.mem_of_getElem? (l := ip_u3_0.1) (i := 29) rfl))), (ip_t3 (ip_v3_0 (List.mem_of_getElem? (l := ip_u3_0.1) (i := 30) rfl))), (ip_t3 (ip_v3_0 (List.mem_of_getElem? (l := ip_u3_0.1) (i := 31) rfl)))⟩, rfl, rfl, rfl⟩
set_option maxRecDepth 100000 in
theorem ip_k_68 : ip_Kok (5, 27, 103, 5) := ⟨⟨(ip_t1 (ip_v1_6 (List.mem_of_getElem? (l := ip_u1_6.1) (i := 28) rfl))), (ip_t1 (ip_v1_5 (List.mem_of_getElem? (l := ip_u1_5.1) (i := 7) rfl))), (ip_t1 (ip_v1_5 (List.mem_of_getElem? (l := ip_u1_5.1) (i := 7) rfl)))⟩, rfl, rfl, rfl⟩
set_option maxRecDepth 100000 in
theorem ip_k_69 : ip_Kok (5, 46, 97, 1) := ⟨⟨(ip_t2 (ip_v2_4 (List.mem_of_getElem? (l := ip_u2_4.1) (i := 15) rfl))), (ip_t2 (ip_v2_4 (List.mem_of_getElem? (l := ip_u2_4.1) (i := 16) rfl))), (ip_t2 (ip_v2_4 (List.mem_of_getElem? (l := ip_u2_4.1) (i := 17) rfl)))⟩, rfl, rfl, rfl⟩
set_option maxRecDepth 100000 in
theorem ip_k_70 : ip_Kok (5, 52, 105, 1) := ⟨⟨(ip_t2 (ip_v2_4 (List.mem_of_getElem? (l := ip_u2_4.1) (i := 19) rfl))), (ip_t2 (ip_v2_4 (List.mem_of_getElem? (l := ip_u2_4.1) (i := 20) rfl))), (ip_t2 (ip_v2_4 (List.mem_of_getElem? (l := ip_u2_4.1) (i := 21) rfl)))⟩, rfl, rfl, rfl⟩
set_option maxRecDepth 100000 in
theorem ip_k_71 : ip_Kok (5, 69, 42, 1) := ⟨⟨(ip_t4 (ip_v4_1 (List.mem_of_getElem? (l := ip_u4_1.1) (i := 16) rfl))), (ip_t2 (ip_v2_5 (List.mem_of_getElem? (l := ip_u2_5.1) (i := 0) rfl))), (ip_t2 (ip_v2_5 (List.mem_of_getElem? (l := ip_u2_5.1) (i := 1) rfl)))⟩, rfl, rfl, rfl⟩
set_option maxRecDepth 100000 in
theorem ip_k_72 : ip_Kok (5, 73, 96, 1) := ⟨⟨(ip_t4 (ip_v4_1 (List.mem_of_getElem? (l := ip_u4_1.1) (i := 17) rfl))), (ip_t3 (ip_v3_3 (List.mem_of_getElem? (l := ip_u3_3.1) (i := 20) rfl))), (ip_t3 (ip_v3_3 (List.mem_of_getElem? (l := ip_u3_3.1) (i := 21) rfl)))⟩, rfl, rfl, rfl⟩
set_option maxRecDepth 100000 in
theorem ip_k_73 : ip_Kok (5, 76, 21, 1) := ⟨⟨(ip_t4 (ip_v4_1 (List.mem_of_getElem? (l := ip_u4_1.1) (i := 18) rfl))), (ip_t2 (ip_v2_5 (List.mem_of_getElem? (l := ip_u2_5.1) (i := 11) rfl))), (ip_t2 (ip_v2_5 (List.mem_of_getElem? (l := ip_u2_5.1) (i := 12) rfl)))⟩, rfl, rfl, rfl⟩
set_option maxRecDepth 100000 in
theorem ip_k_74 : ip_Kok (5, 79, 22, 1) := ⟨⟨(ip_t4 (ip_v4_1 (List.mem_of_getElem? (l := ip_u4_1.1) (i := 19) rfl))), (ip_t4 (ip_v4_1 (List.mem_of_getElem? (l := ip_u4_1.1) (i := 20) rfl))), (ip_t4 (ip_v4_1 (List.mem_of_getElem? (l := ip_u4_1.1) (i := 21) rfl)))⟩, rfl, rfl, rfl⟩
set_option maxRecDepth 100000 in
theorem ip_k_75 : ip_Kok (6, 17, 103, 5) := ⟨⟨(ip_t1 (ip_v1_5 (List.mem_of_getElem? (l := ip_u1_5.1) (i := 26) rfl))), (ip_t1 (ip_v1_5 (List.mem_of_getElem? (l := ip_u1_5.1) (i := 7) rfl))), (ip_t1 (ip_v1_5 (List.mem_of_getElem? (l := ip_u1_5.1) (i := 7) rfl)))⟩, rfl, rfl, rfl⟩
set_option maxRecDepth 100000 in
theorem ip_k_76 : ip_Kok (6, 32, 78, 1) := ⟨⟨(ip_t3 (ip_v3_5 (List.mem_of_getElem? (l := ip_u3_5.1) (i := 31) rfl))), (ip_t3 (ip_v3_5 (List.mem_of_getElem? (l := ip_u3_5.1) (i := 24) rfl))), (ip_t3 (ip_v3_5 (List.mem_of_getElem? (l := ip_u3_5.1) (i := 25) rfl)))⟩, rfl, rfl, rfl⟩
set_option maxRecDepth 100000 in
theorem ip_k_77 : ip_Kok (6, 37, 82, 1) := ⟨⟨(ip_t3 (ip_v3_6 (List.mem_of_getElem? (l := ip_u3_6.1) (i := 16) rfl))), (ip_t3 (ip_v3_6 (List.mem_of_getElem? (l := ip_u3_6.1) (i := 18) rfl))), (List.mem_of_getElem? (l := lw_tbl) (i := 10) rfl)⟩, rfl, rfl, rfl⟩
set_option maxRecDepth 100000 in
theorem ip_k_78 : ip_Kok (6, 41, 83, 1) := ⟨⟨(ip_t3 (ip_v3_6 (List.mem_of_getElem? (l := ip_u3_6.1) (i := 20) rfl))), (ip_t3 (ip_v3_6 (List.mem_of_getElem? (l := ip_u3_6.1) (i := 22) rfl))), (List.mem_of_getElem? (l := lw_tbl) (i := 11) rfl)⟩, rfl, rfl, rfl⟩
set_option maxRecDepth 100000 in
theorem ip_k_79 : ip_Kok (6, 45, 84, 1) := ⟨⟨(ip_t3 (ip_v3_7 (List.mem_of_getElem? (l := ip_u3_7.1) (i := 7) rfl))), (ip_t3 (ip_v3_7 (List.mem_of_getElem? (l := ip_u3_7.1) (i := 9) rfl))), (List.mem_of_getElem? (l := lw_tbl) (i := 15) rfl)⟩, rfl, rfl, rfl⟩
set_option maxRecDepth 100000 in
theorem ip_k_80 : ip_Kok (6, 49, 104, 1) := ⟨⟨(ip_t3 (ip_v3_7 (List.mem_of_getElem? (l := ip_u3_7.1) (i := 11) rfl))), (ip_t3 (ip_v3_7 (List.mem_of_getElem? (l := ip_u3_7.1) (i := 12) rfl))), (ip_t3 (ip_v3_7 (List.mem_of_getElem? (l := ip_u3_7.1) (i := 13) rfl)))⟩, rfl, rfl, rfl⟩
set_option maxRecDepth 100000 in
theorem ip_k_81 : ip_Kok (6, 53, 85, 1) := ⟨⟨(ip_t3 (ip_v3_6 (List.mem_of_getElem? (l := ip_u3_6.1) (i := 24) rfl))), (ip_t3 (ip_v3_6 (List.mem_of_getElem? (l := ip_u3_6.1) (i := 26) rfl))), (List.mem_of_getElem? (l := lw_tbl) (i := 12) rfl)⟩, rfl, rfl, rfl⟩
set_option maxRecDepth 100000 in
theorem ip_k_82 : ip_Kok (6, 56, 86, 1) := ⟨⟨(ip_t3 (ip_v3_7 (List.mem_of_getElem? (l := ip_u3_7.1) (i := 0) rfl))), (ip_t3 (ip_v3_7 (List.mem_of_getElem? (l := ip_u3_7.1) (i := 2) rfl))), (List.mem_of_getElem? (l := lw_tbl) (i := 14) rfl)⟩, rfl, rfl, rfl⟩
set_option maxRecDepth 100000 in
theorem ip_k_83 : ip_Kok (6, 59, 87, 1) := ⟨⟨(ip_t3 (ip_v3_6 (List.mem_of_getElem? (l := ip_u3_6.1) (i := 28) rfl))), (ip_t3 (ip_v3_6 (List.mem_of_getElem? (l := ip_u3_6.1) (i := 30) rfl))), (List.mem_of_getElem? (l := lw_tbl) (i := 13) rfl)⟩, rfl, rfl, rfl⟩
set_option maxRecDepth 100000 in
theorem ip_k_84 : ip_Kok (6, 62, 294, 0) := ⟨⟨(ip_t3 (ip_v3_7 (List.mem_of_getElem? (l := ip_u3_7.1) (i := 4) rfl))), (ip_t3 (ip_v3_7 (List.mem_of_getElem? (l := ip_u3_7.1) (i := 5) rfl))), (ip_t3 (ip_v3_7 (List.mem_of_getElem? (l := ip_u3_7.1) (i := 5) rfl)))⟩, rfl, rfl, rfl⟩
set_option maxRecDepth 100000 in
theorem ip_k_85 : ip_Kok (8, 24, 163, 3) := ⟨⟨(ip_t2 (ip_v2_5 (List.mem_of_getElem? (l := ip_u2_5.1) (i := 7) rfl))), (ip_t2 (ip_v2_5 (List.mem_of_getElem? (l := ip_u2_5.1) (i := 8) rfl))), (ip_t2 (ip_v2_5 (List.mem_of_getElem? (l := ip_u2_5.1) (i := 8) rfl)))⟩, rfl, rfl, rfl⟩
set_option maxRecDepth 100000 in
theorem ip_k_86 : ip_Kok (8, 32, 93, 1) := ⟨⟨(ip_t2 (ip_v2_6 (List.mem_of_getElem? (l := ip_u2_6.1) (i := 26) rfl))), (ip_t2 (ip_v2_5 (List.mem_of_getElem? (l := ip_u2_5.1) (i := 4) rfl))), (ip_t2 (ip_v2_5 (List.mem_of_getElem? (l := ip_u2_5.1) (i := 5) rfl)))⟩, rfl, rfl, rfl⟩
set_option maxRecDepth 100000 in
theorem ip_k_87 : ip_Kok (8, 40, 99, 1) := ⟨⟨(ip_t2 (ip_v2_6 (List.mem_of_getElem? (l := ip_u2_6.1) (i := 29) rfl))), (ip_t2 (ip_v2_6 (List.mem_of_getElem? (l := ip_u2_6.1) (i := 30) rfl))), (ip_t2 (ip_v2_6 (List.mem_of_getElem? (l := ip_u2_6.1) (i := 31) rfl)))⟩, rfl, rfl, rfl⟩
set_option maxRecDepth 100000 in
theorem ip_k_88 : ip_Kok (8, 44, 100, 0) := ⟨⟨(ip_t2 (ip_v2_7 (List.mem_of_getElem? (l := ip_u2_7.1) (i := 1) rfl))), (ip_t2 (ip_v2_7 (List.mem_of_getElem? (l := ip_u2_7.1) (i := 2) rfl))), (ip_t2 (ip_v2_7 (List.mem_of_getElem? (l := ip_u2_7.1) (i := 2) rfl)))⟩, rfl, rfl, rfl⟩
set_option maxRecDepth 100000 in
theorem ip_k_89 : ip_Kok (9, 25, 64, 1) := ⟨⟨(ip_t4 (ip_v4_0 (List.mem_of_getElem? (l := ip_u4_0.1) (i := 8) rfl))), (ip_t3 (ip_v3_2 (List.mem_of_getElem? (l := ip_u3_2.1) (i := 10) rfl))), (ip_t3 (ip_v3_2 (List.mem_of_getElem? (l := ip_u3_2.1) (i := 11) rfl)))⟩, rfl, rfl, rfl⟩
set_option maxRecDepth 100000 in
theorem ip_k_90 : ip_Kok (9, 30, 106, 1) := ⟨⟨(ip_t4 (ip_v4_0 (List.mem_of_getElem? (l := ip_u4_0.1) (i := 9) rfl))), (ip_t4 (ip_v4_0 (List.mem_of_getElem? (l := ip_u4_0.1) (i := 10) rfl))), (ip_t4 (ip_v4_0 (List.mem_of_getElem? (l := ip_u4_0.1) (i := 11) rfl)))⟩, rfl, rfl, rfl⟩
set_option maxRecDepth 100000 in
theorem ip_k_91 : ip_Kok (9, 34, 66, 1) := ⟨⟨(ip_t4 (ip_v4_0 (List.mem_of_getElem? (l := ip_u4_0.1) (i := 13) rfl))), (ip_t3 (ip_v3_4 (List.mem_of_getElem? (l := ip_u3_4.1) (i := 10) rfl))), (ip_t3 (ip_v3_4 (List.mem_of_getElem? (l := ip_u3_4.1) (i := 11) rfl)))⟩, rfl, rfl, rfl⟩
set_option maxRecDepth 100000 in
theorem ip_k_92 : ip_Kok (10, 11, 38, 5) := ⟨⟨(ip_t1 (ip_v1_0 (List.mem_of_getElem? (l := ip_u1_0.1) (i := 25) rfl))), (ip_t1 (ip_v1_0 (List.mem_of_getElem? (l := ip_u1_0.1) (i := 26) rfl))), (ip_t1 (ip_v1_0 (List.mem_of_getElem? (l := ip_u1_0.1) (i := 26) rfl)))⟩, rfl, rfl, rfl⟩
set_option maxRecDepth 100000 in
theorem ip_k_93 : ip_Kok (10, 26, 10, 5) := ⟨⟨(ip_t1 (ip_v1_3 (List.mem_of_getElem? (l := ip_u1_3.1) (i := 5) rfl))), (ip_t1 (ip_v1_3 (List.mem_of_getElem? (l := ip_u1_3.1) (i := 6) rfl))), (ip_t1 (ip_v1_3 (List.mem_of_getElem? (l := ip_u1_3.1) (i := 6) rfl)))⟩, rfl, rfl, rfl⟩
set_option maxRecDepth 100000 in
theorem ip_k_94 : ip_Kok (10, 33, 103, 5) := ⟨⟨(ip_t1 (ip_v1_5 (List.mem_of_getElem? (l := ip_u1_5.1) (i := 6) rfl))), (ip_t1 (ip_v1_5 (List.mem_of_getElem? (l := ip_u1_5.1) (i := 7) rfl))), (ip_t1 (ip_v1_5 (List.mem_of_getElem? (l := ip_u1_5.1) (i := 7) rfl)))⟩, rfl, rfl, rfl⟩
set_option maxRecDepth 100000 in
theorem ip_k_95 : ip_Kok (10, 40, 77, 5) := ⟨⟨(ip_t1 (ip_v1_5 (List.mem_of_getElem? (l := ip_u1_5.1) (i := 21) rfl))), (ip_t1 (ip_v1_5 (List.mem_of_getElem? (l := ip_u1_5.1) (i := 22) rfl))), (ip_t1 (ip_v1_5 (List.mem_of_getElem? (l := ip_u1_5.1) (i := 22) rfl)))⟩, rfl, rfl, rfl⟩
set_option maxRecDepth 100000 in
theorem ip_k_96 : ip_Kok (10, 47, 54, 2) := ⟨⟨(ip_t1 (ip_v1_6 (List.mem_of_getElem? (l := ip_u1_6.1) (i := 16) rfl))), (ip_t1 (ip_v1_6 (List.mem_of_getElem? (l := ip_u1_6.1) (i := 17) rfl))), (ip_t1 (ip_v1_6 (List.mem_of_getElem? (l := ip_u1_6.1) (i := 17) rfl)))⟩, rfl, rfl, rfl⟩
set_option maxRecDepth 100000 in
theorem ip_k_97 : ip_Kok (10, 54, 88, 5) := ⟨⟨(ip_t2 (ip_v2_0 (List.mem_of_getElem? (l := ip_u2_0.1) (i := 31) rfl))), (ip_t2 (ip_v2_1 (List.mem_of_getElem? (l := ip_u2_1.1) (i := 0) rfl))), (ip_t2 (ip_v2_1 (List.mem_of_getElem? (l := ip_u2_1.1) (i := 0) rfl)))⟩, rfl, rfl, rfl⟩
set_option maxRecDepth 100000 in
theorem ip_k_98 : ip_Kok (10, 71, 60, 5) := ⟨⟨(ip_t2 (ip_v2_1 (List.mem_of_getElem? (l := ip_u2_1.1) (i := 12) rfl))), (ip_t1 (ip_v1_1 (List.mem_of_getElem? (l := ip_u1_1.1) (i := 0) rfl))), (ip_t1 (ip_v1_1 (List.mem_of_getElem? (l := ip_u1_1.1) (i := 0) rfl)))⟩, rfl, rfl, rfl⟩
set_option maxRecDepth 100000 in
theorem ip_k_99 : ip_Kok (10, 78, 0, 5) := ⟨⟨(ip_t2 (ip_v2_1 (List.mem_of_getElem? (l := ip_u2_1.1) (i := 15) rfl))), (ip_t2 (ip_v2_1 (List.mem_of_getElem? (l := ip_u2_1.1) (i := 16) rfl))), (ip_t2 (ip_v2_1 (List.mem_of_getElem? (l := ip_u2_1.1) (i := 16) rfl)))⟩, rfl, rfl, rfl⟩
set_option maxRecDepth 100000 in
theorem ip_k_100 : ip_Kok (10, 83, 92, 5) := ⟨⟨(ip_t2 (ip_v2_1 (List.mem_of_getElem? (l := ip_u2_1.1) (i := 26) rfl))), (ip_t1 (ip_v1_1 (List.mem_of_getElem? (l := ip_u1_1.1) (i := 11) rfl))), (ip_t1 (ip_v1_1 (List.mem_of_getElem? (l := ip_u1_1.1) (i := 11) rfl)))⟩, rfl, rfl, rfl⟩
set_option maxRecDepth 100000 in
theorem ip_k_101 : ip_Kok (10, 91, 39, 0) := ⟨⟨(ip_t2 (ip_v2_3 (List.mem_of_getElem? (l := ip_u2_3.1) (i := 10) rfl))), (ip_t2 (ip_v2_3 (List.mem_of_getElem? (l := ip_u2_3.1) (i := 11) rfl))), (ip_t2 (ip_v2_3 (List.mem_of_getElem? (l := ip_u2_3.1) (i := 11) rfl)))⟩, rfl, rfl, rfl⟩
set_option maxRecDepth 100000 in
theorem ip_k_102 : ip_Kok (10, 95, 89, 1) := ⟨⟨(ip_t2 (ip_v2_3 (List.mem_of_getElem? (l := ip_u2_3.1) (i := 15) rfl))), (ip_t2 (ip_v2_3 (List.mem_of_getElem? (l := ip_u2_3.1) (i := 16) rfl))), (ip_t2 (ip_v2_3 (List.mem_of_getElem? (l := ip_u2_3.1) (i := 17) rfl)))⟩, rfl, rfl, rfl⟩
set_option maxRecDepth 100000 in
theorem ip_k_103 : ip_Kok (10, 99, 40, 0) := ⟨⟨(ip_t2 (ip_v2_3 (List.mem_of_getElem? (l := ip_u2_3.1) (i := 19) rfl))), (ip_t2 (ip_v2_3 (List.mem_of_getElem? (l := ip_u2_3.1) (i := 20) rfl))), (ip_t2 (ip_v2_3 (List.mem_of_getElem? (l := ip_u2_3.1) (i := 20) rfl)))⟩, rfl, rfl, rfl⟩
set_option maxRecDepth 100000 in
theorem ip_k_104 : ip_Kok (10, 102, 153, 1) := ⟨⟨(ip_t2 (ip_v2_3 (List.mem_of_getElem? (l := ip_u2_3.1) (i := 28) rfl))), (ip_t2 (ip_v2_3 (List.mem_of_getElem? (l := ip_u2_3.1) (i := 30) rfl))), (List.mem_of_getElem? (l := lw_tbl) (i := 0) rfl)⟩, rfl, rfl, rfl⟩
set_option maxRecDepth 100000 in
theorem ip_k_105 : ip_Kok (10, 106, 154, 1) := ⟨⟨(ip_t2 (ip_v2_4 (List.mem_of_getElem? (l := ip_u2_4.1) (i := 27) rfl))), (ip_t2 (ip_v2_4 (List.mem_of_getElem? (l := ip_u2_4.1) (i := 29) rfl))), (List.mem_of_getElem? (l := lw_tbl) (i := 2) rfl)⟩, rfl, rfl, rfl⟩
set_option maxRecDepth 100000 in
theorem ip_k_106 : ip_Kok (10, 110, 43, 1) := ⟨⟨(ip_t2 (ip_v2_5 (List.mem_of_getElem? (l := ip_u2_5.1) (i := 14) rfl))), (ip_t2 (ip_v2_5 (List.mem_of_getElem? (l := ip_u2_5.1) (i := 15) rfl))), (ip_t2 (ip_v2_5 (List.mem_of_getElem? (l := ip_u2_5.1) (i := 16) rfl)))⟩, rfl, rfl, rfl⟩
set_option maxRecDepth 100000 in
theorem ip_k_107 : ip_Kok (10, 114, 90, 1) := ⟨⟨(ip_t2 (ip_v2_5 (List.mem_of_getElem? (l := ip_u2_5.1) (i := 18) rfl))), (ip_t2 (ip_v2_5 (List.mem_of_getElem? (l := ip_u2_5.1) (i := 19) rfl))), (ip_t2 (ip_v2_5 (List.mem_of_getElem? (l := ip_u2_5.1) (i := 20) rfl)))⟩, rfl, rfl, rfl⟩
set_option maxRecDepth 100000 in
theorem ip_k_108 : ip_Kok (10, 117, 155, 0) := ⟨⟨(ip_t2 (ip_v2_5 (List.mem_of_getElem? (l := ip_u2_5.1) (i := 30) rfl))), (ip_t2 (ip_v2_5 (List.mem_of_getElem? (l := ip_u2_5.1) (i := 31) rfl))), (ip_t2 (ip_v2_5 (List.mem_of_getElem? (l := ip_u2_5.1) (i := 31) rfl)))⟩, rfl, rfl, rfl⟩
set_option maxRecDepth 100000 in
theorem ip_k_109 : ip_Kok (10, 121, 156, 0) := ⟨⟨(ip_t2 (ip_v2_6 (List.mem_of_getElem? (l := ip_u2_6.1) (i := 1) rfl))), (ip_t2 (ip_v2_6 (List.mem_of_getElem? (l := ip_u2_6.1) (i := 2) rfl))), (ip_t2 (ip_v2_6 (List.mem_of_getElem? (l := ip_u2_6.1) (i := 2) rfl)))⟩, rfl, rfl, rfl⟩
set_option maxRecDepth 100000 in
theorem ip_k_110 : ip_Kok (10, 125, 93, 1) := ⟨⟨(ip_t2 (ip_v2_5 (List.mem_of_getElem? (l := ip_u2_5.1) (i := 3) rfl))), (ip_t2 (ip_v2_5 (List.mem_of_getElem? (l := ip_u2_5.1) (i := 4) rfl))), (ip_t2 (ip_v2_5 (List.mem_of_getElem? (l := ip_u2_5.1) (i := 5) rfl)))⟩, rfl, rfl, rfl⟩
set_option maxRecDepth 100000 in
theorem ip_k_111 : ip_Kok (10, 129, 49, 1) := ⟨⟨(ip_t2 (ip_v2_6 (List.mem_of_getElem? (l := ip_u2_6.1) (i := 4) rfl))), (ip_t2 (ip_v2_6 (List.mem_of_getElem? (l := ip_u2_6.1) (i := 5) rfl))), (ip_t2 (ip_v2_6 (List.mem_of_getElem? (l := ip_u2_6.1) (i := 6) rfl)))⟩, rfl, rfl, rfl⟩
set_option maxRecDepth 100000 in
theorem ip_k_112 : ip_Kok (10, 133, 94, 1) := ⟨⟨(ip_t2 (ip_v2_6 (List.mem_of_getElem? (l := ip_u2_6.1) (i := 20) rfl))), (ip_t2 (ip_v2_6 (List.mem_of_getElem? (l := ip_u2_6.1) (i := 21) rfl))), (ip_t2 (ip_v2_6 (List.mem_of_getElem? (l := ip_u2_6.1) (i := 22) rfl)))⟩, rfl, rfl, rfl⟩
set_option maxRecDepth 100000 in
theorem ip_k_113 : ip_Kok (10, 137, 95, 1) := ⟨⟨(ip_t2 (ip_v2_7 (List.mem_of_getElem? (l := ip_u2_7.1) (i := 5) rfl))), (ip_t2 (ip_v2_7 (List.mem_of_getElem? (l := ip_u2_7.1) (i := 6) rfl))), (ip_t2 (ip_v2_7 (List.mem_of_getElem? (l := ip_u2_7.1) (i := 7) rfl)))⟩, rfl, rfl, rfl⟩
set_option maxRecDepth 100000 in
theorem ip_k_114 : ip_Kok (10, 141, 101, 1) := ⟨⟨(ip_t2 (ip_v2_7 (List.mem_of_getElem? (l := ip_u2_7.1) (i := 13) rfl))), (ip_t2 (ip_v2_7 (List.mem_of_getElem? (l := ip_u2_7.1) (i := 14) rfl))), (ip_t2 (ip_v2_7 (List.mem_of_getElem? (l := ip_u2_7.1) (i := 15) rfl)))⟩, rfl, rfl, rfl⟩
set_option maxRecDepth 100000 in
theorem ip_k_115 : ip_Kok (10, 145, 158, 1) := ⟨⟨(ip_t3 (ip_v3_0 (List.mem_of_getElem? (l := ip_u3_0.1) (i := 1) rfl))), (ip_t3 (ip_v3_0 (List.mem_of_getElem? (l := ip_u3_0.1) (i := 3) rfl))), (List.mem_of_getElem? (l := lw_tbl) (i := 4) rfl)⟩, rfl, rfl, rfl⟩
set_option maxRecDepth 100000 in
theorem ip_k_116 : ip_Kok (10, 149, 99, 1) := ⟨⟨(ip_t3 (ip_v3_1 (List.mem_of_getElem? (l := ip_u3_1.1) (i := 14) rfl))), (ip_t2 (ip_v2_6 (List.mem_of_getElem? (l := ip_u2_6.1) (i := 30) rfl))), (ip_t2 (ip_v2_6 (List.mem_of_getElem? (l := ip_u2_6.1) (i := 31) rfl)))⟩, rfl, rfl, rfl⟩
set_option maxRecDepth 100000 in
theorem ip_k_117 : ip_Kok (10, 151, 18, 0) := ⟨⟨(ip_t3 (ip_v3_1 (List.mem_of_getElem? (l := ip_u3_1.1) (i := 19) rfl))), (ip_t3 (ip_v3_1 (List.mem_of_getElem? (l := ip_u3_1.1) (i := 20) rfl))), (ip_t3 (ip_v3_1 (List.mem_of_getElem? (l := ip_u3_1.1) (i := 20) rfl)))⟩, rfl, rfl, rfl⟩
set_option maxRecDepth 100000 in
theorem ip_k_118 : ip_Kok (10, 155, 20, 1) := ⟨⟨(ip_t3 (ip_v3_1 (List.mem_of_getElem? (l := ip_u3_1.1) (i := 30) rfl))), (ip_t3 (ip_v3_1 (List.mem_of_getElem? (l := ip_u3_1.1) (i := 31) rfl))), (ip_t3 (ip_v3_2 (List.mem_of_getElem? (l := ip_u3_2.1) (i := 0) rfl)))⟩, rfl, rfl, rfl⟩
set_option maxRecDepth 100000 in
theorem ip_k_119 : ip_Kok (10, 159, 15, 1) := ⟨⟨(ip_t3 (ip_v3_2 (List.mem_of_getElem? (l := ip_u3_2.1) (i := 14) rfl))), (ip_t3 (ip_v3_2 (List.mem_of_getElem? (l := ip_u3_2.1) (i := 15) rfl))), (ip_t3 (ip_v3_2 (List.mem_of_getElem? (l := ip_u3_2.1) (i := 16) rfl)))⟩, rfl, rfl, rfl⟩
set_option maxRecDepth 100000 in
theorem ip_k_120 : ip_Kok (10, 163, 25, 1) := ⟨⟨(ip_t3 (ip_v3_2 (List.mem_of_getElem? (l := ip_u3_2.1) (i := 27) rfl))), (ip_t3 (ip_v3_2 (List.mem_of_getElem? (l := ip_u3_2.1) (i := 28) rfl))), (ip_t3 (ip_v3_2 (List.mem_of_getElem? (l := ip_u3_2.1) (i := 29) rfl)))⟩, rfl, rfl, rfl⟩
set_option maxRecDepth 100000 in
theorem ip_k_121 : ip_Kok (10, 167, 27, 1) := ⟨⟨(ip_t3 (ip_v3_4 (List.mem_of_getElem? (l := ip_u3_4.1) (i := 25) rfl))), (ip_t3 (ip_v3_4 (List.mem_of_getElem? (l := ip_u3_4.1) (i := 26) rfl))), (ip_t3 (ip_v3_4 (List.mem_of_getElem? (l := ip_u3_4.1) (i := 27) rfl)))⟩, rfl, rfl, rfl⟩
set_option maxRecDepth 100000 in
theorem ip_k_122 : ip_Kok (10, 173, 12, 1) := ⟨⟨(ip_t3 (ip_v3_5 (List.mem_of_getElem? (l := ip_u3_5.1) (i := 9) rfl))), (ip_t3 (ip_v3_5 (List.mem_of_getElem? (l := ip_u3_5.1) (i := 10) rfl))), (ip_t3 (ip_v3_5 (List.mem_of_getElem? (l := ip_u3_5.1) (i := 11) rfl)))⟩, rfl, rfl, rfl⟩
set_option maxRecDepth 100000 in
theorem ip_k_123 : ip_Kok (10, 176, 11, 1) := ⟨⟨(ip_t3 (ip_v3_5 (List.mem_of_getElem? (l := ip_u3_5.1) (i := 17) rfl))), (ip_t3 (ip_v3_3 (List.mem_of_getElem? (l := ip_u3_3.1) (i := 0) rfl))), (ip_t3 (ip_v3_3 (List.mem_of_getElem? (l := ip_u3_3.1) (i := 1) rfl)))⟩, rfl, rfl, rfl⟩
set_option maxRecDepth 100000 in
theorem ip_k_124 : ip_Kok (10, 179, 16, 1) := ⟨⟨(ip_t3 (ip_v3_5 (List.mem_of_getElem? (l := ip_u3_5.1) (i := 18) rfl))), (ip_t3 (ip_v3_3 (List.mem_of_getElem? (l := ip_u3_3.1) (i := 16) rfl))), (ip_t3 (ip_v3_3 (List.mem_of_getElem? (l := ip_u3_3.1) (i := 17) rfl)))⟩, rfl, rfl, rfl⟩
set_option maxRecDepth 100000 in
theorem ip_k_125 : ip_Kok (10, 183, 78, 1) := ⟨⟨(ip_t3 (ip_v3_5 (List.mem_of_getElem? (l := ip_u3_5.1) (i := 23) rfl))), (ip_t3 (ip_v3_5 (List.mem_of_getElem? (l := ip_u3_5.1) (i := 24) rfl))), (ip_t3 (ip_v3_5 (List.mem_of_getElem? (l := ip_u3_5.1) (i := 25) rfl)))⟩, rfl, rfl, rfl⟩
set_option maxRecDepth 100000 in
theorem ip_k_126 : ip_Kok (10, 186, 79, 1) := ⟨⟨(ip_t3 (ip_v3_5 (List.mem_of_getElem? (l := ip_u3_5.1) (i := 27) rfl))), (ip_t3 (ip_v3_5 (List.mem_of_getElem? (l := ip_u3_5.1) (i := 28) rfl))), (ip_t3 (ip_v3_5 (List.mem_of_getElem? (l := ip_u3_5.1) (i := 29) rfl)))⟩, rfl, rfl, rfl⟩
set_option maxRecDepth 100000 in
theorem ip_k_127 : ip_Kok (10, 192, 80, 1) := ⟨⟨(ip_t3 (ip_v3_6 (List.mem_of_getElem? (l := ip_u3_6.1) (i := 4) rfl))), (ip_t3 (ip_v3_6 (List.mem_of_getElem? (l := ip_u3_6.1) (i := 5) rfl))), (ip_t3 (ip_v3_6 (List.mem_of_getElem? (l := ip_u3_6.1) (i := 6) rfl)))⟩, rfl, rfl, rfl⟩
set_option maxRecDepth 100000 in
theorem ip_k_128 : ip_Kok (10, 195, 81, 1) := ⟨⟨(ip_t3 (ip_v3_6 (List.mem_of_getElem? (l := ip_u3_6.1) (i := 12) rfl))), (ip_t3 (ip_v3_6 (List.mem_of_getElem? (l := ip_u3_6.1) (i := 13) rfl))), (ip_t3 (ip_v3_6 (List.mem_of_getElem? (l := ip_u3_6.1) (i := 14) rfl)))⟩, rfl, rfl, rfl⟩
set_option maxRecDepth 100000 in
theorem ip_k_129 : ip_Kok (10, 201, 105, 1) := ⟨⟨(ip_t3 (ip_v3_7 (List.mem_of_getElem? (l := ip_u3_7.1) (i := 15) rfl))), (ip_t2 (ip_v2_4 (List.mem_of_getElem? (l := ip_u2_4.1) (i := 20) rfl))), (ip_t2 (ip_v2_4 (List.mem_of_getElem? (l := ip_u2_4.1) (i := 21) rfl)))⟩, rfl, rfl, rfl⟩
set_option maxRecDepth 100000 in
theorem ip_k_130 : ip_Kok (10, 205, 107, 1) := ⟨⟨(ip_t4 (ip_v4_0 (List.mem_of_getElem? (l := ip_u4_0.1) (i := 4) rfl))), (ip_t4 (ip_v4_0 (List.mem_of_getElem? (l := ip_u4_0.1) (i := 5) rfl))), (ip_t4 (ip_v4_0 (List.mem_of_getElem? (l := ip_u4_0.1) (i := 6) rfl)))⟩, rfl, rfl, rfl⟩
set_option maxRecDepth 100000 in
theorem ip_k_131 : ip_Kok (10, 209, 159, 1) := ⟨⟨(ip_t4 (ip_v4_0 (List.mem_of_getElem? (l := ip_u4_0.1) (i := 14) rfl))), (ip_t4 (ip_v4_0 (List.mem_of_getElem? (l := ip_u4_0.1) (i := 16) rfl))), (List.mem_of_getElem? (l := lw_tbl) (i := 16) rfl)⟩, rfl, rfl, rfl⟩
set_option maxRecDepth 100000 in
theorem ip_k_132 : ip_Kok (10, 227, 56, 1) := ⟨⟨(ip_t4 (ip_v4_1 (List.mem_of_getElem? (l := ip_u4_1.1) (i := 8) rfl))), (ip_t4 (ip_v4_1 (List.mem_of_getElem? (l := ip_u4_1.1) (i := 9) rfl))), (ip_t4 (ip_v4_1 (List.mem_of_getElem? (l := ip_u4_1.1) (i := 10) rfl)))⟩, rfl, rfl, rfl⟩
set_option maxRecDepth 100000 in
theorem ip_k_133 : ip_Kok (10, 231, 76, 1) := ⟨⟨(ip_t4 (ip_v4_1 (List.mem_of_getElem? (l := ip_u4_1.1) (i := 12) rfl))), (ip_t4 (ip_v4_1 (List.mem_of_getElem? (l := ip_u4_1.1) (i := 13) rfl))), (ip_t4 (ip_v4_1 (List.mem_of_getElem? (l := ip_u4_1.1) (i := 14) rfl)))⟩, rfl, rfl, rfl⟩
set_option maxRecDepth 100000 in
theorem ip_k_134 : ip_Kok (10, 237, 57, 1) := ⟨⟨(ip_t4 (ip_v4_1 (List.mem_of_getElem? (l := ip_u4_1.1) (i := 26) rfl))), (ip_t4 (ip_v4_1 (List.mem_of_getElem? (l := ip_u4_1.1) (i := 27) rfl))), (ip_t4 (ip_v4_1 (List.mem_of_getElem? (l := ip_u4_1.1) (i := 28) rfl)))⟩, rfl, rfl, rfl⟩
set_option maxRecDepth 100000 in
theorem ip_k_135 : ip_Kok (10, 244, 75, 1) := ⟨⟨(ip_t2 (ip_v2_4 (List.mem_of_getElem? (l := ip_u2_4.1) (i := 11) rfl))), (ip_t2 (ip_v2_4 (List.mem_of_getElem? (l := ip_u2_4.1) (i := 12) rfl))), (ip_t2 (ip_v2_4 (List.mem_of_getElem? (l := ip_u2_4.1) (i := 13) rfl)))⟩, rfl, rfl, rfl⟩
set_option maxRecDepth 100000 in
theorem ip_k_136 : ip_Kok (10, 250, 157, 1) := ⟨⟨(ip_t4 (ip_v4_2 (List.mem_of_getElem? (l := ip_u4_2.1) (i := 2) rfl))), (ip_t4 (ip_v4_2 (List.mem_of_getElem? (l := ip_u4_2.1) (i := 4) rfl))), (List.mem_of_getElem? (l := lw_tbl) (i := 17) rfl)⟩, rfl, rfl, rfl⟩
set_option maxRecDepth 100000 in
theorem ip_k_137 : ip_Kok (10, 253, 58, 1) := ⟨⟨(ip_t4 (ip_v4_2 (List.mem_of_getElem? (l := ip_u4_2.1) (i := 10) rfl))), (ip_t4 (ip_v4_2 (List.mem_of_getElem? (l := ip_u4_2.1) (i := 11) rfl))), (ip_t4 (ip_v4_2 (List.mem_of_getElem? (l := ip_u4_2.1) (i := 12) rfl)))⟩, rfl, rfl, rfl⟩
set_option maxRecDepth 100000 in
theorem ip_k_138 : ip_Kok (10, 257, 46, 1) := ⟨⟨(ip_t4 (ip_v4_2 (List.mem_of_getElem? (l := ip_u4_2.1) (i := 19) rfl))), (ip_t3 (ip_v3_1 (List.mem_of_getElem? (l := ip_u3_1.1) (i := 26) rfl))), (ip_t3 (ip_v3_1 (List.mem_of_getElem? (l := ip_u3_1.1) (i := 27) rfl)))⟩, rfl, rfl, rfl⟩
set_option maxRecDepth 100000 in
theorem ip_k_139 : ip_Kok (10, 260, 102, 1) := ⟨⟨(ip_t4 (ip_v4_2 (List.mem_of_getElem? (l := ip_u4_2.1) (i := 20) rfl))), (ip_t4 (ip_v4_2 (List.mem_of_getElem? (l := ip_u4_2.1) (i := 21) rfl))), (ip_t4 (ip_v4_2 (List.mem_of_getElem? (l := ip_u4_2.1) (i := 22) rfl)))⟩, rfl, rfl, rfl⟩
set_option maxRecDepth 100000 in
theorem ip_k_140 : ip_Kok (10, 263, 61, 0) := ⟨⟨(ip_t4 (ip_v4_2 (List.mem_of_getElem? (l := ip_u4_2.1) (i := 29) rfl))), (ip_t3 (ip_v3_0 (List.mem_of_getElem? (l := ip_u3_0.1) (i := 23) rfl))), (ip_t3 (ip_v3_0 (List.mem_of_getElem? (l := ip_u3_0.1) (i := 23) rfl)))⟩, rfl, rfl, rfl⟩
set_option maxRecDepth 100000 in
theorem ip_k_141 : ip_Kok (10, 278, 44, 1) := ⟨⟨(ip_t4 (ip_v4_2 (List.mem_of_getElem? (l := ip_u4_2.1) (i := 31) rfl))), (ip_t3 (ip_v3_0 (List.mem_of_getElem? (l := ip_u3_0.1) (i := 15) rfl))), (ip_t3 (ip_v3_0 (List.mem_of_getElem? (l := ip_u3_0.1) (i := 16) rfl)))⟩, rfl, rfl, rfl⟩
set_option maxRecDepth 100000 in
theorem ip_k_142 : ip_Kok (10, 285, 62, 1) := ⟨⟨(ip_t4 (ip_v4_3 (List.mem_of_getElem? (l := ip_u4_3.1) (i := 0) rfl))), (ip_t3 (ip_v3_0 (List.mem_of_getElem? (l := ip_u3_0.1) (i := 30) rfl))), (ip_t3 (ip_v3_0 (List.mem_of_getElem? (l := ip_u3_0.1) (i := 31) rfl)))⟩, rfl, rfl, rfl⟩
set_option maxRecDepth 100000 in
theorem ip_k_143 : ip_Kok (10, 292, 72, 1) := ⟨⟨(ip_t4 (ip_v4_0 (List.mem_of_getElem? (l := ip_u4_0.1) (i := 24) rfl))), (ip_t3 (ip_v3_1 (List.mem_of_getElem? (l := ip_u3_1.1) (i := 6) rfl))), (ip_t3 (ip_v3_1 (List.mem_of_getElem? (l := ip_u3_1.1) (i := 7) rfl)))⟩, rfl, rfl, rfl⟩
set_option maxRecDepth 100000 in
theorem ip_k_144 : ip_Kok (10, 296, 164, 0) := ⟨⟨(ip_t4 (ip_v4_3 (List.mem_of_getElem? (l := ip_u4_3.1) (i := 5) rfl))), (ip_t4 (ip_v4_3 (List.mem_of_getElem? (l := ip_u4_3.1) (i := 6) rfl))), (ip_t4 (ip_v4_3 (List.mem_of_getElem? (l := ip_u4_3.1) (i := 6) rfl)))⟩, rfl, rfl, rfl⟩
set_option maxRecDepth 100000 in
theorem ip_k_145 : ip_Kok (10, 300, 48, 1) := ⟨⟨(ip_t4 (ip_v4_3 (List.mem_of_getElem? (l := ip_u4_3.1) (i := 13) rfl))), (ip_t3 (ip_v3_3 (List.mem_of_getElem? (l := ip_u3_3.1) (i := 29) rfl))), (ip_t3 (ip_v3_3 (List.mem_of_getElem? (l := ip_u3_3.1) (i := 30) rfl)))⟩, rfl, rfl, rfl⟩
set_option maxRecDepth 100000 in
theorem ip_k_146 : ip_Kok (10, 304, 13, 1) := ⟨⟨(ip_t4 (ip_v4_3 (List.mem_of_getElem? (l := ip_u4_3.1) (i := 18) rfl))), (ip_t4 (ip_v4_3 (List.mem_of_getElem? (l := ip_u4_3.1) (i := 19) rfl))), (ip_t4 (ip_v4_3 (List.mem_of_getElem? (l := ip_u4_3.1) (i := 20) rfl)))⟩, rfl, rfl, rfl⟩
set_option maxRecDepth 100000 in
theorem ip_k_147 : ip_Kok (10, 307, 14, 1) := ⟨⟨(ip_t4 (ip_v4_3 (List.mem_of_getElem? (l := ip_u4_3.1) (i := 22) rfl))), (ip_t3 (ip_v3_2 (List.mem_of_getElem? (l := ip_u3_2.1) (i := 19) rfl))), (ip_t3 (ip_v3_2 (List.mem_of_getElem? (l := ip_u3_2.1) (i := 20) rfl)))⟩, rfl, rfl, rfl⟩
set_option maxRecDepth 100000 in
theorem ip_k_148 : ip_Kok (10, 310, 17, 1) := ⟨⟨(ip_t4 (ip_v4_3 (List.mem_of_getElem? (l := ip_u4_3.1) (i := 27) rfl))), (ip_t4 (ip_v4_3 (List.mem_of_getElem? (l := ip_u4_3.1) (i := 28) rfl))), (ip_t4 (ip_v4_3 (List.mem_of_getElem? (l := ip_u4_3.1) (i := 29) rfl)))⟩, rfl, rfl, rfl⟩
set_option maxRecDepth 100000 in
theorem ip_k_149 : ip_Kok (10, 316, 160, 1) := ⟨⟨(ip_t4 (ip_v4_4 (List.mem_of_getElem? (l := ip_u4_4.1) (i := 11) rfl))), (ip_t4 (ip_v4_4 (List.mem_of_getElem? (l := ip_u4_4.1) (i := 13) rfl))), (List.mem_of_getElem? (l := lw_tbl) (i := 18) rfl)⟩, rfl, rfl, rfl⟩
set_option maxRecDepth 100000 in
theorem ip_k_150 : ip_Kok (10, 319, 4, 1) := ⟨⟨(ip_t4 (ip_v4_4 (List.mem_of_getElem? (l := ip_u4_4.1) (i := 28) rfl))), (ip_t4 (ip_v4_4 (List.mem_of_getElem? (l := ip_u4_4.1) (i := 29) rfl))), (ip_t4 (ip_v4_4 (List.mem_of_getElem? (l := ip_u4_4.1) (i := 30) rfl)))⟩, rfl, rfl, rfl⟩
set_option maxRecDepth 100000 in
theorem ip_k_151 : ip_Kok (10, 322, 5, 1) := ⟨⟨(ip_t4 (ip_v4_5 (List.mem_of_getElem? (l := ip_u4_5.1) (i := 5) rfl))), (ip_t4 (ip_v4_5 (List.mem_of_getElem? (l := ip_u4_5.1) (i := 6) rfl))), (ip_t4 (ip_v4_5 (List.mem_of_getElem? (l := ip_u4_5.1) (i := 7) rfl)))⟩, rfl, rfl, rfl⟩
set_option maxRecDepth 100000 in
theorem ip_k_152 : ip_Kok (10, 327, 70, 1) := ⟨⟨(ip_t4 (ip_v4_0 (List.mem_of_getElem? (l := ip_u4_0.1) (i := 20) rfl))), (ip_t4 (ip_v4_0 (List.mem_of_getElem? (l := ip_u4_0.1) (i := 21) rfl))), (ip_t4 (ip_v4_0 (List.mem_of_getElem? (l := ip_u4_0.1) (i := 22) rfl)))⟩, rfl, rfl, rfl⟩
set_option maxRecDepth 100000 in
theorem ip_k_153 : ip_Kok (10, 330, 71, 1) := ⟨⟨(ip_t4 (ip_v4_5 (List.mem_of_getElem? (l := ip_u4_5.1) (i := 14) rfl))), (ip_t3 (ip_v3_1 (List.mem_of_getElem? (l := ip_u3_1.1) (i := 10) rfl))), (ip_t3 (ip_v3_1 (List.mem_of_getElem? (l := ip_u3_1.1) (i := 11) rfl)))⟩, rfl, rfl, rfl⟩
set_option maxRecDepth 100000 in
theorem ip_k_154 : ip_Kok (10, 333, 47, 1) := ⟨⟨(ip_t4 (ip_v4_5 (List.mem_of_getElem? (l := ip_u4_5.1) (i := 19) rfl))), (ip_t2 (ip_v2_6 (List.mem_of_getElem? (l := ip_u2_6.1) (i := 9) rfl))), (ip_t2 (ip_v2_6 (List.mem_of_getElem? (l := ip_u2_6.1) (i := 10) rfl)))⟩, rfl, rfl, rfl⟩
set_option maxRecDepth 100000 in
theorem ip_k_155 : ip_Kok (10, 337, 7, 1) := ⟨⟨(ip_t4 (ip_v4_5 (List.mem_of_getElem? (l := ip_u4_5.1) (i := 24) rfl))), (ip_t4 (ip_v4_5 (List.mem_of_getElem? (l := ip_u4_5.1) (i := 25) rfl))), (ip_t4 (ip_v4_5 (List.mem_of_getElem? (l := ip_u4_5.1) (i := 26) rfl)))⟩, rfl, rfl, rfl⟩
set_option maxRecDepth 100000 in
theorem ip_k_156 : ip_Kok (10, 340, 6, 1) := ⟨⟨(ip_t4 (ip_v4_6 (List.mem_of_getElem? (l := ip_u4_6.1) (i := 1) rfl))), (ip_t4 (ip_v4_6 (List.mem_of_getElem? (l := ip_u4_6.1) (i := 2) rfl))), (ip_t4 (ip_v4_6 (List.mem_of_getElem? (l := ip_u4_6.1) (i := 3) rfl)))⟩, rfl, rfl, rfl⟩
set_option maxRecDepth 100000 in
theorem ip_k_157 : ip_Kok (10, 341, 8, 1) := ⟨⟨(ip_t4 (ip_v4_6 (List.mem_of_getElem? (l := ip_u4_6.1) (i := 5) rfl))), (ip_t4 (ip_v4_6 (List.mem_of_getElem? (l := ip_u4_6.1) (i := 6) rfl))), (ip_t4 (ip_v4_6 (List.mem_of_getElem? (l := ip_u4_6.1) (i := 7) rfl)))⟩, rfl, rfl, rfl⟩
set_option maxRecDepth 100000 in
theorem ip_k_158 : ip_Kok (10, 350, 33, 1) := ⟨⟨(ip_t4 (ip_v4_6 (List.mem_of_getElem? (l := ip_u4_6.1) (i := 21) rfl))), (ip_t4 (ip_v4_6 (List.mem_of_getElem? (l := ip_u4_6.1) (i := 22) rfl))), (ip_t4 (ip_v4_6 (List.mem_of_getElem? (l := ip_u4_6.1) (i := 23) rfl)))⟩, rfl, rfl, rfl⟩
set_option maxRecDepth 100000 in
theorem ip_k_159 : ip_Kok (10, 355, 69, 1) := ⟨⟨(ip_t4 (ip_v4_0 (List.mem_of_getElem? (l := ip_u4_0.1) (i := 18) rfl))), (ip_t3 (ip_v3_4 (List.mem_of_getElem? (l := ip_u3_4.1) (i := 22) rfl))), (ip_t3 (ip_v3_4 (List.mem_of_getElem? (l := ip_u3_4.1) (i := 23) rfl)))⟩, rfl, rfl, rfl⟩
set_option maxRecDepth 100000 in
theorem ip_k_160 : ip_Kok (10, 358, 34, 1) := ⟨⟨(ip_t4 (ip_v4_6 (List.mem_of_getElem? (l := ip_u4_6.1) (i := 31) rfl))), (ip_t4 (ip_v4_7 (List.mem_of_getElem? (l := ip_u4_7.1) (i := 0) rfl))), (ip_t4 (ip_v4_7 (List.mem_of_getElem? (l := ip_u4_7.1) (i := 1) rfl)))⟩, rfl, rfl, rfl⟩
set_option maxRecDepth 100000 in
theorem ip_k_161 : ip_Kok (10, 362, 37, 1) := ⟨⟨(ip_t5 (ip_v5_0 (List.mem_of_getElem? (l := ip_u5_0.1) (i := 8) rfl))), (ip_t5 (ip_v5_0 (List.mem_of_getElem? (l := ip_u5_0.1) (i := 9) rfl))), (ip_t5 (ip_v5_0 (List.mem_of_getElem? (l := ip_u5_0.1) (i := 10) rfl)))⟩, rfl, rfl, rfl⟩
set_option maxRecDepth 100000 in
theorem ip_k_162 : ip_Kok (10, 366, 161, 1) := ⟨⟨(ip_t5 (ip_v5_0 (List.mem_of_getElem? (l := ip_u5_0.1) (i := 16) rfl))), (ip_t5 (ip_v5_0 (List.mem_of_getElem? (l := ip_u5_0.1) (i := 18) rfl))), (List.mem_of_getElem? (l := lw_tbl) (i := 21) rfl)⟩, rfl, rfl, rfl⟩
set_option maxRecDepth 100000 in
theorem ip_k_163 : ip_Kok (10, 369, 106, 1) := ⟨⟨(ip_t5 (ip_v5_1 (List.mem_of_getElem? (l := ip_u5_1.1) (i := 0) rfl))), (ip_t4 (ip_v4_0 (List.mem_of_getElem? (l := ip_u4_0.1) (i := 10) rfl))), (ip_t4 (ip_v4_0 (List.mem_of_getElem? (l := ip_u4_0.1) (i := 11) rfl)))⟩, rfl, rfl, rfl⟩
set_option maxRecDepth 100000 in
theorem ip_k_164 : ip_Kok (10, 372, 108, 1) := ⟨⟨(ip_t5 (ip_v5_1 (List.mem_of_getElem? (l := ip_u5_1.1) (i := 9) rfl))), (ip_t5 (ip_v5_1 (List.mem_of_getElem? (l := ip_u5_1.1) (i := 10) rfl))), (ip_t5 (ip_v5_1 (List.mem_of_getElem? (l := ip_u5_1.1) (i := 11) rfl)))⟩, rfl, rfl, rfl⟩
set_option maxRecDepth 100000 in
theorem ip_k_165 : ip_Kok (10, 375, 162, 1) := ⟨⟨(ip_t5 (ip_v5_1 (List.mem_of_getElem? (l := ip_u5_1.1) (i := 13) rfl))), (ip_t5 (ip_v5_1 (List.mem_of_getElem? (l := ip_u5_1.1) (i := 15) rfl))), (List.mem_of_getElem? (l := lw_tbl) (i := 22) rfl)⟩, rfl, rfl, rfl⟩
set_option maxRecDepth 100000 in
theorem ip_k_166 : ip_Kok (10, 378, 31, 1) := ⟨⟨(ip_t5 (ip_v5_1 (List.mem_of_getElem? (l := ip_u5_1.1) (i := 22) rfl))), (ip_t5 (ip_v5_1 (List.mem_of_getElem? (l := ip_u5_1.1) (i := 23) rfl))), (ip_t5 (ip_v5_1 (List.mem_of_getElem? (l := ip_u5_1.1) (i := 24) rfl)))⟩, rfl, rfl, rfl⟩
set_option maxRecDepth 100000 in
theorem ip_k_167 : ip_Kok (10, 381, 32, 1) := ⟨⟨(ip_t5 (ip_v5_1 (List.mem_of_getElem? (l := ip_u5_1.1) (i := 31) rfl))), (ip_t5 (ip_v5_2 (List.mem_of_getElem? (l := ip_u5_2.1) (i := 0) rfl))), (ip_t5 (ip_v5_2 (List.mem_of_getElem? (l := ip_u5_2.1) (i := 1) rfl)))⟩, rfl, rfl, rfl⟩
set_option maxRecDepth 100000 in
theorem ip_k_168 : ip_Kok (10, 384, 91, 1) := ⟨⟨(ip_t5 (ip_v5_2 (List.mem_of_getElem? (l := ip_u5_2.1) (i := 3) rfl))), (ip_t5 (ip_v5_2 (List.mem_of_getElem? (l := ip_u5_2.1) (i := 4) rfl))), (ip_t5 (ip_v5_2 (List.mem_of_getElem? (l := ip_u5_2.1) (i := 5) rfl)))⟩, rfl, rfl, rfl⟩
set_option maxRecDepth 100000 in
theorem ip_k_169 : ip_Kok (10, 390, 55, 1) := ⟨⟨(ip_t2 (ip_v2_4 (List.mem_of_getElem? (l := ip_u2_4.1) (i := 0) rfl))), (ip_t2 (ip_v2_4 (List.mem_of_getElem? (l := ip_u2_4.1) (i := 1) rfl))), (ip_t2 (ip_v2_4 (List.mem_of_getElem? (l := ip_u2_4.1) (i := 2) rfl)))⟩, rfl, rfl, rfl⟩
set_option maxRecDepth 100000 in
theorem ip_k_170 : ip_Kok (10, 393, 42, 1) := ⟨⟨(ip_t2 (ip_v2_4 (List.mem_of_getElem? (l := ip_u2_4.1) (i := 31) rfl))), (ip_t2 (ip_v2_5 (List.mem_of_getElem? (l := ip_u2_5.1) (i := 0) rfl))), (ip_t2 (ip_v2_5 (List.mem_of_getElem? (l := ip_u2_5.1) (i := 1) rfl)))⟩, rfl, rfl, rfl⟩
set_option maxRecDepth 100000 in
theorem ip_k_171 : ip_Kok (10, 395, 21, 1) := ⟨⟨(ip_t2 (ip_v2_5 (List.mem_of_getElem? (l := ip_u2_5.1) (i := 10) rfl))), (ip_t2 (ip_v2_5 (List.mem_of_getElem? (l := ip_u2_5.1) (i := 11) rfl))), (ip_t2 (ip_v2_5 (List.mem_of_getElem? (l := ip_u2_5.1) (i := 12) rfl)))⟩, rfl, rfl, rfl⟩
set_option maxRecDepth 100000 in
theorem ip_k_172 : ip_Kok (10, 398, 50, 1) := ⟨⟨(ip_t3 (ip_v3_0 (List.mem_of_getElem? (l := ip_u3_0.1) (i := 5) rfl))), (ip_t3 (ip_v3_0 (List.mem_of_getElem? (l := ip_u3_0.1) (i := 6) rfl))), (ip_t3 (ip_v3_0 (List.mem_of_getElem? (l := ip_u3_0.1) (i := 7) rfl)))⟩, rfl, rfl, rfl⟩
set_option maxRecDepth 100000 in
theorem ip_k_173 : ip_Kok (10, 401, 51, 1) := ⟨⟨(ip_t3 (ip_v3_0 (List.mem_of_getElem? (l := ip_u3_0.1) (i := 10) rfl))), (ip_t3 (ip_v3_0 (List.mem_of_getElem? (l := ip_u3_0.1) (i := 11) rfl))), (ip_t3 (ip_v3_0 (List.mem_of_getElem? (l := ip_u3_0.1) (i := 12) rfl)))⟩, rfl, rfl, rfl⟩
set_option maxRecDepth 100000 in
theorem ip_k_174 : ip_Kok (10, 405, 52, 1) := ⟨⟨(ip_t3 (ip_v3_1 (List.mem_of_getElem? (l := ip_u3_1.1) (i := 1) rfl))), (ip_t3 (ip_v3_1 (List.mem_of_getElem? (l := ip_u3_1.1) (i := 2) rfl))), (ip_t3 (ip_v3_1 (List.mem_of_getElem? (l := ip_u3_1.1) (i := 3) rfl)))⟩, rfl, rfl, rfl⟩
set_option maxRecDepth 100000 in
theorem ip_k_175 : ip_Kok (10, 410, 53, 1) := ⟨⟨(ip_t4 (ip_v4_0 (List.mem_of_getElem? (l := ip_u4_0.1) (i := 25) rfl))), (ip_t4 (ip_v4_0 (List.mem_of_getElem? (l := ip_u4_0.1) (i := 26) rfl))), (ip_t4 (ip_v4_0 (List.mem_of_getElem? (l := ip_u4_0.1) (i := 27) rfl)))⟩, rfl, rfl, rfl⟩
set_option maxRecDepth 100000 in
theorem ip_k_176 : ip_Kok (10, 414, 1, 1) := ⟨⟨(ip_t4 (ip_v4_4 (List.mem_of_getElem? (l := ip_u4_4.1) (i := 15) rfl))), (ip_t4 (ip_v4_4 (List.mem_of_getElem? (l := ip_u4_4.1) (i := 16) rfl))), (ip_t4 (ip_v4_4 (List.mem_of_getElem? (l := ip_u4_4.1) (i := 17) rfl)))⟩, rfl, rfl, rfl⟩
set_option maxRecDepth 100000 in
theorem ip_k_177 : ip_Kok (10, 417, 36, 1) := ⟨⟨(ip_t5 (ip_v5_0 (List.mem_of_getElem? (l := ip_u5_0.1) (i := 20) rfl))), (ip_t5 (ip_v5_0 (List.mem_of_getElem? (l := ip_u5_0.1) (i := 21) rfl))), (ip_t5 (ip_v5_0 (List.mem_of_getElem? (l := ip_u5_0.1) (i := 22) rfl)))⟩, rfl, rfl, rfl⟩
set_option maxRecDepth 100000 in
theorem ip_k_178 : ip_Kok (10, 420, 293, 0) := ⟨⟨(ip_t5 (ip_v5_0 (List.mem_of_getElem? (l := ip_u5_0.1) (i := 25) rfl))), (ip_t5 (ip_v5_0 (List.mem_of_getElem? (l := ip_u5_0.1) (i := 26) rfl))), (ip_t5 (ip_v5_0 (List.mem_of_getElem? (l := ip_u5_0.1) (i := 26) rfl)))⟩, rfl, rfl, rfl⟩
set_option maxRecDepth 100000 in
theorem ip_k_179 : ip_Kok (10, 425, 294, 0) := ⟨⟨(ip_t5 (ip_v5_1 (List.mem_of_getElem? (l := ip_u5_1.1) (i := 17) rfl))), (ip_t3 (ip_v3_7 (List.mem_of_getElem? (l := ip_u3_7.1) (i := 5) rfl))), (ip_t3 (ip_v3_7 (List.mem_of_getElem? (l := ip_u3_7.1) (i := 5) rfl)))⟩, rfl, rfl, rfl⟩
set_option maxRecDepth 100000 in
theorem ip_k_180 : ip_Kok (10, 428, 163, 0) := ⟨⟨(ip_t4 (ip_v4_3 (List.mem_of_getElem? (l := ip_u4_3.1) (i := 8) rfl))), (ip_t2 (ip_v2_5 (List.mem_of_getElem? (l := ip_u2_5.1) (i := 8) rfl))), (ip_t2 (ip_v2_5 (List.mem_of_getElem? (l := ip_u2_5.1) (i := 8) rfl)))⟩, rfl, rfl, rfl⟩
set_option maxRecDepth 100000 in
theorem ip_k_181 : ip_Kok (11, 73, 169, 1) := ⟨⟨(ip_t5 (ip_v5_2 (List.mem_of_getElem? (l := ip_u5_2.1) (i := 18) rfl))), (ip_t5 (ip_v5_2 (List.mem_of_getElem? (l := ip_u5_2.1) (i := 20) rfl))), (List.mem_of_getElem? (l := lw_tbl) (i := 23) rfl)⟩, rfl, rfl, rfl⟩
set_option maxRecDepth 100000 in
theorem ip_k_182 : ip_Kok (11, 86, 167, 1) := ⟨⟨(ip_t5 (ip_v5_7 (List.mem_of_getElem? (l := ip_u5_7.1) (i := 11) rfl))), (ip_t5 (ip_v5_7 (List.mem_of_getElem? (l := ip_u5_7.1) (i := 13) rfl))), (List.mem_of_getElem? (l := lw_tbl) (i := 24) rfl)⟩, rfl, rfl, rfl⟩
set_option maxRecDepth 100000 in
theorem ip_k_183 : ip_Kok (11, 90, 171, 1) := ⟨⟨(ip_t5 (ip_v5_7 (List.mem_of_getElem? (l := ip_u5_7.1) (i := 15) rfl))), (ip_t6 (ip_v6_0 (List.mem_of_getElem? (l := ip_u6_0.1) (i := 1) rfl))), (List.mem_of_getElem? (l := lw_tbl) (i := 25) rfl)⟩, rfl, rfl, rfl⟩
set_option maxRecDepth 100000 in
theorem ip_k_184 : ip_Kok (11, 93, 168, 1) := ⟨⟨(ip_t6 (ip_v6_0 (List.mem_of_getElem? (l := ip_u6_0.1) (i := 3) rfl))), (ip_t6 (ip_v6_0 (List.mem_of_getElem? (l := ip_u6_0.1) (i := 5) rfl))), (List.mem_of_getElem? (l := lw_tbl) (i := 26) rfl)⟩, rfl, rfl, rfl⟩
set_option maxRecDepth 100000 in
theorem ip_k_185 : ip_Kok (11, 96, 166, 0) := ⟨⟨(ip_t6 (ip_v6_0 (List.mem_of_getElem? (l := ip_u6_0.1) (i := 11) rfl))), (ip_t6 (ip_v6_0 (List.mem_of_getElem? (l := ip_u6_0.1) (i := 12) rfl))), (ip_t6 (ip_v6_0 (List.mem_of_getElem? (l := ip_u6_0.1) (i := 12) rfl)))⟩, rfl, rfl, rfl⟩
set_option maxRecDepth 100000 in
theorem ip_k_186 : ip_Kok (11, 100, 173, 1) := ⟨⟨(ip_t6 (ip_v6_0 (List.mem_of_getElem? (l := ip_u6_0.1) (i := 14) rfl))), (ip_t6 (ip_v6_0 (List.mem_of_getElem? (l := ip_u6_0.1) (i := 16) rfl))), (List.mem_of_getElem? (l := lw_tbl) (i := 27) rfl)⟩, rfl, rfl, rfl⟩
set_option maxRecDepth 100000 in
theorem ip_k_187 : ip_Kok (11, 104, 176, 1) := ⟨⟨(ip_t6 (ip_v6_2 (List.mem_of_getElem? (l := ip_u6_2.1) (i := 11) rfl))), (ip_t6 (ip_v6_2 (List.mem_of_getElem? (l := ip_u6_2.1) (i := 13) rfl))), (List.mem_of_getElem? (l := lw_tbl) (i := 34) rfl)⟩, rfl, rfl, rfl⟩
set_option maxRecDepth 100000 in
theorem ip_k_188 : ip_Kok (11, 110, 177, 1) := ⟨⟨(ip_t6 (ip_v6_2 (List.mem_of_getElem? (l := ip_u6_2.1) (i := 20) rfl))), (ip_t6 (ip_v6_2 (List.mem_of_getElem? (l := ip_u6_2.1) (i := 22) rfl))), (List.mem_of_getElem? (l := lw_tbl) (i := 36) rfl)⟩, rfl, rfl, rfl⟩
set_option maxRecDepth 100000 in
theorem ip_k_189 : ip_Kok (11, 115, 178, 1) := ⟨⟨(ip_t6 (ip_v6_2 (List.mem_of_getElem? (l := ip_u6_2.1) (i := 29) rfl))), (ip_t6 (ip_v6_2 (List.mem_of_getElem? (l := ip_u6_2.1) (i := 31) rfl))), (List.mem_of_getElem? (l := lw_tbl) (i := 38) rfl)⟩, rfl, rfl, rfl⟩
set_option maxRecDepth 100000 in
theorem ip_k_190 : ip_Kok (11, 118, 179, 1) := ⟨⟨(ip_t6 (ip_v6_2 (List.mem_of_getElem? (l := ip_u6_2.1) (i := 15) rfl))), (ip_t6 (ip_v6_2 (List.mem_of_getElem? (l := ip_u6_2.1) (i := 17) rfl))), (List.mem_of_getElem? (l := lw_tbl) (i := 35) rfl)⟩, rfl, rfl, rfl⟩
set_option maxRecDepth 100000 in
theorem ip_k_191 : ip_Kok (11, 121, 180, 1) := ⟨⟨(ip_t6 (ip_v6_2 (List.mem_of_getElem? (l := ip_u6_2.1) (i := 24) rfl))), (ip_t6 (ip_v6_2 (List.mem_of_getElem? (l := ip_u6_2.1) (i := 26) rfl))), (List.mem_of_getElem? (l := lw_tbl) (i := 37) rfl)⟩, rfl, rfl, rfl⟩
set_option maxRecDepth 100000 in
theorem ip_k_192 : ip_Kok (11, 124, 181, 1) := ⟨⟨(ip_t6 (ip_v6_3 (List.mem_of_getElem? (l := ip_u6_3.1) (i := 1) rfl))), (ip_t6 (ip_v6_3 (List.mem_of_getElem? (l := ip_u6_3.1) (i := 3) rfl))), (List.mem_of_getElem? (l := lw_tbl) (i := 39) rfl)⟩, rfl, rfl, rfl⟩
set_option maxRecDepth 100000 in
theorem ip_k_193 : ip_Kok (11, 127, 184, 1) := ⟨⟨(ip_t6 (ip_v6_2 (List.mem_of_getElem? (l := ip_u6_2.1) (i := 7) rfl))), (ip_t6 (ip_v6_2 (List.mem_of_getElem? (l := ip_u6_2.1) (i := 9) rfl))), (List.mem_of_getElem? (l := lw_tbl) (i := 33) rfl)⟩, rfl, rfl, rfl⟩
set_option maxRecDepth 100000 in
theorem ip_k_194 : ip_Kok (11, 131, 185, 1) := ⟨⟨(ip_t6 (ip_v6_2 (List.mem_of_getElem? (l := ip_u6_2.1) (i := 3) rfl))), (ip_t6 (ip_v6_2 (List.mem_of_getElem? (l := ip_u6_2.1) (i := 5) rfl))), (List.mem_of_getElem? (l := lw_tbl) (i := 32) rfl)⟩, rfl, rfl, rfl⟩
set_option maxRecDepth 100000 in
theorem ip_k_195 : ip_Kok (11, 135, 187, 0) := ⟨⟨(ip_t6 (ip_v6_1 (List.mem_of_getElem? (l := ip_u6_1.1) (i := 24) rfl))), (ip_t6 (ip_v6_1 (List.mem_of_getElem? (l := ip_u6_1.1) (i := 25) rfl))), (ip_t6 (ip_v6_1 (List.mem_of_getElem? (l := ip_u6_1.1) (i := 25) rfl)))⟩, rfl, rfl, rfl⟩
set_option maxRecDepth 100000 in
theorem ip_k_196 : ip_Kok (11, 156, 189, 0) := ⟨⟨(ip_t6 (ip_v6_1 (List.mem_of_getElem? (l := ip_u6_1.1) (i := 12) rfl))), (ip_t6 (ip_v6_1 (List.mem_of_getElem? (l := ip_u6_1.1) (i := 13) rfl))), (ip_t6 (ip_v6_1 (List.mem_of_getElem? (l := ip_u6_1.1) (i := 13) rfl)))⟩, rfl, rfl, rfl⟩
set_option maxRecDepth 100000 in
theorem ip_k_197 : ip_Kok (11, 160, 188, 1) := ⟨⟨(ip_t6 (ip_v6_1 (List.mem_of_getElem? (l := ip_u6_1.1) (i := 20) rfl))), (ip_t6 (ip_v6_1 (List.mem_of_getElem? (l := ip_u6_1.1) (i := 22) rfl))), (List.mem_of_getElem? (l := lw_tbl) (i := 29) rfl)⟩, rfl, rfl, rfl⟩
set_option maxRecDepth 100000 in
theorem ip_k_198 : ip_Kok (11, 164, 182, 1) := ⟨⟨(ip_t6 (ip_v6_4 (List.mem_of_getElem? (l := ip_u6_4.1) (i := 4) rfl))), (ip_t6 (ip_v6_4 (List.mem_of_getElem? (l := ip_u6_4.1) (i := 6) rfl))), (List.mem_of_getElem? (l := lw_tbl) (i := 45) rfl)⟩, rfl, rfl, rfl⟩
set_option maxRecDepth 100000 in
theorem ip_k_199 : ip_Kok (11, 167, 183, 1) := ⟨⟨(ip_t6 (ip_v6_4 (List.mem_of_getElem? (l := ip_u6_4.1) (i := 8) rfl))), (ip_t6 (ip_v6_4 (List.mem_of_getElem? (l := ip_u6_4.1) (i := 10) rfl))), (List.mem_of_getElem? (l := lw_tbl) (i := 46) rfl)⟩, rfl, rfl, rfl⟩
set_option maxRecDepth 100000 in
theorem ip_k_200 : ip_Kok (11, 170, 191, 1) := ⟨⟨(ip_t6 (ip_v6_3 (List.mem_of_getElem? (l := ip_u6_3.1) (i := 28) rfl))), (ip_t6 (ip_v6_3 (List.mem_of_getElem? (l := ip_u6_3.1) (i := 30) rfl))), (List.mem_of_getElem? (l := lw_tbl) (i := 43) rfl)⟩, rfl, rfl, rfl⟩
set_option maxRecDepth 100000 in
theorem ip_k_201 : ip_Kok (11, 174, 193, 1) := ⟨⟨(ip_t6 (ip_v6_4 (List.mem_of_getElem? (l := ip_u6_4.1) (i := 12) rfl))), (ip_t6 (ip_v6_4 (List.mem_of_getElem? (l := ip_u6_4.1) (i := 14) rfl))), (List.mem_of_getElem? (l := lw_tbl) (i := 47) rfl)⟩, rfl, rfl, rfl⟩
set_option maxRecDepth 100000 in
theorem ip_k_202 : ip_Kok (11, 178, 194, 1) := ⟨⟨(ip_t6 (ip_v6_4 (List.mem_of_getElem? (l := ip_u6_4.1) (i := 16) rfl))), (ip_t6 (ip_v6_4 (List.mem_of_getElem? (l := ip_u6_4.1) (i := 18) rfl))), (List.mem_of_getElem? (l := lw_tbl) (i := 48) rfl)⟩, rfl, rfl, rfl⟩
set_option maxRecDepth 100000 in
theorem ip_k_203 : ip_Kok (11, 181, 195, 1) := ⟨⟨(ip_t6 (ip_v6_4 (List.mem_of_getElem? (l := ip_u6_4.1) (i := 20) rfl))), (ip_t6 (ip_v6_4 (List.mem_of_getElem? (l := ip_u6_4.1) (i := 22) rfl))), (List.mem_of_getElem? (l := lw_tbl) (i := 49) rfl)⟩, rfl, rfl, rfl⟩
set_option maxRecDepth 100000 in
theorem ip_k_204 : ip_Kok (11, 184, 186, 1) := ⟨⟨(ip_t6 (ip_v6_1 (List.mem_of_getElem? (l := ip_u6_1.1) (i := 31) rfl))), (ip_t6 (ip_v6_2 (List.mem_of_getElem? (l := ip_u6_2.1) (i := 1) rfl))), (List.mem_of_getElem? (l := lw_tbl) (i := 31) rfl)⟩, rfl, rfl, rfl⟩
set_option maxRecDepth 100000 in
theorem ip_k_205 : ip_Kok (11, 188, 199, 0) := ⟨⟨(ip_t6 (ip_v6_0 (List.mem_of_getElem? (l := ip_u6_0.1) (i := 29) rfl))), (ip_t6 (ip_v6_0 (List.mem_of_getElem? (l := ip_u6_0.1) (i := 30) rfl))), (ip_t6 (ip_v6_0 (List.mem_of_getElem? (l := ip_u6_0.1) (i := 30) rfl)))⟩, rfl, rfl, rfl⟩
set_option maxRecDepth 100000 in
theorem ip_k_206 : ip_Kok (11, 192, 200, 0) := ⟨⟨(ip_t6 (ip_v6_0 (List.mem_of_getElem? (l := ip_u6_0.1) (i := 26) rfl))), (ip_t6 (ip_v6_0 (List.mem_of_getElem? (l := ip_u6_0.1) (i := 27) rfl))), (ip_t6 (ip_v6_0 (List.mem_of_getElem? (l := ip_u6_0.1) (i := 27) rfl)))⟩, rfl, rfl, rfl⟩
set_option maxRecDepth 100000 in
theorem ip_k_207 : ip_Kok (11, 195, 170, 1) := ⟨⟨(ip_t6 (ip_v6_1 (List.mem_of_getElem? (l := ip_u6_1.1) (i := 0) rfl))), (ip_t6 (ip_v6_1 (List.mem_of_getElem? (l := ip_u6_1.1) (i := 2) rfl))), (List.mem_of_getElem? (l := lw_tbl) (i := 28) rfl)⟩, rfl, rfl, rfl⟩
set_option maxRecDepth 100000 in
theorem ip_k_208 : ip_Kok (11, 202, 196, 0) := ⟨⟨(ip_t6 (ip_v6_1 (List.mem_of_getElem? (l := ip_u6_1.1) (i := 17) rfl))), (ip_t6 (ip_v6_1 (List.mem_of_getElem? (l := ip_u6_1.1) (i := 18) rfl))), (ip_t6 (ip_v6_1 (List.mem_of_getElem? (l := ip_u6_1.1) (i := 18) rfl)))⟩, rfl, rfl, rfl⟩
set_option maxRecDepth 100000 in
theorem ip_k_209 : ip_Kok (11, 206, 198, 1) := ⟨⟨(ip_t6 (ip_v6_1 (List.mem_of_getElem? (l := ip_u6_1.1) (i := 27) rfl))), (ip_t6 (ip_v6_1 (List.mem_of_getElem? (l := ip_u6_1.1) (i := 29) rfl))), (List.mem_of_getElem? (l := lw_tbl) (i := 30) rfl)⟩, rfl, rfl, rfl⟩
set_option maxRecDepth 100000 in
theorem ip_k_210 : ip_Kok (11, 215, 197, 1) := ⟨⟨(ip_t6 (ip_v6_3 (List.mem_of_getElem? (l := ip_u6_3.1) (i := 20) rfl))), (ip_t6 (ip_v6_3 (List.mem_of_getElem? (l := ip_u6_3.1) (i := 22) rfl))), (List.mem_of_getElem? (l := lw_tbl) (i := 41) rfl)⟩, rfl, rfl, rfl⟩
set_option maxRecDepth 100000 in
theorem ip_k_211 : ip_Kok (11, 219, 192, 1) := ⟨⟨(ip_t6 (ip_v6_4 (List.mem_of_getElem? (l := ip_u6_4.1) (i := 0) rfl))), (ip_t6 (ip_v6_4 (List.mem_of_getElem? (l := ip_u6_4.1) (i := 2) rfl))), (List.mem_of_getElem? (l := lw_tbl) (i := 44) rfl)⟩, rfl, rfl, rfl⟩
set_option maxRecDepth 100000 in
theorem ip_k_212 : ip_Kok (11, 223, 206, 1) := ⟨⟨(ip_t6 (ip_v6_3 (List.mem_of_getElem? (l := ip_u6_3.1) (i := 16) rfl))), (ip_t6 (ip_v6_3 (List.mem_of_getElem? (l := ip_u6_3.1) (i := 18) rfl))), (List.mem_of_getElem? (l := lw_tbl) (i := 40) rfl)⟩, rfl, rfl, rfl⟩
set_option maxRecDepth 100000 in
theorem ip_k_213 : ip_Kok (11, 226, 205, 1) := ⟨⟨(ip_t6 (ip_v6_3 (List.mem_of_getElem? (l := ip_u6_3.1) (i := 24) rfl))), (ip_t6 (ip_v6_3 (List.mem_of_getElem? (l := ip_u6_3.1) (i := 26) rfl))), (List.mem_of_getElem? (l := lw_tbl) (i := 42) rfl)⟩, rfl, rfl, rfl⟩
set_option maxRecDepth 100000 in
theorem ip_k_214 : ip_Kok (11, 229, 190, 1) := ⟨⟨(ip_t6 (ip_v6_4 (List.mem_of_getElem? (l := ip_u6_4.1) (i := 24) rfl))), (ip_t6 (ip_v6_4 (List.mem_of_getElem? (l := ip_u6_4.1) (i := 26) rfl))), (List.mem_of_getElem? (l := lw_tbl) (i := 50) rfl)⟩, rfl, rfl, rfl⟩
set_option maxRecDepth 100000 in
theorem ip_k_215 : ip_Kok (11, 233, 210, 1) := ⟨⟨(ip_t6 (ip_v6_5 (List.mem_of_getElem? (l := ip_u6_5.1) (i := 0) rfl))), (ip_t6 (ip_v6_5 (List.mem_of_getElem? (l := ip_u6_5.1) (i := 2) rfl))), (List.mem_of_getElem? (l := lw_tbl) (i := 51) rfl)⟩, rfl, rfl, rfl⟩
set_option maxRecDepth 100000 in
theorem ip_k_216 : ip_Kok (11, 237, 211, 1) := ⟨⟨(ip_t6 (ip_v6_5 (List.mem_of_getElem? (l := ip_u6_5.1) (i := 4) rfl))), (ip_t6 (ip_v6_5 (List.mem_of_getElem? (l := ip_u6_5.1) (i := 6) rfl))), (List.mem_of_getElem? (l := lw_tbl) (i := 52) rfl)⟩, rfl, rfl, rfl⟩
set_option maxRecDepth 100000 in
theorem ip_k_217 : ip_Kok (11, 240, 209, 1) := ⟨⟨(ip_t6 (ip_v6_5 (List.mem_of_getElem? (l := ip_u6_5.1) (i := 8) rfl))), (ip_t6 (ip_v6_5 (List.mem_of_getElem? (l := ip_u6_5.1) (i := 10) rfl))), (List.mem_of_getElem? (l := lw_tbl) (i := 53) rfl)⟩, rfl, rfl, rfl⟩
set_option maxRecDepth 100000 in
theorem ip_k_218 : ip_Kok (11, 249, 208, 1) := ⟨⟨(ip_t6 (ip_v6_5 (List.mem_of_getElem? (l := ip_u6_5.1) (i := 24) rfl))), (ip_t6 (ip_v6_5 (List.mem_of_getElem? (l := ip_u6_5.1) (i := 26) rfl))), (List.mem_of_getElem? (l := lw_tbl) (i := 56) rfl)⟩, rfl, rfl, rfl⟩
set_option maxRecDepth 100000 in
theorem ip_k_219 : ip_Kok (11, 280, 213, 1) := ⟨⟨(ip_t6 (ip_v6_5 (List.mem_of_getElem? (l := ip_u6_5.1) (i := 20) rfl))), (ip_t6 (ip_v6_5 (List.mem_of_getElem? (l := ip_u6_5.1) (i := 22) rfl))), (List.mem_of_getElem? (l := lw_tbl) (i := 55) rfl)⟩, rfl, rfl, rfl⟩
set_option maxRecDepth 100000 in
theorem ip_k_220 : ip_Kok (11, 288, 216, 1) := ⟨⟨(ip_t6 (ip_v6_6 (List.mem_of_getElem? (l := ip_u6_6.1) (i := 4) rfl))), (ip_t6 (ip_v6_6 (List.mem_of_getElem? (l := ip_u6_6.1) (i := 6) rfl))), (List.mem_of_getElem? (l := lw_tbl) (i := 59) rfl)⟩, rfl, rfl, rfl⟩
set_option maxRecDepth 100000 in
theorem ip_k_221 : ip_Kok (11, 291, 215, 1) := ⟨⟨(ip_t6 (ip_v6_6 (List.mem_of_getElem? (l := ip_u6_6.1) (i := 9) rfl))), (ip_t6 (ip_v6_6 (List.mem_of_getElem? (l := ip_u6_6.1) (i := 11) rfl))), (List.mem_of_getElem? (l := lw_tbl) (i := 60) rfl)⟩, rfl, rfl, rfl⟩
set_option maxRecDepth 100000 in
theorem ip_k_222 : ip_Kok (11, 294, 217, 1) := ⟨⟨(ip_t6 (ip_v6_6 (List.mem_of_getElem? (l := ip_u6_6.1) (i := 0) rfl))), (ip_t6 (ip_v6_6 (List.mem_of_getElem? (l := ip_u6_6.1) (i := 2) rfl))), (List.mem_of_getElem? (l := lw_tbl) (i := 58) rfl)⟩, rfl, rfl, rfl⟩
set_option maxRecDepth 100000 in
theorem ip_k_223 : ip_Kok (11, 298, 218, 1) := ⟨⟨(ip_t6 (ip_v6_6 (List.mem_of_getElem? (l := ip_u6_6.1) (i := 13) rfl))), (ip_t6 (ip_v6_6 (List.mem_of_getElem? (l := ip_u6_6.1) (i := 15) rfl))), (List.mem_of_getElem? (l := lw_tbl) (i := 61) rfl)⟩, rfl, rfl, rfl⟩
set_option maxRecDepth 100000 in
theorem ip_k_224 : ip_Kok (11, 301, 222, 1) := ⟨⟨(ip_t6 (ip_v6_6 (List.mem_of_getElem? (l := ip_u6_6.1) (i := 21) rfl))), (ip_t6 (ip_v6_6 (List.mem_of_getElem? (l := ip_u6_6.1) (i := 23) rfl))), (List.mem_of_getElem? (l := lw_tbl) (i := 63) rfl)⟩, rfl, rfl, rfl⟩
set_option maxRecDepth 100000 in
theorem ip_k_225 : ip_Kok (11, 304, 221, 1) := ⟨⟨(ip_t6 (ip_v6_6 (List.mem_of_getElem? (l := ip_u6_6.1) (i := 25) rfl))), (ip_t6 (ip_v6_6 (List.mem_of_getElem? (l := ip_u6_6.1) (i := 27) rfl))), (List.mem_of_getElem? (l := lw_tbl) (i := 64) rfl)⟩, rfl, rfl, rfl⟩
set_option maxRecDepth 100000 in
theorem ip_k_226 : ip_Kok (11, 307, 214, 1) := ⟨⟨(ip_t6 (ip_v6_5 (List.mem_of_getElem? (l := ip_u6_5.1) (i := 16) rfl))), (ip_t6 (ip_v6_5 (List.mem_of_getElem? (l := ip_u6_5.1) (i := 18) rfl))), (List.mem_of_getElem? (l := lw_tbl) (i := 54) rfl)⟩, rfl, rfl, rfl⟩
set_option maxRecDepth 100000 in
theorem ip_k_227 : ip_Kok (11, 310, 219, 1) := ⟨⟨(ip_t6 (ip_v6_5 (List.mem_of_getElem? (l := ip_u6_5.1) (i := 28) rfl))), (ip_t6 (ip_v6_5 (List.mem_of_getElem? (l := ip_u6_5.1) (i := 30) rfl))), (List.mem_of_getElem? (l := lw_tbl) (i := 57) rfl)⟩, rfl, rfl, rfl⟩
set_option maxRecDepth 100000 in
theorem ip_k_228 : ip_Kok (11, 313, 220, 1) := ⟨⟨(ip_t6 (ip_v6_6 (List.mem_of_getElem? (l := ip_u6_6.1) (i := 17) rfl))), (ip_t6 (ip_v6_6 (List.mem_of_getElem? (l := ip_u6_6.1) (i := 19) rfl))), (List.mem_of_getElem? (l := lw_tbl) (i := 62) rfl)⟩, rfl, rfl, rfl⟩
set_option maxRecDepth 100000 in
theorem ip_k_229 : ip_Kok (11, 319, 226, 1) := ⟨⟨(ip_t6 (ip_v6_7 (List.mem_of_getElem? (l := ip_u6_7.1) (i := 9) rfl))), (ip_t6 (ip_v6_7 (List.mem_of_getElem? (l := ip_u6_7.1) (i := 11) rfl))), (List.mem_of_getElem? (l := lw_tbl) (i := 65) rfl)⟩, rfl, rfl, rfl⟩
set_option maxRecDepth 100000 in
theorem ip_k_230 : ip_Kok (11, 337, 229, 1) := ⟨⟨(ip_t7 (ip_v7_0 (List.mem_of_getElem? (l := ip_u7_0.1) (i := 13) rfl))), (ip_t7 (ip_v7_0 (List.mem_of_getElem? (l := ip_u7_0.1) (i := 15) rfl))), (List.mem_of_getElem? (l := lw_tbl) (i := 68) rfl)⟩, rfl, rfl, rfl⟩
set_option maxRecDepth 100000 in
theorem ip_k_231 : ip_Kok (11, 340, 231, 1) := ⟨⟨(ip_t7 (ip_v7_0 (List.mem_of_getElem? (l := ip_u7_0.1) (i := 21) rfl))), (ip_t7 (ip_v7_0 (List.mem_of_getElem? (l := ip_u7_0.1) (i := 23) rfl))), (List.mem_of_getElem? (l := lw_tbl) (i := 70) rfl)⟩, rfl, rfl, rfl⟩
set_option maxRecDepth 100000 in
theorem ip_k_232 : ip_Kok (11, 343, 230, 1) := ⟨⟨(ip_t7 (ip_v7_0 (List.mem_of_getElem? (l := ip_u7_0.1) (i := 9) rfl))), (ip_t7 (ip_v7_0 (List.mem_of_getElem? (l := ip_u7_0.1) (i := 11) rfl))), (List.mem_of_getElem? (l := lw_tbl) (i := 67) rfl)⟩, rfl, rfl, rfl⟩
set_option maxRecDepth 100000 in
theorem ip_k_233 : ip_Kok (11, 346, 232, 1) := ⟨⟨(ip_t7 (ip_v7_0 (List.mem_of_getElem? (l := ip_u7_0.1) (i := 17) rfl))), (ip_t7 (ip_v7_0 (List.mem_of_getElem? (l := ip_u7_0.1) (i := 19) rfl))), (List.mem_of_getElem? (l := lw_tbl) (i := 69) rfl)⟩, rfl, rfl, rfl⟩
set_option maxRecDepth 100000 in
theorem ip_k_234 : ip_Kok (11, 349, 233, 1) := ⟨⟨(ip_t7 (ip_v7_0 (List.mem_of_getElem? (l := ip_u7_0.1) (i := 5) rfl))), (ip_t7 (ip_v7_0 (List.mem_of_getElem? (l := ip_u7_0.1) (i := 7) rfl))), (List.mem_of_getElem? (l := lw_tbl) (i := 66) rfl)⟩, rfl, rfl, rfl⟩
set_option maxRecDepth 100000 in
theorem ip_k_235 : ip_Kok (11, 355, 243, 1) := ⟨⟨(ip_t7 (ip_v7_1 (List.mem_of_getElem? (l := ip_u7_1.1) (i := 31) rfl))), (ip_t7 (ip_v7_2 (List.mem_of_getElem? (l := ip_u7_2.1) (i := 1) rfl))), (List.mem_of_getElem? (l := lw_tbl) (i := 71) rfl)⟩, rfl, rfl, rfl⟩
set_option maxRecDepth 100000 in
theorem ip_k_236 : ip_Kok (11, 358, 244, 0) := ⟨⟨(ip_t7 (ip_v7_2 (List.mem_of_getElem? (l := ip_u7_2.1) (i := 3) rfl))), (ip_t7 (ip_v7_2 (List.mem_of_getElem? (l := ip_u7_2.1) (i := 4) rfl))), (ip_t7 (ip_v7_2 (List.mem_of_getElem? (l := ip_u7_2.1) (i := 4) rfl)))⟩, rfl, rfl, rfl⟩
set_option maxRecDepth 100000 in
theorem ip_k_237 : ip_Kok (11, 361, 247, 0) := ⟨⟨(ip_t7 (ip_v7_2 (List.mem_of_getElem? (l := ip_u7_2.1) (i := 18) rfl))), (ip_t7 (ip_v7_2 (List.mem_of_getElem? (l := ip_u7_2.1) (i := 19) rfl))), (ip_t7 (ip_v7_2 (List.mem_of_getElem? (l := ip_u7_2.1) (i := 19) rfl)))⟩, rfl, rfl, rfl⟩
set_option maxRecDepth 100000 in
theorem ip_k_238 : ip_Kok (11, 365, 246, 1) := ⟨⟨(ip_t7 (ip_v7_2 (List.mem_of_getElem? (l := ip_u7_2.1) (i := 10) rfl))), (ip_t7 (ip_v7_2 (List.mem_of_getElem? (l := ip_u7_2.1) (i := 12) rfl))), (List.mem_of_getElem? (l := lw_tbl) (i := 72) rfl)⟩, rfl, rfl, rfl⟩
set_option maxRecDepth 100000 in
theorem ip_k_239 : ip_Kok (11, 368, 248, 1) := ⟨⟨(ip_t7 (ip_v7_2 (List.mem_of_getElem? (l := ip_u7_2.1) (i := 14) rfl))), (ip_t7 (ip_v7_2 (List.mem_of_getElem? (l := ip_u7_2.1) (i := 16) rfl))), (List.mem_of_getElem? (l := lw_tbl) (i := 73) rfl)⟩, rfl, rfl, rfl⟩
set_option maxRecDepth 100000 in
theorem ip_k_240 : ip_Kok (11, 373, 251, 1) := ⟨⟨(ip_t7 (ip_v7_2 (List.mem_of_getElem? (l := ip_u7_2.1) (i := 29) rfl))), (ip_t7 (ip_v7_2 (List.mem_of_getElem? (l := ip_u7_2.1) (i := 31) rfl))), (List.mem_of_getElem? (l := lw_tbl) (i := 74) rfl)⟩, rfl, rfl, rfl⟩
set_option maxRecDepth 100000 in
theorem ip_k_241 : ip_Kok (11, 376, 252, 1) := ⟨⟨(ip_t7 (ip_v7_3 (List.mem_of_getElem? (l := ip_u7_3.1) (i := 2) rfl))), (ip_t7 (ip_v7_3 (List.mem_of_getElem? (l := ip_u7_3.1) (i := 4) rfl))), (List.mem_of_getElem? (l := lw_tbl) (i := 75) rfl)⟩, rfl, rfl, rfl⟩
set_option maxRecDepth 100000 in
theorem ip_k_242 : ip_Kok (11, 386, 255, 1) := ⟨⟨(ip_t7 (ip_v7_3 (List.mem_of_getElem? (l := ip_u7_3.1) (i := 14) rfl))), (ip_t7 (ip_v7_3 (List.mem_of_getElem? (l := ip_u7_3.1) (i := 16) rfl))), (List.mem_of_getElem? (l := lw_tbl) (i := 76) rfl)⟩, rfl, rfl, rfl⟩
set_option maxRecDepth 100000 in
theorem ip_k_243 : ip_Kok (11, 389, 257, 1) := ⟨⟨(ip_t7 (ip_v7_3 (List.mem_of_getElem? (l := ip_u7_3.1) (i := 22) rfl))), (ip_t7 (ip_v7_3 (List.mem_of_getElem? (l := ip_u7_3.1) (i := 24) rfl))), (List.mem_of_getElem? (l := lw_tbl) (i := 77) rfl)⟩, rfl, rfl, rfl⟩
set_option maxRecDepth 100000 in
theorem ip_k_244 : ip_Kok (11, 394, 258, 1) := ⟨⟨(ip_t7 (ip_v7_3 (List.mem_of_getElem? (l := ip_u7_3.1) (i := 27) rfl))), (ip_t7 (ip_v7_3 (List.mem_of_getElem? (l := ip_u7_3.1) (i := 29) rfl))), (List.mem_of_getElem? (l := lw_tbl) (i := 78) rfl)⟩, rfl, rfl, rfl⟩
set_option maxRecDepth 100000 in
theorem ip_k_245 : ip_Kok (11, 398, 260, 1) := ⟨⟨(ip_t7 (ip_v7_4 (List.mem_of_getElem? (l := ip_u7_4.1) (i := 3) rfl))), (ip_t7 (ip_v7_4 (List.mem_of_getElem? (l := ip_u7_4.1) (i := 5) rfl))), (List.mem_of_getElem? (l := lw_tbl) (i := 79) rfl)⟩, rfl, rfl, rfl⟩
set_option maxRecDepth 100000 in
theorem ip_k_246 : ip_Kok (11, 401, 262, 1) := ⟨⟨(ip_t7 (ip_v7_4 (List.mem_of_getElem? (l := ip_u7_4.1) (i := 15) rfl))), (ip_t7 (ip_v7_4 (List.mem_of_getElem? (l := ip_u7_4.1) (i := 17) rfl))), (List.mem_of_getElem? (l := lw_tbl) (i := 81) rfl)⟩, rfl, rfl, rfl⟩
set_option maxRecDepth 100000 in
theorem ip_k_247 : ip_Kok (11, 404, 263, 1) := ⟨⟨(ip_t7 (ip_v7_4 (List.mem_of_getElem? (l := ip_u7_4.1) (i := 19) rfl))), (ip_t7 (ip_v7_4 (List.mem_of_getElem? (l := ip_u7_4.1) (i := 21) rfl))), (List.mem_of_getElem? (l := lw_tbl) (i := 82) rfl)⟩, rfl, rfl, rfl⟩
set_option maxRecDepth 100000 in
theorem ip_k_248 : ip_Kok (11, 407, 264, 1) := ⟨⟨(ip_t7 (ip_v7_4 (List.mem_of_getElem? (l := ip_u7_4.1) (i := 11) rfl))), (ip_t7 (ip_v7_4 (List.mem_of_getElem? (l := ip_u7_4.1) (i := 13) rfl))), (List.mem_of_getElem? (l := lw_tbl) (i := 80) rfl)⟩, rfl, rfl, rfl⟩
set_option maxRecDepth 100000 in
theorem ip_k_249 : ip_Kok (11, 412, 266, 1) := ⟨⟨(ip_t7 (ip_v7_5 (List.mem_of_getElem? (l := ip_u7_5.1) (i := 0) rfl))), (ip_t7 (ip_v7_5 (List.mem_of_getElem? (l := ip_u7_5.1) (i := 2) rfl))), (List.mem_of_getElem? (l := lw_tbl) (i := 84) rfl)⟩, rfl, rfl, rfl⟩
set_option maxRecDepth 100000 in
theorem ip_k_250 : ip_Kok (11, 415, 267, 1) := ⟨⟨(ip_t7 (ip_v7_4 (List.mem_of_getElem? (l := ip_u7_4.1) (i := 27) rfl))), (ip_t7 (ip_v7_4 (List.mem_of_getElem? (l := ip_u7_4.1) (i := 29) rfl))), (List.mem_of_getElem? (l := lw_tbl) (i := 83) rfl)⟩, rfl, rfl, rfl⟩
set_option maxRecDepth 100000 in
theorem ip_k_251 : ip_Kok (11, 418, 269, 1) := ⟨⟨(ip_t7 (ip_v7_5 (List.mem_of_getElem? (l := ip_u7_5.1) (i := 8) rfl))), (ip_t7 (ip_v7_5 (List.mem_of_getElem? (l := ip_u7_5.1) (i := 10) rfl))), (List.mem_of_getElem? (l := lw_tbl) (i := 85) rfl)⟩, rfl, rfl, rfl⟩
set_option maxRecDepth 100000 in
theorem ip_k_252 : ip_Kok (11, 421, 271, 1) := ⟨⟨(ip_t7 (ip_v7_5 (List.mem_of_getElem? (l := ip_u7_5.1) (i := 16) rfl))), (ip_t7 (ip_v7_5 (List.mem_of_getElem? (l := ip_u7_5.1) (i := 18) rfl))), (List.mem_of_getElem? (l := lw_tbl) (i := 86) rfl)⟩, rfl, rfl, rfl⟩
set_option maxRecDepth 100000 in
theorem ip_k_253 : ip_Kok (11, 424, 273, 0) := ⟨⟨(ip_t7 (ip_v7_5 (List.mem_of_getElem? (l := ip_u7_5.1) (i := 24) rfl))), (ip_t7 (ip_v7_5 (List.mem_of_getElem? (l := ip_u7_5.1) (i := 25) rfl))), (ip_t7 (ip_v7_5 (List.mem_of_getElem? (l := ip_u7_5.1) (i := 25) rfl)))⟩, rfl, rfl, rfl⟩
set_option maxRecDepth 100000 in
theorem ip_k_254 : ip_Kok (11, 427, 277, 1) := ⟨⟨(ip_t7 (ip_v7_6 (List.mem_of_getElem? (l := ip_u7_6.1) (i := 7) rfl))), (ip_t7 (ip_v7_6 (List.mem_of_getElem? (l := ip_u7_6.1) (i := 9) rfl))), (List.mem_of_getElem? (l := lw_tbl) (i := 87) rfl)⟩, rfl, rfl, rfl⟩
set_option maxRecDepth 100000 in
theorem ip_k_255 : ip_Kok (11, 430, 278, 1) := ⟨⟨(ip_t7 (ip_v7_6 (List.mem_of_getElem? (l := ip_u7_6.1) (i := 11) rfl))), (ip_t7 (ip_v7_6 (List.mem_of_getElem? (l := ip_u7_6.1) (i := 13) rfl))), (List.mem_of_getElem? (l := lw_tbl) (i := 88) rfl)⟩, rfl, rfl, rfl⟩
set_option maxRecDepth 100000 in
theorem ip_k_256 : ip_Kok (11, 433, 282, 1) := ⟨⟨(ip_t7 (ip_v7_6 (List.mem_of_getElem? (l := ip_u7_6.1) (i := 19) rfl))), (ip_t7 (ip_v7_6 (List.mem_of_getElem? (l := ip_u7_6.1) (i := 21) rfl))), (List.mem_of_getElem? (l := lw_tbl) (i := 89) rfl)⟩, rfl, rfl, rfl⟩
set_option maxRecDepth 100000 in
theorem ip_k_257 : ip_Kok (11, 438, 283, 1) := ⟨⟨(ip_t7 (ip_v7_6 (List.mem_of_getElem? (l := ip_u7_6.1) (i := 24) rfl))), (ip_t7 (ip_v7_6 (List.mem_of_getElem? (l := ip_u7_6.1) (i := 26) rfl))), (List.mem_of_getElem? (l := lw_tbl) (i := 90) rfl)⟩, rfl, rfl, rfl⟩
set_option maxRecDepth 100000 in
theorem ip_k_258 : ip_Kok (11, 441, 281, 1) := ⟨⟨(ip_t7 (ip_v7_6 (List.mem_of_getElem? (l := ip_u7_6.1) (i := 28) rfl))), (ip_t7 (ip_v7_6 (List.mem_of_getElem? (l := ip_u7_6.1) (i := 30) rfl))), (List.mem_of_getElem? (l := lw_tbl) (i := 91) rfl)⟩, rfl, rfl, rfl⟩
set_option maxRecDepth 100000 in
theorem ip_k_259 : ip_Kok (11, 444, 280, 1) := ⟨⟨(ip_t7 (ip_v7_7 (List.mem_of_getElem? (l := ip_u7_7.1) (i := 0) rfl))), (ip_t7 (ip_v7_7 (List.mem_of_getElem? (l := ip_u7_7.1) (i := 2) rfl))), (List.mem_of_getElem? (l := lw_tbl) (i := 92) rfl)⟩, rfl, rfl, rfl⟩
set_option maxRecDepth 100000 in
theorem ip_k_260 : ip_Kok (11, 447, 285, 1) := ⟨⟨(ip_t7 (ip_v7_7 (List.mem_of_getElem? (l := ip_u7_7.1) (i := 4) rfl))), (ip_t7 (ip_v7_7 (List.mem_of_getElem? (l := ip_u7_7.1) (i := 6) rfl))), (List.mem_of_getElem? (l := lw_tbl) (i := 93) rfl)⟩, rfl, rfl, rfl⟩
set_option maxRecDepth 100000 in
theorem ip_k_261 : ip_Kok (11, 451, 286, 1) := ⟨⟨(ip_t7 (ip_v7_7 (List.mem_of_getElem? (l := ip_u7_7.1) (i := 12) rfl))), (ip_t7 (ip_v7_7 (List.mem_of_getElem? (l := ip_u7_7.1) (i := 14) rfl))), (List.mem_of_getElem? (l := lw_tbl) (i := 94) rfl)⟩, rfl, rfl, rfl⟩
set_option maxRecDepth 100000 in
theorem ip_k_262 : ip_Kok (14, 9, 109, 2) := ⟨⟨(ip_t1 (ip_v1_0 (List.mem_of_getElem? (l := ip_u1_0.1) (i := 17) rfl))), (ip_t1 (ip_v1_0 (List.mem_of_getElem? (l := ip_u1_0.1) (i := 18) rfl))), (ip_t1 (ip_v1_0 (List.mem_of_getElem? (l := ip_u1_0.1) (i := 18) rfl)))⟩, rfl, rfl, rfl⟩
set_option maxRecDepth 100000 in
theorem ip_k_263 : ip_Kok (14, 12, 165, 2) := ⟨⟨(ip_t5 (ip_v5_2 (List.mem_of_getElem? (l := ip_u5_2.1) (i := 14) rfl))), (ip_t5 (ip_v5_2 (List.mem_of_getElem? (l := ip_u5_2.1) (i := 15) rfl))), (ip_t5 (ip_v5_2 (List.mem_of_getElem? (l := ip_u5_2.1) (i := 15) rfl)))⟩, rfl, rfl, rfl⟩
set_option maxRecDepth 100000 in
theorem ip_k_264 : ip_Kok (14, 13, 110, 1) := ⟨⟨(ip_t2 (ip_v2_3 (List.mem_of_getElem? (l := ip_u2_3.1) (i := 6) rfl))), (ip_t2 (ip_v2_3 (List.mem_of_getElem? (l := ip_u2_3.1) (i := 7) rfl))), (ip_t2 (ip_v2_3 (List.mem_of_getElem? (l := ip_u2_3.1) (i := 8) rfl)))⟩, rfl, rfl, rfl⟩
set_option maxRecDepth 100000 in
theorem ip_k_265 : ip_Kok (14, 17, 201, 1) := ⟨⟨(ip_t6 (ip_v6_0 (List.mem_of_getElem? (l := ip_u6_0.1) (i := 22) rfl))), (ip_t6 (ip_v6_0 (List.mem_of_getElem? (l := ip_u6_0.1) (i := 23) rfl))), (ip_t6 (ip_v6_0 (List.mem_of_getElem? (l := ip_u6_0.1) (i := 24) rfl)))⟩, rfl, rfl, rfl⟩
set_option maxRecDepth 100000 in
theorem ip_k_266 : ip_Kok (14, 18, 111, 1) := ⟨⟨(ip_t2 (ip_v2_5 (List.mem_of_getElem? (l := ip_u2_5.1) (i := 22) rfl))), (ip_t2 (ip_v2_5 (List.mem_of_getElem? (l := ip_u2_5.1) (i := 23) rfl))), (ip_t2 (ip_v2_5 (List.mem_of_getElem? (l := ip_u2_5.1) (i := 24) rfl)))⟩, rfl, rfl, rfl⟩
set_option maxRecDepth 100000 in
theorem ip_k_267 : ip_Kok (14, 22, 202, 1) := ⟨⟨(ip_t6 (ip_v6_1 (List.mem_of_getElem? (l := ip_u6_1.1) (i := 4) rfl))), (ip_t6 (ip_v6_1 (List.mem_of_getElem? (l := ip_u6_1.1) (i := 5) rfl))), (ip_t6 (ip_v6_1 (List.mem_of_getElem? (l := ip_u6_1.1) (i := 6) rfl)))⟩, rfl, rfl, rfl⟩
set_option maxRecDepth 100000 in
theorem ip_k_268 : ip_Kok (14, 23, 112, 1) := ⟨⟨(ip_t2 (ip_v2_5 (List.mem_of_getElem? (l := ip_u2_5.1) (i := 26) rfl))), (ip_t2 (ip_v2_5 (List.mem_of_getElem? (l := ip_u2_5.1) (i := 27) rfl))), (ip_t2 (ip_v2_5 (List.mem_of_getElem? (l := ip_u2_5.1) (i := 28) rfl)))⟩, rfl, rfl, rfl⟩
set_option maxRecDepth 100000 in
theorem ip_k_269 : ip_Kok (14, 27, 203, 1) := ⟨⟨(ip_t6 (ip_v6_1 (List.mem_of_getElem? (l := ip_u6_1.1) (i := 8) rfl))), (ip_t6 (ip_v6_1 (List.mem_of_getElem? (l := ip_u6_1.1) (i := 9) rfl))), (ip_t6 (ip_v6_1 (List.mem_of_getElem? (l := ip_u6_1.1) (i := 10) rfl)))⟩, rfl, rfl, rfl⟩
set_option maxRecDepth 100000 in
theorem ip_k_270 : ip_Kok (14, 30, 113, 1) := ⟨⟨(ip_t2 (ip_v2_6 (List.mem_of_getElem? (l := ip_u2_6.1) (i := 16) rfl))), (ip_t2 (ip_v2_6 (List.mem_of_getElem? (l := ip_u2_6.1) (i := 17) rfl))), (ip_t2 (ip_v2_6 (List.mem_of_getElem? (l := ip_u2_6.1) (i := 18) rfl)))⟩, rfl, rfl, rfl⟩
set_option maxRecDepth 100000 in
theorem ip_k_271 : ip_Kok (14, 34, 204, 1) := ⟨⟨(ip_t6 (ip_v6_3 (List.mem_of_getElem? (l := ip_u6_3.1) (i := 5) rfl))), (ip_t6 (ip_v6_3 (List.mem_of_getElem? (l := ip_u6_3.1) (i := 6) rfl))), (ip_t6 (ip_v6_3 (List.mem_of_getElem? (l := ip_u6_3.1) (i := 7) rfl)))⟩, rfl, rfl, rfl⟩
set_option maxRecDepth 100000 in
theorem ip_k_272 : ip_Kok (14, 35, 114, 1) := ⟨⟨(ip_t2 (ip_v2_7 (List.mem_of_getElem? (l := ip_u2_7.1) (i := 9) rfl))), (ip_t2 (ip_v2_7 (List.mem_of_getElem? (l := ip_u2_7.1) (i := 10) rfl))), (ip_t2 (ip_v2_7 (List.mem_of_getElem? (l := ip_u2_7.1) (i := 11) rfl)))⟩, rfl, rfl, rfl⟩
set_option maxRecDepth 100000 in
theorem ip_k_273 : ip_Kok (14, 39, 207, 1) := ⟨⟨(ip_t6 (ip_v6_3 (List.mem_of_getElem? (l := ip_u6_3.1) (i := 12) rfl))), (ip_t6 (ip_v6_3 (List.mem_of_getElem? (l := ip_u6_3.1) (i := 13) rfl))), (ip_t6 (ip_v6_3 (List.mem_of_getElem? (l := ip_u6_3.1) (i := 14) rfl)))⟩, rfl, rfl, rfl⟩
set_option maxRecDepth 100000 in
theorem ip_k_274 : ip_Kok (14, 40, 115, 1) := ⟨⟨(ip_t3 (ip_v3_1 (List.mem_of_getElem? (l := ip_u3_1.1) (i := 15) rfl))), (ip_t3 (ip_v3_1 (List.mem_of_getElem? (l := ip_u3_1.1) (i := 16) rfl))), (ip_t3 (ip_v3_1 (List.mem_of_getElem? (l := ip_u3_1.1) (i := 17) rfl)))⟩, rfl, rfl, rfl⟩
set_option maxRecDepth 100000 in
theorem ip_k_275 : ip_Kok (14, 44, 212, 1) := ⟨⟨(ip_t6 (ip_v6_4 (List.mem_of_getElem? (l := ip_u6_4.1) (i := 28) rfl))), (ip_t6 (ip_v6_4 (List.mem_of_getElem? (l := ip_u6_4.1) (i := 29) rfl))), (ip_t6 (ip_v6_4 (List.mem_of_getElem? (l := ip_u6_4.1) (i := 30) rfl)))⟩, rfl, rfl, rfl⟩
set_option maxRecDepth 100000 in
theorem ip_k_276 : ip_Kok (14, 45, 116, 1) := ⟨⟨(ip_t3 (ip_v3_2 (List.mem_of_getElem? (l := ip_u3_2.1) (i := 23) rfl))), (ip_t3 (ip_v3_2 (List.mem_of_getElem? (l := ip_u3_2.1) (i := 24) rfl))), (ip_t3 (ip_v3_2 (List.mem_of_getElem? (l := ip_u3_2.1) (i := 25) rfl)))⟩, rfl, rfl, rfl⟩
set_option maxRecDepth 100000 in
theorem ip_k_277 : ip_Kok (14, 49, 223, 1) := ⟨⟨(ip_t6 (ip_v6_5 (List.mem_of_getElem? (l := ip_u6_5.1) (i := 12) rfl))), (ip_t6 (ip_v6_5 (List.mem_of_getElem? (l := ip_u6_5.1) (i := 13) rfl))), (ip_t6 (ip_v6_5 (List.mem_of_getElem? (l := ip_u6_5.1) (i := 14) rfl)))⟩, rfl, rfl, rfl⟩
set_option maxRecDepth 100000 in
theorem ip_k_278 : ip_Kok (14, 50, 117, 1) := ⟨⟨(ip_t3 (ip_v3_5 (List.mem_of_getElem? (l := ip_u3_5.1) (i := 5) rfl))), (ip_t3 (ip_v3_5 (List.mem_of_getElem? (l := ip_u3_5.1) (i := 6) rfl))), (ip_t3 (ip_v3_5 (List.mem_of_getElem? (l := ip_u3_5.1) (i := 7) rfl)))⟩, rfl, rfl, rfl⟩
set_option maxRecDepth 100000 in
theorem ip_k_279 : ip_Kok (14, 53, 224, 1) := ⟨⟨(ip_t6 (ip_v6_6 (List.mem_of_getElem? (l := ip_u6_6.1) (i := 29) rfl))), (ip_t6 (ip_v6_6 (List.mem_of_getElem? (l := ip_u6_6.1) (i := 30) rfl))), (ip_t6 (ip_v6_6 (List.mem_of_getElem? (l := ip_u6_6.1) (i := 31) rfl)))⟩, rfl, rfl, rfl⟩
set_option maxRecDepth 100000 in
theorem ip_k_280 : ip_Kok (14, 54, 118, 1) := ⟨⟨(ip_t3 (ip_v3_5 (List.mem_of_getElem? (l := ip_u3_5.1) (i := 13) rfl))), (ip_t3 (ip_v3_5 (List.mem_of_getElem? (l := ip_u3_5.1) (i := 14) rfl))), (ip_t3 (ip_v3_5 (List.mem_of_getElem? (l := ip_u3_5.1) (i := 15) rfl)))⟩, rfl, rfl, rfl⟩
set_option maxRecDepth 100000 in
theorem ip_k_281 : ip_Kok (14, 57, 225, 1) := ⟨⟨(ip_t6 (ip_v6_7 (List.mem_of_getElem? (l := ip_u6_7.1) (i := 1) rfl))), (ip_t6 (ip_v6_7 (List.mem_of_getElem? (l := ip_u6_7.1) (i := 2) rfl))), (ip_t6 (ip_v6_7 (List.mem_of_getElem? (l := ip_u6_7.1) (i := 3) rfl)))⟩, rfl, rfl, rfl⟩
set_option maxRecDepth 100000 in
theorem ip_k_282 : ip_Kok (14, 58, 119, 1) := ⟨⟨(ip_t3 (ip_v3_5 (List.mem_of_getElem? (l := ip_u3_5.1) (i := 19) rfl))), (ip_t3 (ip_v3_5 (List.mem_of_getElem? (l := ip_u3_5.1) (i := 20) rfl))), (ip_t3 (ip_v3_5 (List.mem_of_getElem? (l := ip_u3_5.1) (i := 21) rfl)))⟩, rfl, rfl, rfl⟩
set_option maxRecDepth 100000 in
theorem ip_k_283 : ip_Kok (14, 61, 227, 1) := ⟨⟨(ip_t6 (ip_v6_7 (List.mem_of_getElem? (l := ip_u6_7.1) (i := 5) rfl))), (ip_t6 (ip_v6_7 (List.mem_of_getElem? (l := ip_u6_7.1) (i := 6) rfl))), (ip_t6 (ip_v6_7 (List.mem_of_getElem? (l := ip_u6_7.1) (i := 7) rfl)))⟩, rfl, rfl, rfl⟩
set_option maxRecDepth 100000 in
theorem ip_k_284 : ip_Kok (14, 62, 120, 1) := ⟨⟨(ip_t3 (ip_v3_6 (List.mem_of_getElem? (l := ip_u3_6.1) (i := 0) rfl))), (ip_t3 (ip_v3_6 (List.mem_of_getElem? (l := ip_u3_6.1) (i := 1) rfl))), (ip_t3 (ip_v3_6 (List.mem_of_getElem? (l := ip_u3_6.1) (i := 2) rfl)))⟩, rfl, rfl, rfl⟩
set_option maxRecDepth 100000 in
theorem ip_k_285 : ip_Kok (14, 65, 228, 1) := ⟨⟨(ip_t6 (ip_v6_7 (List.mem_of_getElem? (l := ip_u6_7.1) (i := 13) rfl))), (ip_t6 (ip_v6_7 (List.mem_of_getElem? (l := ip_u6_7.1) (i := 14) rfl))), (ip_t6 (ip_v6_7 (List.mem_of_getElem? (l := ip_u6_7.1) (i := 15) rfl)))⟩, rfl, rfl, rfl⟩
set_option maxRecDepth 100000 in
theorem ip_k_286 : ip_Kok (14, 66, 121, 1) := ⟨⟨(ip_t3 (ip_v3_6 (List.mem_of_getElem? (l := ip_u3_6.1) (i := 8) rfl))), (ip_t3 (ip_v3_6 (List.mem_of_getElem? (l := ip_u3_6.1) (i := 9) rfl))), (ip_t3 (ip_v3_6 (List.mem_of_getElem? (l := ip_u3_6.1) (i := 10) rfl)))⟩, rfl, rfl, rfl⟩
set_option maxRecDepth 100000 in
theorem ip_k_287 : ip_Kok (14, 69, 234, 1) := ⟨⟨(ip_t7 (ip_v7_0 (List.mem_of_getElem? (l := ip_u7_0.1) (i := 1) rfl))), (ip_t7 (ip_v7_0 (List.mem_of_getElem? (l := ip_u7_0.1) (i := 2) rfl))), (ip_t7 (ip_v7_0 (List.mem_of_getElem? (l := ip_u7_0.1) (i := 3) rfl)))⟩, rfl, rfl, rfl⟩
set_option maxRecDepth 100000 in
theorem ip_k_288 : ip_Kok (14, 70, 122, 1) := ⟨⟨(ip_t4 (ip_v4_0 (List.mem_of_getElem? (l := ip_u4_0.1) (i := 0) rfl))), (ip_t4 (ip_v4_0 (List.mem_of_getElem? (l := ip_u4_0.1) (i := 1) rfl))), (ip_t4 (ip_v4_0 (List.mem_of_getElem? (l := ip_u4_0.1) (i := 2) rfl)))⟩, rfl, rfl, rfl⟩
set_option maxRecDepth 100000 in
theorem ip_k_289 : ip_Kok (14, 73, 284, 1) := ⟨⟨(ip_t7 (ip_v7_6 (List.mem_of_getElem? (l := ip_u7_6.1) (i := 15) rfl))), (ip_t7 (ip_v7_6 (List.mem_of_getElem? (l := ip_u7_6.1) (i := 16) rfl))), (ip_t7 (ip_v7_6 (List.mem_of_getElem? (l := ip_u7_6.1) (i := 17) rfl)))⟩, rfl, rfl, rfl⟩
set_option maxRecDepth 100000 in
theorem ip_k_290 : ip_Kok (14, 74, 123, 1) := ⟨⟨(ip_t4 (ip_v4_1 (List.mem_of_getElem? (l := ip_u4_1.1) (i := 0) rfl))), (ip_t4 (ip_v4_1 (List.mem_of_getElem? (l := ip_u4_1.1) (i := 1) rfl))), (ip_t4 (ip_v4_1 (List.mem_of_getElem? (l := ip_u4_1.1) (i := 2) rfl)))⟩, rfl, rfl, rfl⟩
set_option maxRecDepth 100000 in
theorem ip_k_291 : ip_Kok (14, 77, 235, 1) := ⟨⟨(ip_t7 (ip_v7_0 (List.mem_of_getElem? (l := ip_u7_0.1) (i := 25) rfl))), (ip_t7 (ip_v7_0 (List.mem_of_getElem? (l := ip_u7_0.1) (i := 26) rfl))), (ip_t7 (ip_v7_0 (List.mem_of_getElem? (l := ip_u7_0.1) (i := 27) rfl)))⟩, rfl, rfl, rfl⟩
set_option maxRecDepth 100000 in
theorem ip_k_292 : ip_Kok (14, 78, 124, 1) := ⟨⟨(ip_t4 (ip_v4_1 (List.mem_of_getElem? (l := ip_u4_1.1) (i := 4) rfl))), (ip_t4 (ip_v4_1 (List.mem_of_getElem? (l := ip_u4_1.1) (i := 5) rfl))), (ip_t4 (ip_v4_1 (List.mem_of_getElem? (l := ip_u4_1.1) (i := 6) rfl)))⟩, rfl, rfl, rfl⟩
set_option maxRecDepth 100000 in
theorem ip_k_293 : ip_Kok (14, 81, 172, 1) := ⟨⟨(ip_t5 (ip_v5_7 (List.mem_of_getElem? (l := ip_u5_7.1) (i := 7) rfl))), (ip_t5 (ip_v5_7 (List.mem_of_getElem? (l := ip_u5_7.1) (i := 8) rfl))), (ip_t5 (ip_v5_7 (List.mem_of_getElem? (l := ip_u5_7.1) (i := 9) rfl)))⟩, rfl, rfl, rfl⟩
set_option maxRecDepth 100000 in
theorem ip_k_294 : ip_Kok (14, 82, 125, 1) := ⟨⟨(ip_t4 (ip_v4_1 (List.mem_of_getElem? (l := ip_u4_1.1) (i := 30) rfl))), (ip_t4 (ip_v4_1 (List.mem_of_getElem? (l := ip_u4_1.1) (i := 31) rfl))), (ip_t4 (ip_v4_2 (List.mem_of_getElem? (l := ip_u4_2.1) (i := 0) rfl)))⟩, rfl, rfl, rfl⟩
set_option maxRecDepth 100000 in
theorem ip_k_295 : ip_Kok (14, 85, 174, 1) := ⟨⟨(ip_t6 (ip_v6_0 (List.mem_of_getElem? (l := ip_u6_0.1) (i := 7) rfl))), (ip_t6 (ip_v6_0 (List.mem_of_getElem? (l := ip_u6_0.1) (i := 8) rfl))), (ip_t6 (ip_v6_0 (List.mem_of_getElem? (l := ip_u6_0.1) (i := 9) rfl)))⟩, rfl, rfl, rfl⟩
set_option maxRecDepth 100000 in
theorem ip_k_296 : ip_Kok (14, 86, 126, 1) := ⟨⟨(ip_t4 (ip_v4_2 (List.mem_of_getElem? (l := ip_u4_2.1) (i := 6) rfl))), (ip_t4 (ip_v4_2 (List.mem_of_getElem? (l := ip_u4_2.1) (i := 7) rfl))), (ip_t4 (ip_v4_2 (List.mem_of_getElem? (l := ip_u4_2.1) (i := 8) rfl)))⟩, rfl, rfl, rfl⟩
set_option maxRecDepth 100000 in
theorem ip_k_297 : ip_Kok (14, 89, 175, 1) := ⟨⟨(ip_t6 (ip_v6_0 (List.mem_of_getElem? (l := ip_u6_0.1) (i := 18) rfl))), (ip_t6 (ip_v6_0 (List.mem_of_getElem? (l := ip_u6_0.1) (i := 19) rfl))), (ip_t6 (ip_v6_0 (List.mem_of_getElem? (l := ip_u6_0.1) (i := 20) rfl)))⟩, rfl, rfl, rfl⟩
set_option maxRecDepth 100000 in
theorem ip_k_298 : ip_Kok (14, 90, 127, 1) := ⟨⟨(ip_t4 (ip_v4_2 (List.mem_of_getElem? (l := ip_u4_2.1) (i := 14) rfl))), (ip_t4 (ip_v4_2 (List.mem_of_getElem? (l := ip_u4_2.1) (i := 15) rfl))), (ip_t4 (ip_v4_2 (List.mem_of_getElem? (l := ip_u4_2.1) (i := 16) rfl)))⟩, rfl, rfl, rfl⟩
set_option maxRecDepth 100000 in
theorem ip_k_299 : ip_Kok (14, 93, 236, 1) := ⟨⟨(ip_t7 (ip_v7_0 (List.mem_of_getElem? (l := ip_u7_0.1) (i := 29) rfl))), (ip_t7 (ip_v7_0 (List.mem_of_getElem? (l := ip_u7_0.1) (i := 30) rfl))), (ip_t7 (ip_v7_0 (List.mem_of_getElem? (l := ip_u7_0.1) (i := 31) rfl)))⟩, rfl, rfl, rfl⟩
set_option maxRecDepth 100000 in
theorem ip_k_300 : ip_Kok (14, 94, 128, 1) := ⟨⟨(ip_t4 (ip_v4_2 (List.mem_of_getElem? (l := ip_u4_2.1) (i := 25) rfl))), (ip_t4 (ip_v4_2 (List.mem_of_getElem? (l := ip_u4_2.1) (i := 26) rfl))), (ip_t4 (ip_v4_2 (List.mem_of_getElem? (l := ip_u4_2.1) (i := 27) rfl)))⟩, rfl, rfl, rfl⟩
set_option maxRecDepth 100000 in
theorem ip_k_301 : ip_Kok (14, 98, 237, 1) := ⟨⟨(ip_t7 (ip_v7_1 (List.mem_of_getElem? (l := ip_u7_1.1) (i := 2) rfl))), (ip_t7 (ip_v7_1 (List.mem_of_getElem? (l := ip_u7_1.1) (i := 3) rfl))), (ip_t7 (ip_v7_1 (List.mem_of_getElem? (l := ip_u7_1.1) (i := 4) rfl)))⟩, rfl, rfl, rfl⟩
set_option maxRecDepth 100000 in
theorem ip_k_302 : ip_Kok (14, 99, 129, 1) := ⟨⟨(ip_t4 (ip_v4_3 (List.mem_of_getElem? (l := ip_u4_3.1) (i := 1) rfl))), (ip_t4 (ip_v4_3 (List.mem_of_getElem? (l := ip_u4_3.1) (i := 2) rfl))), (ip_t4 (ip_v4_3 (List.mem_of_getElem? (l := ip_u4_3.1) (i := 3) rfl)))⟩, rfl, rfl, rfl⟩
set_option maxRecDepth 100000 in
theorem ip_k_303 : ip_Kok (14, 102, 238, 1) := ⟨⟨(ip_t7 (ip_v7_1 (List.mem_of_getElem? (l := ip_u7_1.1) (i := 7) rfl))), (ip_t7 (ip_v7_1 (List.mem_of_getElem? (l := ip_u7_1.1) (i := 8) rfl))), (ip_t7 (ip_v7_1 (List.mem_of_getElem? (l := ip_u7_1.1) (i := 9) rfl)))⟩, rfl, rfl, rfl⟩
set_option maxRecDepth 100000 in
theorem ip_k_304 : ip_Kok (14, 103, 130, 1) := ⟨⟨(ip_t4 (ip_v4_3 (List.mem_of_getElem? (l := ip_u4_3.1) (i := 9) rfl))), (ip_t4 (ip_v4_3 (List.mem_of_getElem? (l := ip_u4_3.1) (i := 10) rfl))), (ip_t4 (ip_v4_3 (List.mem_of_getElem? (l := ip_u4_3.1) (i := 11) rfl)))⟩, rfl, rfl, rfl⟩
set_option maxRecDepth 100000 in
theorem ip_k_305 : ip_Kok (14, 106, 239, 1) := ⟨⟨(ip_t7 (ip_v7_1 (List.mem_of_getElem? (l := ip_u7_1.1) (i := 11) rfl))), (ip_t7 (ip_v7_1 (List.mem_of_getElem? (l := ip_u7_1.1) (i := 12) rfl))), (ip_t7 (ip_v7_1 (List.mem_of_getElem? (l := ip_u7_1.1) (i := 13) rfl)))⟩, rfl, rfl, rfl⟩
set_option maxRecDepth 100000 in
theorem ip_k_306 : ip_Kok (14, 107, 131, 1) := ⟨⟨(ip_t4 (ip_v4_3 (List.mem_of_getElem? (l := ip_u4_3.1) (i := 14) rfl))), (ip_t4 (ip_v4_3 (List.mem_of_getElem? (l := ip_u4_3.1) (i := 15) rfl))), (ip_t4 (ip_v4_3 (List.mem_of_getElem? (l := ip_u4_3.1) (i := 16) rfl)))⟩, rfl, rfl, rfl⟩
set_option maxRecDepth 100000 in
theorem ip_k_307 : ip_Kok (14, 111, 240, 1) := ⟨⟨(ip_t7 (ip_v7_1 (List.mem_of_getElem? (l := ip_u7_1.1) (i := 15) rfl))), (ip_t7 (ip_v7_1 (List.mem_of_getElem? (l := ip_u7_1.1) (i := 16) rfl))), (ip_t7 (ip_v7_1 (List.mem_of_getElem? (l := ip_u7_1.1) (i := 17) rfl)))⟩, rfl, rfl, rfl⟩
set_option maxRecDepth 100000 in
theorem ip_k_308 : ip_Kok (14, 112, 132, 1) := ⟨⟨(ip_t4 (ip_v4_3 (List.mem_of_getElem? (l := ip_u4_3.1) (i := 23) rfl))), (ip_t4 (ip_v4_3 (List.mem_of_getElem? (l := ip_u4_3.1) (i := 24) rfl))), (ip_t4 (ip_v4_3 (List.mem_of_getElem? (l := ip_u4_3.1) (i := 25) rfl)))⟩, rfl, rfl, rfl⟩
set_option maxRecDepth 100000 in
theorem ip_k_309 : ip_Kok (14, 115, 241, 1) := ⟨⟨(ip_t7 (ip_v7_1 (List.mem_of_getElem? (l := ip_u7_1.1) (i := 19) rfl))), (ip_t7 (ip_v7_1 (List.mem_of_getElem? (l := ip_u7_1.1) (i := 20) rfl))), (ip_t7 (ip_v7_1 (List.mem_of_getElem? (l := ip_u7_1.1) (i := 21) rfl)))⟩, rfl, rfl, rfl⟩
set_option maxRecDepth 100000 in
theorem ip_k_310 : ip_Kok (14, 116, 133, 1) := ⟨⟨(ip_t4 (ip_v4_3 (List.mem_of_getElem? (l := ip_u4_3.1) (i := 31) rfl))), (ip_t4 (ip_v4_4 (List.mem_of_getElem? (l := ip_u4_4.1) (i := 0) rfl))), (ip_t4 (ip_v4_4 (List.mem_of_getElem? (l := ip_u4_4.1) (i := 1) rfl)))⟩, rfl, rfl, rfl⟩
set_option maxRecDepth 100000 in
theorem ip_k_311 : ip_Kok (14, 120, 242, 1) := ⟨⟨(ip_t7 (ip_v7_1 (List.mem_of_getElem? (l := ip_u7_1.1) (i := 23) rfl))), (ip_t7 (ip_v7_1 (List.mem_of_getElem? (l := ip_u7_1.1) (i := 24) rfl))), (ip_t7 (ip_v7_1 (List.mem_of_getElem? (l := ip_u7_1.1) (i := 25) rfl)))⟩, rfl, rfl, rfl⟩
set_option maxRecDepth 100000 in
theorem ip_k_312 : ip_Kok (14, 121, 134, 1) := ⟨⟨(ip_t4 (ip_v4_4 (List.mem_of_getElem? (l := ip_u4_4.1) (i := 3) rfl))), (ip_t4 (ip_v4_4 (List.mem_of_getElem? (l := ip_u4_4.1) (i := 4) rfl))), (ip_t4 (ip_v4_4 (List.mem_of_getElem? (l := ip_u4_4.1) (i := 5) rfl)))⟩, rfl, rfl, rfl⟩
set_option maxRecDepth 100000 in
theorem ip_k_313 : ip_Kok (14, 124, 245, 1) := ⟨⟨(ip_t7 (ip_v7_1 (List.mem_of_getElem? (l := ip_u7_1.1) (i := 27) rfl))), (ip_t7 (ip_v7_1 (List.mem_of_getElem? (l := ip_u7_1.1) (i := 28) rfl))), (ip_t7 (ip_v7_1 (List.mem_of_getElem? (l := ip_u7_1.1) (i := 29) rfl)))⟩, rfl, rfl, rfl⟩
set_option maxRecDepth 100000 in
theorem ip_k_314 : ip_Kok (14, 125, 135, 1) := ⟨⟨(ip_t4 (ip_v4_4 (List.mem_of_getElem? (l := ip_u4_4.1) (i := 7) rfl))), (ip_t4 (ip_v4_4 (List.mem_of_getElem? (l := ip_u4_4.1) (i := 8) rfl))), (ip_t4 (ip_v4_4 (List.mem_of_getElem? (l := ip_u4_4.1) (i := 9) rfl)))⟩, rfl, rfl, rfl⟩
set_option maxRecDepth 100000 in
theorem ip_k_315 : ip_Kok (14, 129, 249, 1) := ⟨⟨(ip_t7 (ip_v7_2 (List.mem_of_getElem? (l := ip_u7_2.1) (i := 6) rfl))), (ip_t7 (ip_v7_2 (List.mem_of_getElem? (l := ip_u7_2.1) (i := 7) rfl))), (ip_t7 (ip_v7_2 (List.mem_of_getElem? (l := ip_u7_2.1) (i := 8) rfl)))⟩, rfl, rfl, rfl⟩
set_option maxRecDepth 100000 in
theorem ip_k_316 : ip_Kok (14, 130, 136, 1) := ⟨⟨(ip_t4 (ip_v4_5 (List.mem_of_getElem? (l := ip_u4_5.1) (i := 1) rfl))), (ip_t4 (ip_v4_5 (List.mem_of_getElem? (l := ip_u4_5.1) (i := 2) rfl))), (ip_t4 (ip_v4_5 (List.mem_of_getElem? (l := ip_u4_5.1) (i := 3) rfl)))⟩, rfl, rfl, rfl⟩
set_option maxRecDepth 100000 in
theorem ip_k_317 : ip_Kok (14, 134, 250, 1) := ⟨⟨(ip_t7 (ip_v7_2 (List.mem_of_getElem? (l := ip_u7_2.1) (i := 21) rfl))), (ip_t7 (ip_v7_2 (List.mem_of_getElem? (l := ip_u7_2.1) (i := 22) rfl))), (ip_t7 (ip_v7_2 (List.mem_of_getElem? (l := ip_u7_2.1) (i := 23) rfl)))⟩, rfl, rfl, rfl⟩
set_option maxRecDepth 100000 in
theorem ip_k_318 : ip_Kok (14, 135, 137, 1) := ⟨⟨(ip_t4 (ip_v4_5 (List.mem_of_getElem? (l := ip_u4_5.1) (i := 9) rfl))), (ip_t4 (ip_v4_5 (List.mem_of_getElem? (l := ip_u4_5.1) (i := 10) rfl))), (ip_t4 (ip_v4_5 (List.mem_of_getElem? (l := ip_u4_5.1) (i := 11) rfl)))⟩, rfl, rfl, rfl⟩
set_option maxRecDepth 100000 in
theorem ip_k_319 : ip_Kok (14, 138, 253, 1) := ⟨⟨(ip_t7 (ip_v7_2 (List.mem_of_getElem? (l := ip_u7_2.1) (i := 25) rfl))), (ip_t7 (ip_v7_2 (List.mem_of_getElem? (l := ip_u7_2.1) (i := 26) rfl))), (ip_t7 (ip_v7_2 (List.mem_of_getElem? (l := ip_u7_2.1) (i := 27) rfl)))⟩, rfl, rfl, rfl⟩
set_option maxRecDepth 100000 in
theorem ip_k_320 : ip_Kok (14, 139, 138, 1) := ⟨⟨(ip_t4 (ip_v4_5 (List.mem_of_getElem? (l := ip_u4_5.1) (i := 15) rfl))), (ip_t4 (ip_v4_5 (List.mem_of_getElem? (l := ip_u4_5.1) (i := 16) rfl))), (ip_t4 (ip_v4_5 (List.mem_of_getElem? (l := ip_u4_5.1) (i := 17) rfl)))⟩, rfl, rfl, rfl⟩
set_option maxRecDepth 100000 in
theorem ip_k_321 : ip_Kok (14, 143, 254, 1) := ⟨⟨(ip_t7 (ip_v7_3 (List.mem_of_getElem? (l := ip_u7_3.1) (i := 6) rfl))), (ip_t7 (ip_v7_3 (List.mem_of_getElem? (l := ip_u7_3.1) (i := 7) rfl))), (ip_t7 (ip_v7_3 (List.mem_of_getElem? (l := ip_u7_3.1) (i := 8) rfl)))⟩, rfl, rfl, rfl⟩
set_option maxRecDepth 100000 in
theorem ip_k_322 : ip_Kok (14, 144, 139, 1) := ⟨⟨(ip_t4 (ip_v4_5 (List.mem_of_getElem? (l := ip_u4_5.1) (i := 20) rfl))), (ip_t4 (ip_v4_5 (List.mem_of_getElem? (l := ip_u4_5.1) (i := 21) rfl))), (ip_t4 (ip_v4_5 (List.mem_of_getElem? (l := ip_u4_5.1) (i := 22) rfl)))⟩, rfl, rfl, rfl⟩
set_option maxRecDepth 100000 in
theorem ip_k_323 : ip_Kok (14, 147, 256, 1) := ⟨⟨(ip_t7 (ip_v7_3 (List.mem_of_getElem? (l := ip_u7_3.1) (i := 10) rfl))), (ip_t7 (ip_v7_3 (List.mem_of_getElem? (l := ip_u7_3.1) (i := 11) rfl))), (ip_t7 (ip_v7_3 (List.mem_of_getElem? (l := ip_u7_3.1) (i := 12) rfl)))⟩, rfl, rfl, rfl⟩
set_option maxRecDepth 100000 in
theorem ip_k_324 : ip_Kok (14, 148, 140, 1) := ⟨⟨(ip_t4 (ip_v4_5 (List.mem_of_getElem? (l := ip_u4_5.1) (i := 29) rfl))), (ip_t4 (ip_v4_5 (List.mem_of_getElem? (l := ip_u4_5.1) (i := 30) rfl))), (ip_t4 (ip_v4_5 (List.mem_of_getElem? (l := ip_u4_5.1) (i := 31) rfl)))⟩, rfl, rfl, rfl⟩
set_option maxRecDepth 100000 in
theorem ip_k_325 : ip_Kok (14, 152, 259, 1) := ⟨⟨(ip_t7 (ip_v7_3 (List.mem_of_getElem? (l := ip_u7_3.1) (i := 18) rfl))), (ip_t7 (ip_v7_3 (List.mem_of_getElem? (l := ip_u7_3.1) (i := 19) rfl))), (ip_t7 (ip_v7_3 (List.mem_of_getElem? (l := ip_u7_3.1) (i := 20) rfl)))⟩, rfl, rfl, rfl⟩
set_option maxRecDepth 100000 in
theorem ip_k_326 : ip_Kok (14, 153, 141, 1) := ⟨⟨(ip_t4 (ip_v4_6 (List.mem_of_getElem? (l := ip_u4_6.1) (i := 13) rfl))), (ip_t4 (ip_v4_6 (List.mem_of_getElem? (l := ip_u4_6.1) (i := 14) rfl))), (ip_t4 (ip_v4_6 (List.mem_of_getElem? (l := ip_u4_6.1) (i := 15) rfl)))⟩, rfl, rfl, rfl⟩
set_option maxRecDepth 100000 in
theorem ip_k_327 : ip_Kok (14, 156, 261, 1) := ⟨⟨(ip_t7 (ip_v7_3 (List.mem_of_getElem? (l := ip_u7_3.1) (i := 31) rfl))), (ip_t7 (ip_v7_4 (List.mem_of_getElem? (l := ip_u7_4.1) (i := 0) rfl))), (ip_t7 (ip_v7_4 (List.mem_of_getElem? (l := ip_u7_4.1) (i := 1) rfl)))⟩, rfl, rfl, rfl⟩
set_option maxRecDepth 100000 in
theorem ip_k_328 : ip_Kok (14, 157, 142, 1) := ⟨⟨(ip_t4 (ip_v4_6 (List.mem_of_getElem? (l := ip_u4_6.1) (i := 17) rfl))), (ip_t4 (ip_v4_6 (List.mem_of_getElem? (l := ip_u4_6.1) (i := 18) rfl))), (ip_t4 (ip_v4_6 (List.mem_of_getElem? (l := ip_u4_6.1) (i := 19) rfl)))⟩, rfl, rfl, rfl⟩
set_option maxRecDepth 100000 in
theorem ip_k_329 : ip_Kok (14, 160, 265, 1) := ⟨⟨(ip_t7 (ip_v7_4 (List.mem_of_getElem? (l := ip_u7_4.1) (i := 7) rfl))), (ip_t7 (ip_v7_4 (List.mem_of_getElem? (l := ip_u7_4.1) (i := 8) rfl))), (ip_t7 (ip_v7_4 (List.mem_of_getElem? (l := ip_u7_4.1) (i := 9) rfl)))⟩, rfl, rfl, rfl⟩
set_option maxRecDepth 100000 in
theorem ip_k_330 : ip_Kok (14, 161, 143, 1) := ⟨⟨(ip_t4 (ip_v4_6 (List.mem_of_getElem? (l := ip_u4_6.1) (i := 27) rfl))), (ip_t4 (ip_v4_6 (List.mem_of_getElem? (l := ip_u4_6.1) (i := 28) rfl))), (ip_t4 (ip_v4_6 (List.mem_of_getElem? (l := ip_u4_6.1) (i := 29) rfl)))⟩, rfl, rfl, rfl⟩
set_option maxRecDepth 100000 in
theorem ip_k_331 : ip_Kok (14, 164, 268, 1) := ⟨⟨(ip_t7 (ip_v7_4 (List.mem_of_getElem? (l := ip_u7_4.1) (i := 23) rfl))), (ip_t7 (ip_v7_4 (List.mem_of_getElem? (l := ip_u7_4.1) (i := 24) rfl))), (ip_t7 (ip_v7_4 (List.mem_of_getElem? (l := ip_u7_4.1) (i := 25) rfl)))⟩, rfl, rfl, rfl⟩
set_option maxRecDepth 100000 in
theorem ip_k_332 : ip_Kok (14, 165, 144, 1) := ⟨⟨(ip_t5 (ip_v5_0 (List.mem_of_getElem? (l := ip_u5_0.1) (i := 0) rfl))), (ip_t5 (ip_v5_0 (List.mem_of_getElem? (l := ip_u5_0.1) (i := 1) rfl))), (ip_t5 (ip_v5_0 (List.mem_of_getElem? (l := ip_u5_0.1) (i := 2) rfl)))⟩, rfl, rfl, rfl⟩
set_option maxRecDepth 100000 in
theorem ip_k_333 : ip_Kok (14, 168, 270, 1) := ⟨⟨(ip_t7 (ip_v7_5 (List.mem_of_getElem? (l := ip_u7_5.1) (i := 4) rfl))), (ip_t7 (ip_v7_5 (List.mem_of_getElem? (l := ip_u7_5.1) (i := 5) rfl))), (ip_t7 (ip_v7_5 (List.mem_of_getElem? (l := ip_u7_5.1) (i := 6) rfl)))⟩, rfl, rfl, rfl⟩
set_option maxRecDepth 100000 in
theorem ip_k_334 : ip_Kok (14, 169, 145, 1) := ⟨⟨(ip_t5 (ip_v5_0 (List.mem_of_getElem? (l := ip_u5_0.1) (i := 4) rfl))), (ip_t5 (ip_v5_0 (List.mem_of_getElem? (l := ip_u5_0.1) (i := 5) rfl))), (ip_t5 (ip_v5_0 (List.mem_of_getElem? (l := ip_u5_0.1) (i := 6) rfl)))⟩, rfl, rfl, rfl⟩
set_option maxRecDepth 100000 in
theorem ip_k_335 : ip_Kok (14, 173, 272, 1) := ⟨⟨(ip_t7 (ip_v7_5 (List.mem_of_getElem? (l := ip_u7_5.1) (i := 12) rfl))), (ip_t7 (ip_v7_5 (List.mem_of_getElem? (l := ip_u7_5.1) (i := 13) rfl))), (ip_t7 (ip_v7_5 (List.mem_of_getElem? (l := ip_u7_5.1) (i := 14) rfl)))⟩, rfl, rfl, rfl⟩
set_option maxRecDepth 100000 in
theorem ip_k_336 : ip_Kok (14, 174, 146, 1) := ⟨⟨(ip_t5 (ip_v5_0 (List.mem_of_getElem? (l := ip_u5_0.1) (i := 12) rfl))), (ip_t5 (ip_v5_0 (List.mem_of_getElem? (l := ip_u5_0.1) (i := 13) rfl))), (ip_t5 (ip_v5_0 (List.mem_of_getElem? (l := ip_u5_0.1) (i := 14) rfl)))⟩, rfl, rfl, rfl⟩
set_option maxRecDepth 100000 in
theorem ip_k_337 : ip_Kok (14, 177, 274, 1) := ⟨⟨(ip_t7 (ip_v7_5 (List.mem_of_getElem? (l := ip_u7_5.1) (i := 20) rfl))), (ip_t7 (ip_v7_5 (List.mem_of_getElem? (l := ip_u7_5.1) (i := 21) rfl))), (ip_t7 (ip_v7_5 (List.mem_of_getElem? (l := ip_u7_5.1) (i := 22) rfl)))⟩, rfl, rfl, rfl⟩
set_option maxRecDepth 100000 in
theorem ip_k_338 : ip_Kok (14, 178, 147, 1) := ⟨⟨(ip_t5 (ip_v5_0 (List.mem_of_getElem? (l := ip_u5_0.1) (i := 28) rfl))), (ip_t5 (ip_v5_0 (List.mem_of_getElem? (l := ip_u5_0.1) (i := 29) rfl))), (ip_t5 (ip_v5_0 (List.mem_of_getElem? (l := ip_u5_0.1) (i := 30) rfl)))⟩, rfl, rfl, rfl⟩
set_option maxRecDepth 100000 in
theorem ip_k_339 : ip_Kok (14, 181, 275, 1) := ⟨⟨(ip_t7 (ip_v7_5 (List.mem_of_getElem? (l := ip_u7_5.1) (i := 27) rfl))), (ip_t7 (ip_v7_5 (List.mem_of_getElem? (l := ip_u7_5.1) (i := 28) rfl))), (ip_t7 (ip_v7_5 (List.mem_of_getElem? (l := ip_u7_5.1) (i := 29) rfl)))⟩, rfl, rfl, rfl⟩
set_option maxRecDepth 100000 in
theorem ip_k_340 : ip_Kok (14, 182, 148, 1) := ⟨⟨(ip_t5 (ip_v5_1 (List.mem_of_getElem? (l := ip_u5_1.1) (i := 1) rfl))), (ip_t5 (ip_v5_1 (List.mem_of_getElem? (l := ip_u5_1.1) (i := 2) rfl))), (ip_t5 (ip_v5_1 (List.mem_of_getElem? (l := ip_u5_1.1) (i := 3) rfl)))⟩, rfl, rfl, rfl⟩
set_option maxRecDepth 100000 in
theorem ip_k_341 : ip_Kok (14, 185, 276, 1) := ⟨⟨(ip_t7 (ip_v7_5 (List.mem_of_getElem? (l := ip_u7_5.1) (i := 31) rfl))), (ip_t7 (ip_v7_6 (List.mem_of_getElem? (l := ip_u7_6.1) (i := 0) rfl))), (ip_t7 (ip_v7_6 (List.mem_of_getElem? (l := ip_u7_6.1) (i := 1) rfl)))⟩, rfl, rfl, rfl⟩
set_option maxRecDepth 100000 in
theorem ip_k_342 : ip_Kok (14, 186, 149, 1) := ⟨⟨(ip_t5 (ip_v5_1 (List.mem_of_getElem? (l := ip_u5_1.1) (i := 5) rfl))), (ip_t5 (ip_v5_1 (List.mem_of_getElem? (l := ip_u5_1.1) (i := 6) rfl))), (ip_t5 (ip_v5_1 (List.mem_of_getElem? (l := ip_u5_1.1) (i := 7) rfl)))⟩, rfl, rfl, rfl⟩
set_option maxRecDepth 100000 in
theorem ip_k_343 : ip_Kok (14, 189, 279, 1) := ⟨⟨(ip_t7 (ip_v7_6 (List.mem_of_getElem? (l := ip_u7_6.1) (i := 3) rfl))), (ip_t7 (ip_v7_6 (List.mem_of_getElem? (l := ip_u7_6.1) (i := 4) rfl))), (ip_t7 (ip_v7_6 (List.mem_of_getElem? (l := ip_u7_6.1) (i := 5) rfl)))⟩, rfl, rfl, rfl⟩
set_option maxRecDepth 100000 in
theorem ip_k_344 : ip_Kok (14, 190, 150, 1) := ⟨⟨(ip_t5 (ip_v5_1 (List.mem_of_getElem? (l := ip_u5_1.1) (i := 18) rfl))), (ip_t5 (ip_v5_1 (List.mem_of_getElem? (l := ip_u5_1.1) (i := 19) rfl))), (ip_t5 (ip_v5_1 (List.mem_of_getElem? (l := ip_u5_1.1) (i := 20) rfl)))⟩, rfl, rfl, rfl⟩
set_option maxRecDepth 100000 in
theorem ip_k_345 : ip_Kok (14, 193, 287, 1) := ⟨⟨(ip_t7 (ip_v7_7 (List.mem_of_getElem? (l := ip_u7_7.1) (i := 8) rfl))), (ip_t7 (ip_v7_7 (List.mem_of_getElem? (l := ip_u7_7.1) (i := 9) rfl))), (ip_t7 (ip_v7_7 (List.mem_of_getElem? (l := ip_u7_7.1) (i := 10) rfl)))⟩, rfl, rfl, rfl⟩
set_option maxRecDepth 100000 in
theorem ip_k_346 : ip_Kok (14, 194, 151, 1) := ⟨⟨(ip_t5 (ip_v5_1 (List.mem_of_getElem? (l := ip_u5_1.1) (i := 27) rfl))), (ip_t5 (ip_v5_1 (List.mem_of_getElem? (l := ip_u5_1.1) (i := 28) rfl))), (ip_t5 (ip_v5_1 (List.mem_of_getElem? (l := ip_u5_1.1) (i := 29) rfl)))⟩, rfl, rfl, rfl⟩
set_option maxRecDepth 100000 in
theorem ip_k_347 : ip_Kok (14, 197, 288, 1) := ⟨⟨(ip_t8 (ip_v8_0 (List.mem_of_getElem? (l := ip_u8_0.1) (i := 0) rfl))), (ip_t8 (ip_v8_0 (List.mem_of_getElem? (l := ip_u8_0.1) (i := 1) rfl))), (ip_t8 (ip_v8_0 (List.mem_of_getElem? (l := ip_u8_0.1) (i := 2) rfl)))⟩, rfl, rfl, rfl⟩
set_option maxRecDepth 100000 in
theorem ip_k_348 : ip_Kok (14, 198, 152, 1) := ⟨⟨(ip_t5 (ip_v5_2 (List.mem_of_getElem? (l := ip_u5_2.1) (i := 8) rfl))), (ip_t5 (ip_v5_2 (List.mem_of_getElem? (l := ip_u5_2.1) (i := 9) rfl))), (ip_t5 (ip_v5_2 (List.mem_of_getElem? (l := ip_u5_2.1) (i := 10) rfl)))⟩, rfl, rfl, rfl⟩
set_option maxRecDepth 100000 in
theorem ip_k_349 : ip_Kok (14, 201, 289, 1) := ⟨⟨(ip_t8 (ip_v8_0 (List.mem_of_getElem? (l := ip_u8_0.1) (i := 4) rfl))), (ip_t8 (ip_v8_0 (List.mem_of_getElem? (l := ip_u8_0.1) (i := 5) rfl))), (ip_t8 (ip_v8_0 (List.mem_of_getElem? (l := ip_u8_0.1) (i := 6) rfl)))⟩, rfl, rfl, rfl⟩
set_option maxRecDepth 100000 in
theorem ip_Kq0 : ∀ r ∈ ip_K0, ip_Kok r := List.forall_mem_cons.mpr ⟨ip_k_0, List.forall_mem_cons.mpr ⟨ip_k_1, List.forall_mem_cons.mpr ⟨ip_k_2, List.forall_mem_cons.mpr ⟨ip_k_3, List.forall_mem_cons.mpr ⟨ip_k_4, List.forall_mem_cons.mpr ⟨ip_k_5, List.forall_mem_cons.mpr ⟨ip_k_6, List.forall_mem_cons.mpr ⟨ip_k_7, List.forall_mem_cons.mpr ⟨ip_k_8, List.forall_mem_cons.mpr ⟨ip_k_9, List.forall_mem_cons.mpr ⟨ip_k_10, List.forall_mem_cons.mpr ⟨ip_k_11, List.forall_mem_cons.mpr ⟨ip_k_12, List.forall_mem_cons.mpr ⟨ip_k_13, List.forall_mem_cons.mpr ⟨ip_k_14, List.forall_mem_cons.mpr ⟨ip_k_15, List.forall_mem_cons.mpr ⟨ip_k_16, List.forall_mem_cons.mpr ⟨ip_k_17, List.forall_mem_cons.mpr ⟨ip_k_18, List.forall_mem_cons.mpr ⟨ip_k_19, List.forall_mem_cons.mpr ⟨ip_k_20, List.forall_mem_cons.mpr ⟨ip_k_21, List.forall_mem_cons.mpr ⟨ip_k_22, List.forall_mem_cons.mpr ⟨ip_k_23, List.forall_mem_cons.mpr ⟨ip_k_24, fun _ h => absurd h List.not_mem_nil⟩⟩⟩⟩⟩⟩⟩⟩⟩⟩⟩⟩⟩⟩⟩⟩⟩⟩⟩⟩⟩⟩⟩⟩⟩
set_option maxRecDepth 100000 in
theorem ip_Kq1 : ∀ r ∈ ip_K1, ip_Kok r := List.forall_mem_cons.mpr ⟨ip_k_25, List.forall_mem_cons.mpr ⟨ip_k_26, List.forall_mem_cons.mpr ⟨ip_k_27, List.forall_mem_cons.mpr ⟨ip_k_28, List.forall_mem_cons.mpr ⟨ip_k_29, List.forall_mem_cons.mpr ⟨ip_k_30, List.forall_mem_cons.mpr ⟨ip_k_31, List.forall_mem_cons.mpr ⟨ip_k_32, List.forall_mem_cons.mpr ⟨ip_k_33, List.forall_mem_cons.mpr ⟨ip_k_34, List.forall_mem_cons.mpr ⟨ip_k_35, List.forall_mem_cons.mpr ⟨ip_k_36, List.forall_mem_cons.mpr ⟨ip_k_37, List.forall_mem_cons.mpr ⟨ip_k_38, List.forall_mem_cons.mpr ⟨ip_k_39, List.forall_mem_cons.mpr ⟨ip_k_40, List.forall_mem_cons.mpr ⟨ip_k_41, List.forall_mem_cons.mpr ⟨ip_k_42, List.forall_mem_cons.mpr ⟨ip_k_43, List.forall_mem_cons.mpr ⟨ip_k_44, List.forall_mem_cons.mpr ⟨ip_k_45, List.forall_mem_cons.mpr ⟨ip_k_46, List.forall_mem_cons.mpr ⟨ip_k_47, List.forall_mem_cons.mpr ⟨ip_k_48, List.forall_mem_cons.mpr ⟨ip_k_49, fun _ h => absurd h List.not_mem_nil⟩⟩⟩⟩⟩⟩⟩⟩⟩⟩⟩⟩⟩⟩⟩⟩⟩⟩⟩⟩⟩⟩⟩⟩⟩
set_option maxRecDepth 100000 in
theorem ip_Kq2 : ∀ r ∈ ip_K2, ip_Kok r := List.forall_mem_cons.mpr ⟨ip_k_50, List.forall_mem_cons.mpr ⟨ip_k_51, List.forall_mem_cons.mpr ⟨ip_k_52, List.forall_mem_cons.mpr ⟨ip_k_53, List.forall_mem_cons.mpr ⟨ip_k_54, List.forall_mem_cons.mpr ⟨ip_k_55, List.forall_mem_cons.mpr ⟨ip_k_56, List.forall_mem_cons.mpr ⟨ip_k_57, List.forall_mem_cons.mpr ⟨ip_k_58, List.forall_mem_cons.mpr ⟨ip_k_59, List.forall_mem_cons.mpr ⟨ip_k_60, List.forall_mem_cons.mpr ⟨ip_k_61, List.forall_mem_cons.mpr ⟨ip_k_62, List.forall_mem_cons.mpr ⟨ip_k_63, List.forall_mem_cons.mpr ⟨ip_k_64, List.forall_mem_cons.mpr ⟨ip_k_65, List.forall_mem_cons.mpr ⟨ip_k_66, List.forall_mem_cons.mpr ⟨ip_k_67, List.forall_mem_cons.mpr ⟨ip_k_68, List.forall_mem_cons.mpr ⟨ip_k_69, List.forall_mem_cons.mpr ⟨ip_k_70, List.forall_mem_cons.mpr ⟨ip_k_71, List.forall_mem_cons.mpr ⟨ip_k_72, List.forall_mem_cons.mpr ⟨ip_k_73, List.forall_mem_cons.mpr ⟨ip_k_74, fun _ h => absurd h List.not_mem_nil⟩⟩⟩⟩⟩⟩⟩⟩⟩⟩⟩⟩⟩⟩⟩⟩⟩⟩⟩⟩⟩⟩⟩⟩⟩
set_option maxRecDepth 100000 in
theorem ip_Kq3 : ∀ r ∈ ip_K3, ip_Kok r := List.forall_mem_cons.mpr ⟨ip_k_75, List.forall_mem_cons.mpr ⟨ip_k_76, List.forall_mem_cons.mpr ⟨ip_k_77, List.forall_mem_cons.mpr ⟨ip_k_78, List.forall_mem_cons.mpr ⟨ip_k_79, List.forall_mem_cons.mpr ⟨ip_k_80, List.forall_mem_cons.mpr ⟨ip_k_81, List.forall_mem_cons.mpr ⟨ip_k_82, List.forall_mem_cons.mpr ⟨ip_k_83, List.forall_mem_cons.mpr ⟨ip_k_84, List.forall_mem_cons.mpr ⟨ip_k_85, List.forall_mem_cons.mpr ⟨ip_k_86, List.forall_mem_cons.mpr ⟨ip_k_87, List.forall_mem_cons.mpr ⟨ip_k_88, List.forall_mem_cons.mpr ⟨ip_k_89, List.forall_mem_cons.mpr ⟨ip_k_90, List.forall_mem_cons.mpr ⟨ip_k_91, List.forall_mem_cons.mpr ⟨ip_k_92, List.forall_mem_cons.mpr ⟨ip_k_93, List.forall_mem_cons.mpr ⟨ip_k_94, List.forall_mem_cons.mpr ⟨ip_k_95, List.forall_mem_cons.mpr ⟨ip_k_96, List.forall_mem_cons.mpr ⟨ip_k_97, List.forall_mem_cons.mpr ⟨ip_k_98, List.forall_mem_cons.mpr ⟨ip_k_99, fun _ h => absurd h List.not_mem_nil⟩⟩⟩⟩⟩⟩⟩⟩⟩⟩⟩⟩⟩⟩⟩⟩⟩⟩⟩⟩⟩⟩⟩⟩⟩
set_option maxRecDepth 100000 in
theorem ip_Kq4 : ∀ r ∈ ip_K4, ip_Kok r := List.forall_mem_cons.mpr ⟨ip_k_100, List.forall_mem_cons.mpr ⟨ip_k_101, List.forall_mem_cons.mpr ⟨ip_k_102, List.forall_mem_cons.mpr ⟨ip_k_103, List.forall_mem_cons.mpr ⟨ip_k_104, List.forall_mem_cons.mpr ⟨ip_k_105, List.forall_mem_cons.mpr ⟨ip_k_106, List.forall_mem_cons.mpr ⟨ip_k_107, List.forall_mem_cons.mpr ⟨ip_k_108, List.forall_mem_cons.mpr ⟨ip_k_109, List.forall_mem_cons.mpr ⟨ip_k_110, List.forall_mem_cons.mpr ⟨ip_k_111, List.forall_mem_cons.mpr ⟨ip_k_112, List.forall_mem_cons.mpr ⟨ip_k_113, List.forall_mem_cons.mpr ⟨ip_k_114, List.forall_mem_cons.mpr ⟨ip_k_115, List.forall_mem_cons.mpr ⟨ip_k_116, List.forall_mem_cons.mpr ⟨ip_k_117, List.forall_mem_cons.mpr ⟨ip_k_118, List.forall_mem_cons.mpr ⟨ip_k_119, List.forall_mem_cons.mpr ⟨ip_k_120, List.forall_mem_cons.mpr ⟨ip_k_121, List.forall_mem_cons.mpr ⟨ip_k_122, List.forall_mem_cons.mpr ⟨ip_k_123, List.forall_mem_cons.mpr ⟨ip_k_124, fun _ h => absurd h List.not_mem_nil⟩⟩⟩⟩⟩⟩⟩⟩⟩⟩⟩⟩⟩⟩⟩⟩⟩⟩⟩⟩⟩⟩⟩⟩⟩
set_option maxRecDepth 100000 in
theorem ip_Kq5 : ∀ r ∈ ip_K5, ip_Kok r := List.forall_mem_cons.mpr ⟨ip_k_125, List.forall_mem_cons.mpr ⟨ip_k_126, List.forall_mem_cons.mpr ⟨ip_k_127, List.forall_mem_cons.mpr ⟨ip_k_128, List.forall_mem_cons.mpr ⟨ip_k_129, List.forall_mem_cons.mpr ⟨ip_k_130, List.forall_mem_cons.mpr ⟨ip_k_131, List.forall_mem_cons.mpr ⟨ip_k_132, List.forall_mem_cons.mpr ⟨ip_k_133, List.forall_mem_cons.mpr ⟨ip_k_134, List.forall_mem_cons.mpr ⟨ip_k_135, List.forall_mem_cons.mpr ⟨ip_k_136, List.forall_mem_cons.mpr ⟨ip_k_137, List.forall_mem_cons.mpr ⟨ip_k_138, List.forall_mem_cons.mpr ⟨ip_k_139, List.forall_mem_cons.mpr ⟨ip_k_140, List.forall_mem_cons.mpr ⟨ip_k_141, List.forall_mem_cons.mpr ⟨ip_k_142, List.forall_mem_cons.mpr ⟨ip_k_143, List.forall_mem_cons.mpr ⟨ip_k_144, List.forall_mem_cons.mpr ⟨ip_k_145, List.forall_mem_cons.mpr ⟨ip_k_146, List.forall_mem_cons.mpr ⟨ip_k_147, List.forall_mem_cons.mpr ⟨ip_k_148, List.forall_mem_cons.mpr ⟨ip_k_149, fun _ h => absurd h List.not_mem_nil⟩⟩⟩⟩⟩⟩⟩⟩⟩⟩⟩⟩⟩⟩⟩⟩⟩⟩⟩⟩⟩⟩⟩⟩⟩
set_option maxRecDepth 100000 in
theorem ip_Kq6 : ∀ r ∈ ip_K6, ip_Kok r := List.forall_mem_cons.mpr ⟨ip_k_150, List.forall_mem_cons.mpr ⟨ip_k_151, List.forall_mem_cons.mpr ⟨ip_k_152, List.forall_mem_cons.mpr ⟨ip_k_153, List.forall_mem_cons.mpr ⟨ip_k_154, List.forall_mem_cons.mpr ⟨ip_k_155, List.forall_mem_cons.mpr ⟨ip_k_156, List.forall_mem_cons.mpr ⟨ip_k_157, List.forall_mem_cons.mpr ⟨ip_k_158, List.forall_mem_cons.mpr ⟨ip_k_159, List.forall_mem_cons.mpr ⟨ip_k_160, List.forall_mem_cons.mpr ⟨ip_k_161, List.forall_mem_cons.mpr ⟨ip_k_162, List.forall_mem_cons.mpr ⟨ip_k_163, List.forall_mem_cons.mpr ⟨ip_k_164, List.forall_mem_cons.mpr ⟨ip_k_165, List.forall_mem_cons.mpr ⟨ip_k_166, List.forall_mem_cons.mpr ⟨ip_k_167, List.forall_mem_cons.mpr ⟨ip_k_168, List.forall_mem_cons.mpr ⟨ip_k_169, List.forall_mem_cons.mpr ⟨ip_k_170, List.forall_mem_cons.mpr ⟨ip_k_171, List.forall_mem_cons.mpr ⟨ip_k_172, List.forall_mem_cons.mpr ⟨ip_k_173, List.forall_mem_cons.mpr ⟨ip_k_174, fun _ h => absurd h List.not_mem_nil⟩⟩⟩⟩⟩⟩⟩⟩⟩⟩⟩⟩⟩⟩⟩⟩⟩⟩⟩⟩⟩⟩⟩⟩⟩
set_option maxRecDepth 100000 in
theorem ip_Kq7 : ∀ r ∈ ip_K7, ip_Kok r := List.forall_mem_cons.mpr ⟨ip_k_175, List.forall_mem_cons.mpr ⟨ip_k_176, List.forall_mem_cons.mpr ⟨ip_k_177, List.forall_mem_cons.mpr ⟨ip_k_178, List.forall_mem_cons.mpr ⟨ip_k_179, List.forall_mem_cons.mpr ⟨ip_k_180, List.forall_mem_cons.mpr ⟨ip_k_181, List.forall_mem_cons.mpr ⟨ip_k_182, List.forall_mem_cons.mpr ⟨ip_k_183, List.forall_mem_cons.mpr ⟨ip_k_184, List.forall_mem_cons.mpr ⟨ip_k_185, List.forall_mem_cons.mpr ⟨ip_k_186, List.forall_mem_cons.mpr ⟨ip_k_187, List.forall_mem_cons.mpr ⟨ip_k_188, List.forall_mem_cons.mpr ⟨ip_k_189, List.forall_mem_cons.mpr ⟨ip_k_190, List.forall_mem_cons.mpr ⟨ip_k_191, List.forall_mem_cons.mpr ⟨ip_k_192, List.forall_mem_cons.mpr ⟨ip_k_193, List.forall_mem_cons.mpr ⟨ip_k_194, List.forall_mem_cons.mpr ⟨ip_k_195, List.forall_mem_cons.mpr ⟨ip_k_196, List.forall_mem_cons.mpr ⟨ip_k_197, List.forall_mem_cons.mpr ⟨ip_k_198, List.forall_mem_cons.mpr ⟨ip_k_199, fun _ h => absurd h List.not_mem_nil⟩⟩⟩⟩⟩⟩⟩⟩⟩⟩⟩⟩⟩⟩⟩⟩⟩⟩⟩⟩⟩⟩⟩⟩⟩
set_option maxRecDepth 100000 in
theorem ip_Kq8 : ∀ r ∈ ip_K8, ip_Kok r := List.forall_mem_cons.mpr ⟨ip_k_200, List.forall_mem_cons.mpr ⟨ip_k_201, List.forall_mem_cons.mpr ⟨ip_k_202, List.forall_mem_cons.mpr ⟨ip_k_203, List.forall_mem_cons.mpr ⟨ip_k_204, List.forall_mem_cons.mpr ⟨ip_k_205, List.forall_mem_cons.mpr ⟨ip_k_206, List.forall_mem_cons.mpr ⟨ip_k_207, List.forall_mem_cons.mpr ⟨ip_k_208, List.forall_mem_cons.mpr ⟨ip_k_209, List.forall_mem_cons.mpr ⟨ip_k_210, List.forall_mem_cons.mpr ⟨ip_k_211, List.forall_mem_cons.mpr ⟨ip_k_212, List.forall_mem_cons.mpr ⟨ip_k_213, List.forall_mem_cons.mpr ⟨ip_k_214, List.forall_mem_cons.mpr ⟨ip_k_215, List.forall_mem_cons.mpr ⟨ip_k_216, List.forall_mem_cons.mpr ⟨ip_k_217, List.forall_mem_cons.mpr ⟨ip_k_218, List.forall_mem_cons.mpr ⟨ip_k_219, List.forall_mem_cons.mpr ⟨ip_k_220, List.forall_mem_cons.mpr ⟨ip_k_221, List.forall_mem_cons.mpr ⟨ip_k_222, List.forall_mem_cons.mpr ⟨ip_k_223, List.forall_mem_cons.mpr ⟨ip_k_224, fun _ h => absurd h List.not_mem_nil⟩⟩⟩⟩⟩⟩⟩⟩⟩⟩⟩⟩⟩⟩⟩⟩⟩⟩⟩⟩⟩⟩⟩⟩⟩
set_option maxRecDepth 100000 in
theorem ip_Kq9 : ∀ r ∈ ip_K9, ip_Kok r := List.forall_mem_cons.mpr ⟨ip_k_225, List.forall_mem_cons.mpr ⟨ip_k_226, List.forall_mem_cons.mpr ⟨ip_k_227, List.forall_mem_cons.mpr ⟨ip_k_228, List.forall_mem_cons.mpr ⟨ip_k_229, List.forall_mem_cons.mpr ⟨ip_k_230, List.forall_mem_cons.mpr ⟨ip_k_231, List.forall_mem_cons.mpr ⟨ip_k_232, List.forall_mem_cons.mpr ⟨ip_k_233, List.forall_mem_cons.mpr ⟨ip_k_234, List.forall_mem_cons.mpr ⟨ip_k_235, List.forall_mem_cons.mpr ⟨ip_k_236, List.forall_mem_cons.mpr ⟨ip_k_237, List.forall_mem_cons.mpr ⟨ip_k_238, List.forall_mem_cons.mpr ⟨ip_k_239, List.forall_mem_cons.mpr ⟨ip_k_240, List.forall_mem_cons.mpr ⟨ip_k_241, List.forall_mem_cons.mpr ⟨ip_k_242, List.forall_mem_cons.mpr ⟨ip_k_243, List.forall_mem_cons.mpr ⟨ip_k_244, List.forall_mem_cons.mpr ⟨ip_k_245, List.forall_mem_cons.mpr ⟨ip_k_246, List.forall_mem_cons.mpr ⟨ip_k_247, List.forall_mem_cons.mpr ⟨ip_k_248, List.forall_mem_cons.mpr ⟨ip_k_249, fun _ h => absurd h List.not_mem_nil⟩⟩⟩⟩⟩⟩⟩⟩⟩⟩⟩⟩⟩⟩⟩⟩⟩⟩⟩⟩⟩⟩⟩⟩⟩
set_option maxRecDepth 100000 in
theorem ip_Kq10 : ∀ r ∈ ip_K10, ip_Kok r := List.forall_mem_cons.mpr ⟨ip_k_250, List.forall_mem_cons.mpr ⟨ip_k_251, List.forall_mem_cons.mpr ⟨ip_k_252, List.forall_mem_cons.mpr ⟨ip_k_253, List.forall_mem_cons.mpr ⟨ip_k_254, List.forall_mem_cons.mpr ⟨ip_k_255, List.forall_mem_cons.mpr ⟨ip_k_256, List.forall_mem_cons.mpr ⟨ip_k_257, List.forall_mem_cons.mpr ⟨ip_k_258, List.forall_mem_cons.mpr ⟨ip_k_259, List.forall_mem_cons.mpr ⟨ip_k_260, List.forall_mem_cons.mpr ⟨ip_k_261, List.forall_mem_cons.mpr ⟨ip_k_262, List.forall_mem_cons.mpr ⟨ip_k_263, List.forall_mem_cons.mpr ⟨ip_k_264, List.forall_mem_cons.mpr ⟨ip_k_265, List.forall_mem_cons.mpr ⟨ip_k_266, List.forall_mem_cons.mpr ⟨ip_k_267, List.forall_mem_cons.mpr ⟨ip_k_268, List.forall_mem_cons.mpr ⟨ip_k_269, List.forall_mem_cons.mpr ⟨ip_k_270, List.forall_mem_cons.mpr ⟨ip_k_271, List.forall_mem_cons.mpr ⟨ip_k_272, List.forall_mem_cons.mpr ⟨ip_k_273, List.forall_mem_cons.mpr ⟨ip_k_274, fun _ h => absurd h List.not_mem_nil⟩⟩⟩⟩⟩⟩⟩⟩⟩⟩⟩⟩⟩⟩⟩⟩⟩⟩⟩⟩⟩⟩⟩⟩⟩
set_option maxRecDepth 100000 in
theorem ip_Kq11 : ∀ r ∈ ip_K11, ip_Kok r := List.forall_mem_cons.mpr ⟨ip_k_275, List.forall_mem_cons.mpr ⟨ip_k_276, List.forall_mem_cons.mpr ⟨ip_k_277, List.forall_mem_cons.mpr ⟨ip_k_278, List.forall_mem_cons.mpr ⟨ip_k_279, List.forall_mem_cons.mpr ⟨ip_k_280, List.forall_mem_cons.mpr ⟨ip_k_281, List.forall_mem_cons.mpr ⟨ip_k_282, List.forall_mem_cons.mpr ⟨ip_k_283, List.forall_mem_cons.mpr ⟨ip_k_284, List.forall_mem_cons.mpr ⟨ip_k_285, List.forall_mem_cons.mpr ⟨ip_k_286, List.forall_mem_cons.mpr ⟨ip_k_287, List.forall_mem_cons.mpr ⟨ip_k_288, List.forall_mem_cons.mpr ⟨ip_k_289, List.forall_mem_cons.mpr ⟨ip_k_290, List.forall_mem_cons.mpr ⟨ip_k_291, List.forall_mem_cons.mpr ⟨ip_k_292, List.forall_mem_cons.mpr ⟨ip_k_293, List.forall_mem_cons.mpr ⟨ip_k_294, List.forall_mem_cons.mpr ⟨ip_k_295, List.forall_mem_cons.mpr ⟨ip_k_296, List.forall_mem_cons.mpr ⟨ip_k_297, List.forall_mem_cons.mpr ⟨ip_k_298, List.forall_mem_cons.mpr ⟨ip_k_299, fun _ h => absurd h List.not_mem_nil⟩⟩⟩⟩⟩⟩⟩⟩⟩⟩⟩⟩⟩⟩⟩⟩⟩⟩⟩⟩⟩⟩⟩⟩⟩
set_option maxRecDepth 100000 in
theorem ip_Kq12 : ∀ r ∈ ip_K12, ip_Kok r := List.forall_mem_cons.mpr ⟨ip_k_300, List.forall_mem_cons.mpr ⟨ip_k_301, List.forall_mem_cons.mpr ⟨ip_k_302, List.forall_mem_cons.mpr ⟨ip_k_303, List.forall_mem_cons.mpr ⟨ip_k_304, List.forall_mem_cons.mpr ⟨ip_k_305, List.forall_mem_cons.mpr ⟨ip_k_306, List.forall_mem_cons.mpr ⟨ip_k_307, List.forall_mem_cons.mpr ⟨ip_k_308, List.forall_mem_cons.mpr ⟨ip_k_309, List.forall_mem_cons.mpr ⟨ip_k_310, List.forall_mem_cons.mpr ⟨ip_k_311, List.forall_mem_cons.mpr ⟨ip_k_312, List.forall_mem_cons.mpr ⟨ip_k_313, List.forall_mem_cons.mpr ⟨ip_k_314, List.forall_mem_cons.mpr ⟨ip_k_315, List.forall_mem_cons.mpr ⟨ip_k_316, List.forall_mem_cons.mpr ⟨ip_k_317, List.forall_mem_cons.mpr ⟨ip_k_318, List.forall_mem_cons.mpr ⟨ip_k_319, List.forall_mem_cons.mpr ⟨ip_k_320, List.forall_mem_cons.mpr ⟨ip_k_321, List.forall_mem_cons.mpr ⟨ip_k_322, List.forall_mem_cons.mpr ⟨ip_k_323, List.forall_mem_cons.mpr ⟨ip_k_324, fun _ h => absurd h List.not_mem_nil⟩⟩⟩⟩⟩⟩⟩⟩⟩⟩⟩⟩⟩⟩⟩⟩⟩⟩⟩⟩⟩⟩⟩⟩⟩
set_option maxRecDepth 100000 in
theorem ip_Kq13 : ∀ r ∈ ip_K13, ip_Kok r := List.forall_mem_cons.mpr ⟨ip_k_325, List.forall_mem_cons.mpr ⟨ip_k_326, List.forall_mem_cons.mpr ⟨ip_k_327, List.forall_mem_cons.mpr ⟨ip_k_328, List.forall_mem_cons.mpr ⟨ip_k_329, List.forall_mem_cons.mpr ⟨ip_k_330, List.forall_mem_cons.mpr ⟨ip_k_331, List.forall_mem_cons.mpr ⟨ip_k_332, List.forall_mem_cons.mpr ⟨ip_k_333, List.forall_mem_cons.mpr ⟨ip_k_334, List.forall_mem_cons.mpr ⟨ip_k_335, List.forall_mem_cons.mpr ⟨ip_k_336, List.forall_mem_cons.mpr ⟨ip_k_337, List.forall_mem_cons.mpr ⟨ip_k_338, List.forall_mem_cons.mpr ⟨ip_k_339, List.forall_mem_cons.mpr ⟨ip_k_340, List.forall_mem_cons.mpr ⟨ip_k_341, List.forall_mem_cons.mpr ⟨ip_k_342, List.forall_mem_cons.mpr ⟨ip_k_343, List.forall_mem_cons.mpr ⟨ip_k_344, List.forall_mem_cons.mpr ⟨ip_k_345, List.forall_mem_cons.mpr ⟨ip_k_346, List.forall_mem_cons.mpr ⟨ip_k_347, List.forall_mem_cons.mpr ⟨ip_k_348, List.forall_mem_cons.mpr ⟨ip_k_349, fun _ h => absurd h List.not_mem_nil⟩⟩⟩⟩⟩⟩⟩⟩⟩⟩⟩⟩⟩⟩⟩⟩⟩⟩⟩⟩⟩⟩⟩⟩⟩
set_option maxRecDepth 100000 in
theorem ip_K_ok : ∀ r ∈ ip_K, ip_Kok r := fun r h => (List.mem_append.mp h).elim (ip_Kq0 r) (fun h => (List.mem_append.mp h).elim (ip_Kq1 r) (fun h => (List.mem_append.mp h).elim (ip_Kq2 r) (fun h => (List.mem_append.mp h).elim (ip_Kq3 r) (fun h => (List.mem_append.mp h).elim (ip_Kq4 r) (fun h => (List.mem_append.mp h).elim (ip_Kq5 r) (fun h => (List.mem_append.mp h).elim (ip_Kq6 r) (fun h => (List.mem_append.mp h).elim (ip_Kq7 r) (fun h => (List.mem_append.mp h).elim (ip_Kq8 r) (fun h => (List.mem_append.mp h).elim (ip_Kq9 r) (fun h => (List.mem_append.mp h).elim (ip_Kq10 r) (fun h => (List.mem_append.mp h).elim (ip_Kq11 r) (fun h => (List.mem_append.mp h).elim (ip_Kq12 r) (fun h => ip_Kq13 r h)))))))))))))
def ip_Mok (c : Nat) : Prop := Cond.code (ip_nm c) (ip_by c) (ip_ml c) (ip_rt c) ∈ lw_tbl ∧ Cond.initialized (ip_nm c).cls ∈ lw_tbl ∧ ((ip_nm c).cls ≠ "java/lang/invoke/MethodHandle" ∧ (ip_nm c).cls ≠ "java/lang/invoke/VarHandle") ∧ plainFor (ip_nm c) = true ∧ ip_os c = (ip_nm c).cls
set_option maxRecDepth 100000 in
theorem ip_Mc_RJ9 : Cond.initialized RJ9 ∈ lw_tbl ∧ (RJ9 ≠ "java/lang/invoke/MethodHandle" ∧ RJ9 ≠ "java/lang/invoke/VarHandle") := ⟨(ip_t1 (ip_v1_0 (List.mem_of_getElem? (l := ip_u1_0.1) (i := 13) rfl))), ⟨by decide +kernel, by decide +kernel⟩⟩
set_option maxRecDepth 100000 in
theorem ip_Mc_RX0 : Cond.initialized RX0 ∈ lw_tbl ∧ (RX0 ≠ "java/lang/invoke/MethodHandle" ∧ RX0 ≠ "java/lang/invoke/VarHandle") := ⟨(ip_t1 (ip_v1_0 (List.mem_of_getElem? (l := ip_u1_0.1) (i := 11) rfl))), ⟨by decide +kernel, by decide +kernel⟩⟩
set_option maxRecDepth 100000 in
theorem ip_Mp_RX0 : plainName RX0 = true := by decide +kernel
set_option maxRecDepth 100000 in
theorem ip_Mc_RX1 : Cond.initialized RX1 ∈ lw_tbl ∧ (RX1 ≠ "java/lang/invoke/MethodHandle" ∧ RX1 ≠ "java/lang/invoke/VarHandle") := ⟨(ip_t1 (ip_v1_0 (List.mem_of_getElem? (l := ip_u1_0.1) (i := 5) rfl))), ⟨by decide +kernel, by decide +kernel⟩⟩
set_option maxRecDepth 100000 in
theorem ip_Mp_RX1 : plainName RX1 = true := by decide +kernel
set_option maxRecDepth 100000 in
theorem ip_Mc_RX10 : Cond.initialized RX10 ∈ lw_tbl ∧ (RX10 ≠ "java/lang/invoke/MethodHandle" ∧ RX10 ≠ "java/lang/invoke/VarHandle") := ⟨(ip_t1 (ip_v1_0 (List.mem_of_getElem? (l := ip_u1_0.1) (i := 1) rfl))), ⟨by decide +kernel, by decide +kernel⟩⟩
set_option maxRecDepth 100000 in
theorem ip_Mp_RX10 : plainName RX10 = true := by decide +kernel
set_option maxRecDepth 100000 in
theorem ip_Mc_RX11 : Cond.initialized RX11 ∈ lw_tbl ∧ (RX11 ≠ "java/lang/invoke/MethodHandle" ∧ RX11 ≠ "java/lang/invoke/VarHandle") := ⟨(ip_t1 (ip_v1_0 (List.mem_of_getElem? (l := ip_u1_0.1) (i := 12) rfl))), ⟨by decide +kernel, by decide +kernel⟩⟩
set_option maxRecDepth 100000 in
theorem ip_Mp_RX11 : plainName RX11 = true := by decide +kernel
set_option maxRecDepth 100000 in
theorem ip_Mc_RX2 : Cond.initialized RX2 ∈ lw_tbl ∧ (RX2 ≠ "java/lang/invoke/MethodHandle" ∧ RX2 ≠ "java/lang/invoke/VarHandle") := ⟨(ip_t1 (ip_v1_0 (List.mem_of_getElem? (l := ip_u1_0.1) (i := 2) rfl))), ⟨by decide +kernel, by decide +kernel⟩⟩
set_option maxRecDepth 100000 in
theorem ip_Mp_RX2 : plainName RX2 = true := by decide +kernel
set_option maxRecDepth 100000 in
theorem ip_Mc_RX3 : Cond.initialized RX3 ∈ lw_tbl ∧ (RX3 ≠ "java/lang/invoke/MethodHandle" ∧ RX3 ≠ "java/lang/invoke/VarHandle") := ⟨(ip_t1 (ip_v1_0 (List.mem_of_getElem? (l := ip_u1_0.1) (i := 8) rfl))), ⟨by decide +kernel, by decide +kernel⟩⟩
set_option maxRecDepth 100000 in
theorem ip_Mp_RX3 : plainName RX3 = true := by decide +kernel
set_option maxRecDepth 100000 in
theorem ip_Mc_RX4 : Cond.initialized RX4 ∈ lw_tbl ∧ (RX4 ≠ "java/lang/invoke/MethodHandle" ∧ RX4 ≠ "java/lang/invoke/VarHandle") := ⟨(ip_t1 (ip_v1_0 (List.mem_of_getElem? (l := ip_u1_0.1) (i := 3) rfl))), ⟨by decide +kernel, by decide +kernel⟩⟩
set_option maxRecDepth 100000 in
theorem ip_Mp_RX4 : plainName RX4 = true := by decide +kernel
set_option maxRecDepth 100000 in
theorem ip_Mc_RX5 : Cond.initialized RX5 ∈ lw_tbl ∧ (RX5 ≠ "java/lang/invoke/MethodHandle" ∧ RX5 ≠ "java/lang/invoke/VarHandle") := ⟨(ip_t1 (ip_v1_0 (List.mem_of_getElem? (l := ip_u1_0.1) (i := 9) rfl))), ⟨by decide +kernel, by decide +kernel⟩⟩
set_option maxRecDepth 100000 in
theorem ip_Mp_RX5 : plainName RX5 = true := by decide +kernel
set_option maxRecDepth 100000 in
theorem ip_Mc_RX6 : Cond.initialized RX6 ∈ lw_tbl ∧ (RX6 ≠ "java/lang/invoke/MethodHandle" ∧ RX6 ≠ "java/lang/invoke/VarHandle") := ⟨(ip_t1 (ip_v1_0 (List.mem_of_getElem? (l := ip_u1_0.1) (i := 7) rfl))), ⟨by decide +kernel, by decide +kernel⟩⟩
set_option maxRecDepth 100000 in
theorem ip_Mp_RX6 : plainName RX6 = true := by decide +kernel
set_option maxRecDepth 100000 in
theorem ip_Mc_RX7 : Cond.initialized RX7 ∈ lw_tbl ∧ (RX7 ≠ "java/lang/invoke/MethodHandle" ∧ RX7 ≠ "java/lang/invoke/VarHandle") := ⟨(ip_t1 (ip_v1_0 (List.mem_of_getElem? (l := ip_u1_0.1) (i := 10) rfl))), ⟨by decide +kernel, by decide +kernel⟩⟩
set_option maxRecDepth 100000 in
theorem ip_Mp_RX7 : plainName RX7 = true := by decide +kernel
set_option maxRecDepth 100000 in
theorem ip_Mc_RX8 : Cond.initialized RX8 ∈ lw_tbl ∧ (RX8 ≠ "java/lang/invoke/MethodHandle" ∧ RX8 ≠ "java/lang/invoke/VarHandle") := ⟨(ip_t1 (ip_v1_0 (List.mem_of_getElem? (l := ip_u1_0.1) (i := 4) rfl))), ⟨by decide +kernel, by decide +kernel⟩⟩
set_option maxRecDepth 100000 in
theorem ip_Mp_RX8 : plainName RX8 = true := by decide +kernel
set_option maxRecDepth 100000 in
theorem ip_Mc_RX9 : Cond.initialized RX9 ∈ lw_tbl ∧ (RX9 ≠ "java/lang/invoke/MethodHandle" ∧ RX9 ≠ "java/lang/invoke/VarHandle") := ⟨(ip_t1 (ip_v1_0 (List.mem_of_getElem? (l := ip_u1_0.1) (i := 6) rfl))), ⟨by decide +kernel, by decide +kernel⟩⟩
set_option maxRecDepth 100000 in
theorem ip_Mp_RX9 : plainName RX9 = true := by decide +kernel
theorem ip_pand1 {a b : Bool} (h : (a && b) = true) : a = true := (Bool.and_eq_true_iff.mp h).1
theorem ip_pand2 {a b : Bool} (h : (a && b) = true) : b = true := (Bool.and_eq_true_iff.mp h).2
set_option maxRecDepth 100000 in
theorem ip_pf : (plainFor (ip_nm 290) && (plainFor (ip_nm 291) && (plainFor (ip_nm 292) && (plainFor (ip_nm 293) && plainFor (ip_nm 294))))) = true := by decide +kernel
set_option maxRecDepth 100000 in
theorem ip_mw0 : ip_Mok 0 := ⟨(ip_t2 (ip_v2_1 (List.mem_of_getElem? (l := ip_u2_1.1) (i := 17) rfl))), ip_Mc_RX0.1, ip_Mc_RX0.2, plainFor_of_name (x := ip_nm 0) ip_Mp_RX0, rfl⟩
set_option maxRecDepth 100000 in
theorem ip_mw1 : ip_Mok 1 := ⟨(ip_t4 (ip_v4_4 (List.mem_of_getElem? (l := ip_u4_4.1) (i := 18) rfl))), ip_Mc_RX0.1, ip_Mc_RX0.2, plainFor_of_name (x := ip_nm 1) ip_Mp_RX0, rfl⟩
set_option maxRecDepth 100000 in
theorem ip_mw2 : ip_Mok 2 := ⟨(ip_t4 (ip_v4_4 (List.mem_of_getElem? (l := ip_u4_4.1) (i := 23) rfl))), ip_Mc_RX0.1, ip_Mc_RX0.2, plainFor_of_name (x := ip_nm 2) ip_Mp_RX0, rfl⟩
set_option maxRecDepth 100000 in
theorem ip_mw3 : ip_Mok 3 := ⟨(ip_t4 (ip_v4_4 (List.mem_of_getElem? (l := ip_u4_4.1) (i := 26) rfl))), ip_Mc_RX0.1, ip_Mc_RX0.2, plainFor_of_name (x := ip_nm 3) ip_Mp_RX0, rfl⟩
set_option maxRecDepth 100000 in
theorem ip_mw4 : ip_Mok 4 := ⟨(ip_t4 (ip_v4_4 (List.mem_of_getElem? (l := ip_u4_4.1) (i := 31) rfl))), ip_Mc_RX0.1, ip_Mc_RX0.2, plainFor_of_name (x := ip_nm 4) ip_Mp_RX0, rfl⟩
set_option maxRecDepth 100000 in
theorem ip_mw5 : ip_Mok 5 := ⟨(ip_t4 (ip_v4_5 (List.mem_of_getElem? (l := ip_u4_5.1) (i := 8) rfl))), ip_Mc_RX0.1, ip_Mc_RX0.2, plainFor_of_name (x := ip_nm 5) ip_Mp_RX0, rfl⟩
set_option maxRecDepth 100000 in
theorem ip_mw6 : ip_Mok 6 := ⟨(ip_t4 (ip_v4_6 (List.mem_of_getElem? (l := ip_u4_6.1) (i := 4) rfl))), ip_Mc_RX0.1, ip_Mc_RX0.2, plainFor_of_name (x := ip_nm 6) ip_Mp_RX0, rfl⟩
set_option maxRecDepth 100000 in
theorem ip_mw7 : ip_Mok 7 := ⟨(ip_t4 (ip_v4_5 (List.mem_of_getElem? (l := ip_u4_5.1) (i := 27) rfl))), ip_Mc_RX0.1, ip_Mc_RX0.2, plainFor_of_name (x := ip_nm 7) ip_Mp_RX0, rfl⟩
set_option maxRecDepth 100000 in
theorem ip_mw8 : ip_Mok 8 := ⟨(ip_t4 (ip_v4_6 (List.mem_of_getElem? (l := ip_u4_6.1) (i := 8) rfl))), ip_Mc_RX0.1, ip_Mc_RX0.2, plainFor_of_name (x := ip_nm 8) ip_Mp_RX0, rfl⟩
set_option maxRecDepth 100000 in
theorem ip_mw9 : ip_Mok 9 := ⟨(ip_t4 (ip_v4_6 (List.mem_of_getElem? (l := ip_u4_6.1) (i := 12) rfl))), ip_Mc_RX0.1, ip_Mc_RX0.2, plainFor_of_name (x := ip_nm 9) ip_Mp_RX0, rfl⟩
set_option maxRecDepth 100000 in
theorem ip_mw10 : ip_Mok 10 := ⟨(ip_t1 (ip_v1_3 (List.mem_of_getElem? (l := ip_u1_3.1) (i := 7) rfl))), ip_Mc_RX1.1, ip_Mc_RX1.2, plainFor_of_name (x := ip_nm 10) ip_Mp_RX1, rfl⟩
set_option maxRecDepth 100000 in
theorem ip_mw11 : ip_Mok 11 := ⟨(ip_t3 (ip_v3_3 (List.mem_of_getElem? (l := ip_u3_3.1) (i := 2) rfl))), ip_Mc_RX1.1, ip_Mc_RX1.2, plainFor_of_name (x := ip_nm 11) ip_Mp_RX1, rfl⟩
set_option maxRecDepth 100000 in
theorem ip_mw12 : ip_Mok 12 := ⟨(ip_t3 (ip_v3_5 (List.mem_of_getElem? (l := ip_u3_5.1) (i := 12) rfl))), ip_Mc_RX1.1, ip_Mc_RX1.2, plainFor_of_name (x := ip_nm 12) ip_Mp_RX1, rfl⟩
set_option maxRecDepth 100000 in
theorem ip_mw13 : ip_Mok 13 := ⟨(ip_t4 (ip_v4_3 (List.mem_of_getElem? (l := ip_u4_3.1) (i := 21) rfl))), ip_Mc_RX1.1, ip_Mc_RX1.2, plainFor_of_name (x := ip_nm 13) ip_Mp_RX1, rfl⟩
set_option maxRecDepth 100000 in
theorem ip_mw14 : ip_Mok 14 := ⟨(ip_t3 (ip_v3_2 (List.mem_of_getElem? (l := ip_u3_2.1) (i := 21) rfl))), ip_Mc_RX1.1, ip_Mc_RX1.2, plainFor_of_name (x := ip_nm 14) ip_Mp_RX1, rfl⟩
set_option maxRecDepth 100000 in
theorem ip_mw15 : ip_Mok 15 := ⟨(ip_t3 (ip_v3_2 (List.mem_of_getElem? (l := ip_u3_2.1) (i := 17) rfl))), ip_Mc_RX1.1, ip_Mc_RX1.2, plainFor_of_name (x := ip_nm 15) ip_Mp_RX1, rfl⟩
set_option maxRecDepth 100000 in
theorem ip_mw16 : ip_Mok 16 := ⟨(ip_t3 (ip_v3_3 (List.mem_of_getElem? (l := ip_u3_3.1) (i := 18) rfl))), ip_Mc_RX1.1, ip_Mc_RX1.2, plainFor_of_name (x := ip_nm 16) ip_Mp_RX1, rfl⟩
set_option maxRecDepth 100000 in
theorem ip_mw17 : ip_Mok 17 := ⟨(ip_t4 (ip_v4_3 (List.mem_of_getElem? (l := ip_u4_3.1) (i := 30) rfl))), ip_Mc_RX1.1, ip_Mc_RX1.2, plainFor_of_name (x := ip_nm 17) ip_Mp_RX1, rfl⟩
set_option maxRecDepth 100000 in
theorem ip_mw18 : ip_Mok 18 := ⟨(ip_t3 (ip_v3_1 (List.mem_of_getElem? (l := ip_u3_1.1) (i := 21) rfl))), ip_Mc_RX1.1, ip_Mc_RX1.2, plainFor_of_name (x := ip_nm 18) ip_Mp_RX1, rfl⟩
set_option maxRecDepth 100000 in
theorem ip_mw19 : ip_Mok 19 := ⟨(ip_t3 (ip_v3_1 (List.mem_of_getElem? (l := ip_u3_1.1) (i := 24) rfl))), ip_Mc_RX1.1, ip_Mc_RX1.2, plainFor_of_name (x := ip_nm 19) ip_Mp_RX1, rfl⟩
set_option maxRecDepth 100000 in
theorem ip_mw20 : ip_Mok 20 := ⟨(ip_t3 (ip_v3_2 (List.mem_of_getElem? (l := ip_u3_2.1) (i := 1) rfl))), ip_Mc_RX1.1, ip_Mc_RX1.2, plainFor_of_name (x := ip_nm 20) ip_Mp_RX1, rfl⟩
set_option maxRecDepth 100000 in
theorem ip_mw21 : ip_Mok 21 := ⟨(ip_t2 (ip_v2_5 (List.mem_of_getElem? (l := ip_u2_5.1) (i := 13) rfl))), ip_Mc_RX1.1, ip_Mc_RX1.2, plainFor_of_name (x := ip_nm 21) ip_Mp_RX1, rfl⟩
set_option maxRecDepth 100000 in
theorem ip_mw22 : ip_Mok 22 := ⟨(ip_t4 (ip_v4_1 (List.mem_of_getElem? (l := ip_u4_1.1) (i := 22) rfl))), ip_Mc_RX1.1, ip_Mc_RX1.2, plainFor_of_name (x := ip_nm 22) ip_Mp_RX1, rfl⟩
set_option maxRecDepth 100000 in
theorem ip_mw23 : ip_Mok 23 := ⟨(ip_t3 (ip_v3_3 (List.mem_of_getElem? (l := ip_u3_3.1) (i := 6) rfl))), ip_Mc_RX1.1, ip_Mc_RX1.2, plainFor_of_name (x := ip_nm 23) ip_Mp_RX1, rfl⟩
set_option maxRecDepth 100000 in
theorem ip_mw24 : ip_Mok 24 := ⟨(ip_t3 (ip_v3_3 (List.mem_of_getElem? (l := ip_u3_3.1) (i := 10) rfl))), ip_Mc_RX1.1, ip_Mc_RX1.2, plainFor_of_name (x := ip_nm 24) ip_Mp_RX1, rfl⟩
set_option maxRecDepth 100000 in
theorem ip_mw25 : ip_Mok 25 := ⟨(ip_t3 (ip_v3_2 (List.mem_of_getElem? (l := ip_u3_2.1) (i := 30) rfl))), ip_Mc_RX1.1, ip_Mc_RX1.2, plainFor_of_name (x := ip_nm 25) ip_Mp_RX1, rfl⟩
set_option maxRecDepth 100000 in
theorem ip_mw26 : ip_Mok 26 := ⟨(ip_t3 (ip_v3_3 (List.mem_of_getElem? (l := ip_u3_3.1) (i := 14) rfl))), ip_Mc_RX1.1, ip_Mc_RX1.2, plainFor_of_name (x := ip_nm 26) ip_Mp_RX1, rfl⟩
set_option maxRecDepth 100000 in
theorem ip_mw27 : ip_Mok 27 := ⟨(ip_t3 (ip_v3_4 (List.mem_of_getElem? (l := ip_u3_4.1) (i := 28) rfl))), ip_Mc_RX1.1, ip_Mc_RX1.2, plainFor_of_name (x := ip_nm 27) ip_Mp_RX1, rfl⟩
set_option maxRecDepth 100000 in
theorem ip_mw28 : ip_Mok 28 := ⟨(ip_t3 (ip_v3_2 (List.mem_of_getElem? (l := ip_u3_2.1) (i := 7) rfl))), ip_Mc_RX1.1, ip_Mc_RX1.2, plainFor_of_name (x := ip_nm 28) ip_Mp_RX1, rfl⟩
set_option maxRecDepth 100000 in
theorem ip_mw29 : ip_Mok 29 := ⟨(ip_t3 (ip_v3_5 (List.mem_of_getElem? (l := ip_u3_5.1) (i := 0) rfl))), ip_Mc_RX1.1, ip_Mc_RX1.2, plainFor_of_name (x := ip_nm 29) ip_Mp_RX1, rfl⟩
set_option maxRecDepth 100000 in
theorem ip_mw30 : ip_Mok 30 := ⟨(ip_t3 (ip_v3_5 (List.mem_of_getElem? (l := ip_u3_5.1) (i := 4) rfl))), ip_Mc_RX1.1, ip_Mc_RX1.2, plainFor_of_name (x := ip_nm 30) ip_Mp_RX1, rfl⟩
set_option maxRecDepth 100000 in
theorem ip_mw31 : ip_Mok 31 := ⟨(ip_t5 (ip_v5_1 (List.mem_of_getElem? (l := ip_u5_1.1) (i := 25) rfl))), ip_Mc_RX1.1, ip_Mc_RX1.2, plainFor_of_name (x := ip_nm 31) ip_Mp_RX1, rfl⟩
set_option maxRecDepth 100000 in
theorem ip_mw32 : ip_Mok 32 := ⟨(ip_t5 (ip_v5_2 (List.mem_of_getElem? (l := ip_u5_2.1) (i := 2) rfl))), ip_Mc_RX1.1, ip_Mc_RX1.2, plainFor_of_name (x := ip_nm 32) ip_Mp_RX1, rfl⟩
set_option maxRecDepth 100000 in
theorem ip_mw33 : ip_Mok 33 := ⟨(ip_t4 (ip_v4_6 (List.mem_of_getElem? (l := ip_u4_6.1) (i := 24) rfl))), ip_Mc_RX1.1, ip_Mc_RX1.2, plainFor_of_name (x := ip_nm 33) ip_Mp_RX1, rfl⟩
set_option maxRecDepth 100000 in
theorem ip_mw34 : ip_Mok 34 := ⟨(ip_t4 (ip_v4_7 (List.mem_of_getElem? (l := ip_u4_7.1) (i := 2) rfl))), ip_Mc_RX1.1, ip_Mc_RX1.2, plainFor_of_name (x := ip_nm 34) ip_Mp_RX1, rfl⟩
set_option maxRecDepth 100000 in
theorem ip_mw35 : ip_Mok 35 := ⟨(ip_t4 (ip_v4_7 (List.mem_of_getElem? (l := ip_u4_7.1) (i := 5) rfl))), ip_Mc_RX1.1, ip_Mc_RX1.2, plainFor_of_name (x := ip_nm 35) ip_Mp_RX1, rfl⟩
set_option maxRecDepth 100000 in
theorem ip_mw36 : ip_Mok 36 := ⟨(ip_t5 (ip_v5_0 (List.mem_of_getElem? (l := ip_u5_0.1) (i := 23) rfl))), ip_Mc_RX1.1, ip_Mc_RX1.2, plainFor_of_name (x := ip_nm 36) ip_Mp_RX1, rfl⟩
set_option maxRecDepth 100000 in
theorem ip_mw37 : ip_Mok 37 := ⟨(ip_t5 (ip_v5_0 (List.mem_of_getElem? (l := ip_u5_0.1) (i := 11) rfl))), ip_Mc_RX1.1, ip_Mc_RX1.2, plainFor_of_name (x := ip_nm 37) ip_Mp_RX1, rfl⟩
set_option maxRecDepth 100000 in
theorem ip_mw38 : ip_Mok 38 := ⟨(ip_t1 (ip_v1_0 (List.mem_of_getElem? (l := ip_u1_0.1) (i := 27) rfl))), ip_Mc_RX2.1, ip_Mc_RX2.2, plainFor_of_name (x := ip_nm 38) ip_Mp_RX2, rfl⟩
set_option maxRecDepth 100000 in
theorem ip_mw39 : ip_Mok 39 := ⟨(ip_t2 (ip_v2_3 (List.mem_of_getElem? (l := ip_u2_3.1) (i := 12) rfl))), ip_Mc_RX2.1, ip_Mc_RX2.2, plainFor_of_name (x := ip_nm 39) ip_Mp_RX2, rfl⟩
set_option maxRecDepth 100000 in
theorem ip_mw40 : ip_Mok 40 := ⟨(ip_t2 (ip_v2_3 (List.mem_of_getElem? (l := ip_u2_3.1) (i := 21) rfl))), ip_Mc_RX2.1, ip_Mc_RX2.2, plainFor_of_name (x := ip_nm 40) ip_Mp_RX2, rfl⟩
set_option maxRecDepth 100000 in
theorem ip_mw41 : ip_Mok 41 := ⟨(ip_t2 (ip_v2_3 (List.mem_of_getElem? (l := ip_u2_3.1) (i := 24) rfl))), ip_Mc_RX2.1, ip_Mc_RX2.2, plainFor_of_name (x := ip_nm 41) ip_Mp_RX2, rfl⟩
set_option maxRecDepth 100000 in
theorem ip_mw42 : ip_Mok 42 := ⟨(ip_t2 (ip_v2_5 (List.mem_of_getElem? (l := ip_u2_5.1) (i := 2) rfl))), ip_Mc_RX2.1, ip_Mc_RX2.2, plainFor_of_name (x := ip_nm 42) ip_Mp_RX2, rfl⟩
set_option maxRecDepth 100000 in
theorem ip_mw43 : ip_Mok 43 := ⟨(ip_t2 (ip_v2_5 (List.mem_of_getElem? (l := ip_u2_5.1) (i := 17) rfl))), ip_Mc_RX2.1, ip_Mc_RX2.2, plainFor_of_name (x := ip_nm 43) ip_Mp_RX2, rfl⟩
set_option maxRecDepth 100000 in
theorem ip_mw44 : ip_Mok 44 := ⟨(ip_t3 (ip_v3_0 (List.mem_of_getElem? (l := ip_u3_0.1) (i := 17) rfl))), ip_Mc_RX2.1, ip_Mc_RX2.2, plainFor_of_name (x := ip_nm 44) ip_Mp_RX2, rfl⟩
set_option maxRecDepth 100000 in
theorem ip_mw45 : ip_Mok 45 := ⟨(ip_t2 (ip_v2_6 (List.mem_of_getElem? (l := ip_u2_6.1) (i := 15) rfl))), ip_Mc_RX2.1, ip_Mc_RX2.2, plainFor_of_name (x := ip_nm 45) ip_Mp_RX2, rfl⟩
set_option maxRecDepth 100000 in
theorem ip_mw46 : ip_Mok 46 := ⟨(ip_t3 (ip_v3_1 (List.mem_of_getElem? (l := ip_u3_1.1) (i := 28) rfl))), ip_Mc_RX2.1, ip_Mc_RX2.2, plainFor_of_name (x := ip_nm 46) ip_Mp_RX2, rfl⟩
set_option maxRecDepth 100000 in
theorem ip_mw47 : ip_Mok 47 := ⟨(ip_t2 (ip_v2_6 (List.mem_of_getElem? (l := ip_u2_6.1) (i := 11) rfl))), ip_Mc_RX2.1, ip_Mc_RX2.2, plainFor_of_name (x := ip_nm 47) ip_Mp_RX2, rfl⟩
set_option maxRecDepth 100000 in
theorem ip_mw48 : ip_Mok 48 := ⟨(ip_t3 (ip_v3_3 (List.mem_of_getElem? (l := ip_u3_3.1) (i := 31) rfl))), ip_Mc_RX2.1, ip_Mc_RX2.2, plainFor_of_name (x := ip_nm 48) ip_Mp_RX2, rfl⟩
set_option maxRecDepth 100000 in
theorem ip_mw49 : ip_Mok 49 := ⟨(ip_t2 (ip_v2_6 (List.mem_of_getElem? (l := ip_u2_6.1) (i := 7) rfl))), ip_Mc_RX2.1, ip_Mc_RX2.2, plainFor_of_name (x := ip_nm 49) ip_Mp_RX2, rfl⟩
set_option maxRecDepth 100000 in
theorem ip_mw50 : ip_Mok 50 := ⟨(ip_t3 (ip_v3_0 (List.mem_of_getElem? (l := ip_u3_0.1) (i := 8) rfl))), ip_Mc_RX2.1, ip_Mc_RX2.2, plainFor_of_name (x := ip_nm 50) ip_Mp_RX2, rfl⟩
set_option maxRecDepth 100000 in
theorem ip_mw51 : ip_Mok 51 := ⟨(ip_t3 (ip_v3_0 (List.mem_of_getElem? (l := ip_u3_0.1) (i := 13) rfl))), ip_Mc_RX2.1, ip_Mc_RX2.2, plainFor_of_name (x := ip_nm 51) ip_Mp_RX2, rfl⟩
set_option maxRecDepth 100000 in
theorem ip_mw52 : ip_Mok 52 := ⟨(ip_t3 (ip_v3_1 (List.mem_of_getElem? (l := ip_u3_1.1) (i := 4) rfl))), ip_Mc_RX2.1, ip_Mc_RX2.2, plainFor_of_name (x := ip_nm 52) ip_Mp_RX2, rfl⟩
set_option maxRecDepth 100000 in
theorem ip_mw53 : ip_Mok 53 := ⟨(ip_t4 (ip_v4_0 (List.mem_of_getElem? (l := ip_u4_0.1) (i := 28) rfl))), ip_Mc_RX2.1, ip_Mc_RX2.2, plainFor_of_name (x := ip_nm 53) ip_Mp_RX2, rfl⟩
set_option maxRecDepth 100000 in
theorem ip_mw54 : ip_Mok 54 := ⟨(ip_t1 (ip_v1_6 (List.mem_of_getElem? (l := ip_u1_6.1) (i := 18) rfl))), ip_Mc_RX3.1, ip_Mc_RX3.2, plainFor_of_name (x := ip_nm 54) ip_Mp_RX3, rfl⟩
set_option maxRecDepth 100000 in
theorem ip_mw55 : ip_Mok 55 := ⟨(ip_t2 (ip_v2_4 (List.mem_of_getElem? (l := ip_u2_4.1) (i := 3) rfl))), ip_Mc_RX3.1, ip_Mc_RX3.2, plainFor_of_name (x := ip_nm 55) ip_Mp_RX3, rfl⟩
set_option maxRecDepth 100000 in
theorem ip_mw56 : ip_Mok 56 := ⟨(ip_t4 (ip_v4_1 (List.mem_of_getElem? (l := ip_u4_1.1) (i := 11) rfl))), ip_Mc_RX3.1, ip_Mc_RX3.2, plainFor_of_name (x := ip_nm 56) ip_Mp_RX3, rfl⟩
set_option maxRecDepth 100000 in
theorem ip_mw57 : ip_Mok 57 := ⟨(ip_t4 (ip_v4_1 (List.mem_of_getElem? (l := ip_u4_1.1) (i := 29) rfl))), ip_Mc_RX3.1, ip_Mc_RX3.2, plainFor_of_name (x := ip_nm 57) ip_Mp_RX3, rfl⟩
set_option maxRecDepth 100000 in
theorem ip_mw58 : ip_Mok 58 := ⟨(ip_t4 (ip_v4_2 (List.mem_of_getElem? (l := ip_u4_2.1) (i := 13) rfl))), ip_Mc_RX3.1, ip_Mc_RX3.2, plainFor_of_name (x := ip_nm 58) ip_Mp_RX3, rfl⟩
set_option maxRecDepth 100000 in
theorem ip_mw59 : ip_Mok 59 := ⟨(ip_t2 (ip_v2_4 (List.mem_of_getElem? (l := ip_u2_4.1) (i := 7) rfl))), ip_Mc_RX3.1, ip_Mc_RX3.2, plainFor_of_name (x := ip_nm 59) ip_Mp_RX3, rfl⟩
set_option maxRecDepth 100000 in
theorem ip_mw60 : ip_Mok 60 := ⟨(ip_t1 (ip_v1_1 (List.mem_of_getElem? (l := ip_u1_1.1) (i := 1) rfl))), ip_Mc_RX4.1, ip_Mc_RX4.2, plainFor_of_name (x := ip_nm 60) ip_Mp_RX4, rfl⟩
set_option maxRecDepth 100000 in
theorem ip_mw61 : ip_Mok 61 := ⟨(ip_t3 (ip_v3_0 (List.mem_of_getElem? (l := ip_u3_0.1) (i := 24) rfl))), ip_Mc_RX4.1, ip_Mc_RX4.2, plainFor_of_name (x := ip_nm 61) ip_Mp_RX4, rfl⟩
set_option maxRecDepth 100000 in
theorem ip_mw62 : ip_Mok 62 := ⟨(ip_t3 (ip_v3_1 (List.mem_of_getElem? (l := ip_u3_1.1) (i := 0) rfl))), ip_Mc_RX4.1, ip_Mc_RX4.2, plainFor_of_name (x := ip_nm 62) ip_Mp_RX4, rfl⟩
set_option maxRecDepth 100000 in
theorem ip_mw63 : ip_Mok 63 := ⟨(ip_t3 (ip_v3_0 (List.mem_of_getElem? (l := ip_u3_0.1) (i := 21) rfl))), ip_Mc_RX4.1, ip_Mc_RX4.2, plainFor_of_name (x := ip_nm 63) ip_Mp_RX4, rfl⟩
set_option maxRecDepth 100000 in
theorem ip_mw64 : ip_Mok 64 := ⟨(ip_t3 (ip_v3_2 (List.mem_of_getElem? (l := ip_u3_2.1) (i := 12) rfl))), ip_Mc_RX4.1, ip_Mc_RX4.2, plainFor_of_name (x := ip_nm 64) ip_Mp_RX4, rfl⟩
set_option maxRecDepth 100000 in
theorem ip_mw65 : ip_Mok 65 := ⟨(ip_t3 (ip_v3_4 (List.mem_of_getElem? (l := ip_u3_4.1) (i := 7) rfl))), ip_Mc_RX4.1, ip_Mc_RX4.2, plainFor_of_name (x := ip_nm 65) ip_Mp_RX4, rfl⟩
set_option maxRecDepth 100000 in
theorem ip_mw66 : ip_Mok 66 := ⟨(ip_t3 (ip_v3_4 (List.mem_of_getElem? (l := ip_u3_4.1) (i := 12) rfl))), ip_Mc_RX4.1, ip_Mc_RX4.2, plainFor_of_name (x := ip_nm 66) ip_Mp_RX4, rfl⟩
set_option maxRecDepth 100000 in
theorem ip_mw67 : ip_Mok 67 := ⟨(ip_t3 (ip_v3_4 (List.mem_of_getElem? (l := ip_u3_4.1) (i := 20) rfl))), ip_Mc_RX4.1, ip_Mc_RX4.2, plainFor_of_name (x := ip_nm 67) ip_Mp_RX4, rfl⟩
set_option maxRecDepth 100000 in
theorem ip_mw68 : ip_Mok 68 := ⟨(ip_t3 (ip_v3_4 (List.mem_of_getElem? (l := ip_u3_4.1) (i := 15) rfl))), ip_Mc_RX4.1, ip_Mc_RX4.2, plainFor_of_name (x := ip_nm 68) ip_Mp_RX4, rfl⟩
set_option maxRecDepth 100000 in
theorem ip_mw69 : ip_Mok 69 := ⟨(ip_t3 (ip_v3_4 (List.mem_of_getElem? (l := ip_u3_4.1) (i := 24) rfl))), ip_Mc_RX4.1, ip_Mc_RX4.2, plainFor_of_name (x := ip_nm 69) ip_Mp_RX4, rfl⟩
set_option maxRecDepth 100000 in
theorem ip_mw70 : ip_Mok 70 := ⟨(ip_t4 (ip_v4_0 (List.mem_of_getElem? (l := ip_u4_0.1) (i := 23) rfl))), ip_Mc_RX4.1, ip_Mc_RX4.2, plainFor_of_name (x := ip_nm 70) ip_Mp_RX4, rfl⟩
set_option maxRecDepth 100000 in
theorem ip_mw71 : ip_Mok 71 := ⟨(ip_t3 (ip_v3_1 (List.mem_of_getElem? (l := ip_u3_1.1) (i := 12) rfl))), ip_Mc_RX4.1, ip_Mc_RX4.2, plainFor_of_name (x := ip_nm 71) ip_Mp_RX4, rfl⟩
set_option maxRecDepth 100000 in
theorem ip_mw72 : ip_Mok 72 := ⟨(ip_t3 (ip_v3_1 (List.mem_of_getElem? (l := ip_u3_1.1) (i := 8) rfl))), ip_Mc_RX4.1, ip_Mc_RX4.2, plainFor_of_name (x := ip_nm 72) ip_Mp_RX4, rfl⟩
set_option maxRecDepth 100000 in
theorem ip_mw73 : ip_Mok 73 := ⟨(ip_t3 (ip_v3_0 (List.mem_of_getElem? (l := ip_u3_0.1) (i := 28) rfl))), ip_Mc_RX4.1, ip_Mc_RX4.2, plainFor_of_name (x := ip_nm 73) ip_Mp_RX4, rfl⟩
set_option maxRecDepth 100000 in
theorem ip_mw74 : ip_Mok 74 := ⟨(ip_t1 (ip_v1_6 (List.mem_of_getElem? (l := ip_u1_6.1) (i := 25) rfl))), ip_Mc_RX5.1, ip_Mc_RX5.2, plainFor_of_name (x := ip_nm 74) ip_Mp_RX5, rfl⟩
set_option maxRecDepth 100000 in
theorem ip_mw75 : ip_Mok 75 := ⟨(ip_t2 (ip_v2_4 (List.mem_of_getElem? (l := ip_u2_4.1) (i := 14) rfl))), ip_Mc_RX5.1, ip_Mc_RX5.2, plainFor_of_name (x := ip_nm 75) ip_Mp_RX5, rfl⟩
set_option maxRecDepth 100000 in
theorem ip_mw76 : ip_Mok 76 := ⟨(ip_t4 (ip_v4_1 (List.mem_of_getElem? (l := ip_u4_1.1) (i := 15) rfl))), ip_Mc_RX5.1, ip_Mc_RX5.2, plainFor_of_name (x := ip_nm 76) ip_Mp_RX5, rfl⟩
set_option maxRecDepth 100000 in
theorem ip_mw77 : ip_Mok 77 := ⟨(ip_t1 (ip_v1_5 (List.mem_of_getElem? (l := ip_u1_5.1) (i := 23) rfl))), ip_Mc_RX6.1, ip_Mc_RX6.2, plainFor_of_name (x := ip_nm 77) ip_Mp_RX6, rfl⟩
set_option maxRecDepth 100000 in
theorem ip_mw78 : ip_Mok 78 := ⟨(ip_t3 (ip_v3_5 (List.mem_of_getElem? (l := ip_u3_5.1) (i := 26) rfl))), ip_Mc_RX6.1, ip_Mc_RX6.2, plainFor_of_name (x := ip_nm 78) ip_Mp_RX6, rfl⟩
set_option maxRecDepth 100000 in
theorem ip_mw79 : ip_Mok 79 := ⟨(ip_t3 (ip_v3_5 (List.mem_of_getElem? (l := ip_u3_5.1) (i := 30) rfl))), ip_Mc_RX6.1, ip_Mc_RX6.2, plainFor_of_name (x := ip_nm 79) ip_Mp_RX6, rfl⟩
set_option maxRecDepth 100000 in
theorem ip_mw80 : ip_Mok 80 := ⟨(ip_t3 (ip_v3_6 (List.mem_of_getElem? (l := ip_u3_6.1) (i := 7) rfl))), ip_Mc_RX6.1, ip_Mc_RX6.2, plainFor_of_name (x := ip_nm 80) ip_Mp_RX6, rfl⟩
set_option maxRecDepth 100000 in
theorem ip_mw81 : ip_Mok 81 := ⟨(ip_t3 (ip_v3_6 (List.mem_of_getElem? (l := ip_u3_6.1) (i := 15) rfl))), ip_Mc_RX6.1, ip_Mc_RX6.2, plainFor_of_name (x := ip_nm 81) ip_Mp_RX6, rfl⟩
set_option maxRecDepth 100000 in
theorem ip_mw82 : ip_Mok 82 := ⟨(ip_t3 (ip_v3_6 (List.mem_of_getElem? (l := ip_u3_6.1) (i := 19) rfl))), ip_Mc_RX6.1, ip_Mc_RX6.2, plainFor_of_name (x := ip_nm 82) ip_Mp_RX6, rfl⟩
set_option maxRecDepth 100000 in
theorem ip_mw83 : ip_Mok 83 := ⟨(ip_t3 (ip_v3_6 (List.mem_of_getElem? (l := ip_u3_6.1) (i := 23) rfl))), ip_Mc_RX6.1, ip_Mc_RX6.2, plainFor_of_name (x := ip_nm 83) ip_Mp_RX6, rfl⟩
set_option maxRecDepth 100000 in
theorem ip_mw84 : ip_Mok 84 := ⟨(ip_t3 (ip_v3_7 (List.mem_of_getElem? (l := ip_u3_7.1) (i := 10) rfl))), ip_Mc_RX6.1, ip_Mc_RX6.2, plainFor_of_name (x := ip_nm 84) ip_Mp_RX6, rfl⟩
set_option maxRecDepth 100000 in
theorem ip_mw85 : ip_Mok 85 := ⟨(ip_t3 (ip_v3_6 (List.mem_of_getElem? (l := ip_u3_6.1) (i := 27) rfl))), ip_Mc_RX6.1, ip_Mc_RX6.2, plainFor_of_name (x := ip_nm 85) ip_Mp_RX6, rfl⟩
set_option maxRecDepth 100000 in
theorem ip_mw86 : ip_Mok 86 := ⟨(ip_t3 (ip_v3_7 (List.mem_of_getElem? (l := ip_u3_7.1) (i := 3) rfl))), ip_Mc_RX6.1, ip_Mc_RX6.2, plainFor_of_name (x := ip_nm 86) ip_Mp_RX6, rfl⟩
set_option maxRecDepth 100000 in
theorem ip_mw87 : ip_Mok 87 := ⟨(ip_t3 (ip_v3_6 (List.mem_of_getElem? (l := ip_u3_6.1) (i := 31) rfl))), ip_Mc_RX6.1, ip_Mc_RX6.2, plainFor_of_name (x := ip_nm 87) ip_Mp_RX6, rfl⟩
set_option maxRecDepth 100000 in
theorem ip_mw88 : ip_Mok 88 := ⟨(ip_t2 (ip_v2_1 (List.mem_of_getElem? (l := ip_u2_1.1) (i := 1) rfl))), ip_Mc_RX7.1, ip_Mc_RX7.2, plainFor_of_name (x := ip_nm 88) ip_Mp_RX7, rfl⟩
set_option maxRecDepth 100000 in
theorem ip_mw89 : ip_Mok 89 := ⟨(ip_t2 (ip_v2_3 (List.mem_of_getElem? (l := ip_u2_3.1) (i := 18) rfl))), ip_Mc_RX7.1, ip_Mc_RX7.2, plainFor_of_name (x := ip_nm 89) ip_Mp_RX7, rfl⟩
set_option maxRecDepth 100000 in
theorem ip_mw90 : ip_Mok 90 := ⟨(ip_t2 (ip_v2_5 (List.mem_of_getElem? (l := ip_u2_5.1) (i := 21) rfl))), ip_Mc_RX7.1, ip_Mc_RX7.2, plainFor_of_name (x := ip_nm 90) ip_Mp_RX7, rfl⟩
set_option maxRecDepth 100000 in
theorem ip_mw91 : ip_Mok 91 := ⟨(ip_t5 (ip_v5_2 (List.mem_of_getElem? (l := ip_u5_2.1) (i := 6) rfl))), ip_Mc_RX7.1, ip_Mc_RX7.2, plainFor_of_name (x := ip_nm 91) ip_Mp_RX7, rfl⟩
set_option maxRecDepth 100000 in
theorem ip_mw92 : ip_Mok 92 := ⟨(ip_t1 (ip_v1_1 (List.mem_of_getElem? (l := ip_u1_1.1) (i := 12) rfl))), ip_Mc_RX8.1, ip_Mc_RX8.2, plainFor_of_name (x := ip_nm 92) ip_Mp_RX8, rfl⟩
set_option maxRecDepth 100000 in
theorem ip_mw93 : ip_Mok 93 := ⟨(ip_t2 (ip_v2_5 (List.mem_of_getElem? (l := ip_u2_5.1) (i := 6) rfl))), ip_Mc_RX8.1, ip_Mc_RX8.2, plainFor_of_name (x := ip_nm 93) ip_Mp_RX8, rfl⟩
set_option maxRecDepth 100000 in
theorem ip_mw94 : ip_Mok 94 := ⟨(ip_t2 (ip_v2_6 (List.mem_of_getElem? (l := ip_u2_6.1) (i := 23) rfl))), ip_Mc_RX8.1, ip_Mc_RX8.2, plainFor_of_name (x := ip_nm 94) ip_Mp_RX8, rfl⟩
set_option maxRecDepth 100000 in
theorem ip_mw95 : ip_Mok 95 := ⟨(ip_t2 (ip_v2_7 (List.mem_of_getElem? (l := ip_u2_7.1) (i := 8) rfl))), ip_Mc_RX8.1, ip_Mc_RX8.2, plainFor_of_name (x := ip_nm 95) ip_Mp_RX8, rfl⟩
set_option maxRecDepth 100000 in
theorem ip_mw96 : ip_Mok 96 := ⟨(ip_t3 (ip_v3_3 (List.mem_of_getElem? (l := ip_u3_3.1) (i := 22) rfl))), ip_Mc_RX8.1, ip_Mc_RX8.2, plainFor_of_name (x := ip_nm 96) ip_Mp_RX8, rfl⟩
set_option maxRecDepth 100000 in
theorem ip_mw97 : ip_Mok 97 := ⟨(ip_t2 (ip_v2_4 (List.mem_of_getElem? (l := ip_u2_4.1) (i := 18) rfl))), ip_Mc_RX8.1, ip_Mc_RX8.2, plainFor_of_name (x := ip_nm 97) ip_Mp_RX8, rfl⟩
set_option maxRecDepth 100000 in
theorem ip_mw98 : ip_Mok 98 := ⟨(ip_t3 (ip_v3_3 (List.mem_of_getElem? (l := ip_u3_3.1) (i := 27) rfl))), ip_Mc_RX8.1, ip_Mc_RX8.2, plainFor_of_name (x := ip_nm 98) ip_Mp_RX8, rfl⟩
set_option maxRecDepth 100000 in
theorem ip_mw99 : ip_Mok 99 := ⟨(ip_t2 (ip_v2_7 (List.mem_of_getElem? (l := ip_u2_7.1) (i := 0) rfl))), ip_Mc_RX8.1, ip_Mc_RX8.2, plainFor_of_name (x := ip_nm 99) ip_Mp_RX8, rfl⟩
set_option maxRecDepth 100000 in
theorem ip_mw100 : ip_Mok 100 := ⟨(ip_t2 (ip_v2_7 (List.mem_of_getElem? (l := ip_u2_7.1) (i := 3) rfl))), ip_Mc_RX8.1, ip_Mc_RX8.2, plainFor_of_name (x := ip_nm 100) ip_Mp_RX8, rfl⟩
set_option maxRecDepth 100000 in
theorem ip_mw101 : ip_Mok 101 := ⟨(ip_t3 (ip_v3_0 (List.mem_of_getElem? (l := ip_u3_0.1) (i := 0) rfl))), ip_Mc_RX8.1, ip_Mc_RX8.2, plainFor_of_name (x := ip_nm 101) ip_Mp_RX8, rfl⟩
set_option maxRecDepth 100000 in
theorem ip_mw102 : ip_Mok 102 := ⟨(ip_t4 (ip_v4_2 (List.mem_of_getElem? (l := ip_u4_2.1) (i := 23) rfl))), ip_Mc_RX8.1, ip_Mc_RX8.2, plainFor_of_name (x := ip_nm 102) ip_Mp_RX8, rfl⟩
set_option maxRecDepth 100000 in
theorem ip_mw103 : ip_Mok 103 := ⟨(ip_t1 (ip_v1_5 (List.mem_of_getElem? (l := ip_u1_5.1) (i := 8) rfl))), ip_Mc_RX9.1, ip_Mc_RX9.2, plainFor_of_name (x := ip_nm 103) ip_Mp_RX9, rfl⟩
set_option maxRecDepth 100000 in
theorem ip_mw104 : ip_Mok 104 := ⟨(ip_t3 (ip_v3_7 (List.mem_of_getElem? (l := ip_u3_7.1) (i := 14) rfl))), ip_Mc_RX9.1, ip_Mc_RX9.2, plainFor_of_name (x := ip_nm 104) ip_Mp_RX9, rfl⟩
set_option maxRecDepth 100000 in
theorem ip_mw105 : ip_Mok 105 := ⟨(ip_t2 (ip_v2_4 (List.mem_of_getElem? (l := ip_u2_4.1) (i := 22) rfl))), ip_Mc_RX9.1, ip_Mc_RX9.2, plainFor_of_name (x := ip_nm 105) ip_Mp_RX9, rfl⟩
set_option maxRecDepth 100000 in
theorem ip_mw106 : ip_Mok 106 := ⟨(ip_t4 (ip_v4_0 (List.mem_of_getElem? (l := ip_u4_0.1) (i := 12) rfl))), ip_Mc_RX9.1, ip_Mc_RX9.2, plainFor_of_name (x := ip_nm 106) ip_Mp_RX9, rfl⟩
set_option maxRecDepth 100000 in
theorem ip_mw107 : ip_Mok 107 := ⟨(ip_t4 (ip_v4_0 (List.mem_of_getElem? (l := ip_u4_0.1) (i := 7) rfl))), ip_Mc_RX9.1, ip_Mc_RX9.2, plainFor_of_name (x := ip_nm 107) ip_Mp_RX9, rfl⟩
set_option maxRecDepth 100000 in
theorem ip_mw108 : ip_Mok 108 := ⟨(ip_t5 (ip_v5_1 (List.mem_of_getElem? (l := ip_u5_1.1) (i := 12) rfl))), ip_Mc_RX9.1, ip_Mc_RX9.2, plainFor_of_name (x := ip_nm 108) ip_Mp_RX9, rfl⟩
set_option maxRecDepth 100000 in
theorem ip_mw109 : ip_Mok 109 := ⟨(ip_t1 (ip_v1_0 (List.mem_of_getElem? (l := ip_u1_0.1) (i := 19) rfl))), ip_Mc_RX10.1, ip_Mc_RX10.2, plainFor_of_name (x := ip_nm 109) ip_Mp_RX10, rfl⟩
set_option maxRecDepth 100000 in
theorem ip_mw110 : ip_Mok 110 := ⟨(ip_t2 (ip_v2_3 (List.mem_of_getElem? (l := ip_u2_3.1) (i := 9) rfl))), ip_Mc_RX10.1, ip_Mc_RX10.2, plainFor_of_name (x := ip_nm 110) ip_Mp_RX10, rfl⟩
set_option maxRecDepth 100000 in
theorem ip_mw111 : ip_Mok 111 := ⟨(ip_t2 (ip_v2_5 (List.mem_of_getElem? (l := ip_u2_5.1) (i := 25) rfl))), ip_Mc_RX10.1, ip_Mc_RX10.2, plainFor_of_name (x := ip_nm 111) ip_Mp_RX10, rfl⟩
set_option maxRecDepth 100000 in
theorem ip_mw112 : ip_Mok 112 := ⟨(ip_t2 (ip_v2_5 (List.mem_of_getElem? (l := ip_u2_5.1) (i := 29) rfl))), ip_Mc_RX10.1, ip_Mc_RX10.2, plainFor_of_name (x := ip_nm 112) ip_Mp_RX10, rfl⟩
set_option maxRecDepth 100000 in
theorem ip_mw113 : ip_Mok 113 := ⟨(ip_t2 (ip_v2_6 (List.mem_of_getElem? (l := ip_u2_6.1) (i := 19) rfl))), ip_Mc_RX10.1, ip_Mc_RX10.2, plainFor_of_name (x := ip_nm 113) ip_Mp_RX10, rfl⟩
set_option maxRecDepth 100000 in
theorem ip_mw114 : ip_Mok 114 := ⟨(ip_t2 (ip_v2_7 (List.mem_of_getElem? (l := ip_u2_7.1) (i := 12) rfl))), ip_Mc_RX10.1, ip_Mc_RX10.2, plainFor_of_name (x := ip_nm 114) ip_Mp_RX10, rfl⟩
set_option maxRecDepth 100000 in
theorem ip_mw115 : ip_Mok 115 := ⟨(ip_t3 (ip_v3_1 (List.mem_of_getElem? (l := ip_u3_1.1) (i := 18) rfl))), ip_Mc_RX10.1, ip_Mc_RX10.2, plainFor_of_name (x := ip_nm 115) ip_Mp_RX10, rfl⟩
set_option maxRecDepth 100000 in
theorem ip_mw116 : ip_Mok 116 := ⟨(ip_t3 (ip_v3_2 (List.mem_of_getElem? (l := ip_u3_2.1) (i := 26) rfl))), ip_Mc_RX10.1, ip_Mc_RX10.2, plainFor_of_name (x := ip_nm 116) ip_Mp_RX10, rfl⟩
set_option maxRecDepth 100000 in
theorem ip_mw117 : ip_Mok 117 := ⟨(ip_t3 (ip_v3_5 (List.mem_of_getElem? (l := ip_u3_5.1) (i := 8) rfl))), ip_Mc_RX10.1, ip_Mc_RX10.2, plainFor_of_name (x := ip_nm 117) ip_Mp_RX10, rfl⟩
set_option maxRecDepth 100000 in
theorem ip_mw118 : ip_Mok 118 := ⟨(ip_t3 (ip_v3_5 (List.mem_of_getElem? (l := ip_u3_5.1) (i := 16) rfl))), ip_Mc_RX10.1, ip_Mc_RX10.2, plainFor_of_name (x := ip_nm 118) ip_Mp_RX10, rfl⟩
set_option maxRecDepth 100000 in
theorem ip_mw119 : ip_Mok 119 := ⟨(ip_t3 (ip_v3_5 (List.mem_of_getElem? (l := ip_u3_5.1) (i := 22) rfl))), ip_Mc_RX10.1, ip_Mc_RX10.2, plainFor_of_name (x := ip_nm 119) ip_Mp_RX10, rfl⟩
set_option maxRecDepth 100000 in
theorem ip_mw120 : ip_Mok 120 := ⟨(ip_t3 (ip_v3_6 (List.mem_of_getElem? (l := ip_u3_6.1) (i := 3) rfl))), ip_Mc_RX10.1, ip_Mc_RX10.2, plainFor_of_name (x := ip_nm 120) ip_Mp_RX10, rfl⟩
set_option maxRecDepth 100000 in
theorem ip_mw121 : ip_Mok 121 := ⟨(ip_t3 (ip_v3_6 (List.mem_of_getElem? (l := ip_u3_6.1) (i := 11) rfl))), ip_Mc_RX10.1, ip_Mc_RX10.2, plainFor_of_name (x := ip_nm 121) ip_Mp_RX10, rfl⟩
set_option maxRecDepth 100000 in
theorem ip_mw122 : ip_Mok 122 := ⟨(ip_t4 (ip_v4_0 (List.mem_of_getElem? (l := ip_u4_0.1) (i := 3) rfl))), ip_Mc_RX10.1, ip_Mc_RX10.2, plainFor_of_name (x := ip_nm 122) ip_Mp_RX10, rfl⟩
set_option maxRecDepth 100000 in
theorem ip_mw123 : ip_Mok 123 := ⟨(ip_t4 (ip_v4_1 (List.mem_of_getElem? (l := ip_u4_1.1) (i := 3) rfl))), ip_Mc_RX10.1, ip_Mc_RX10.2, plainFor_of_name (x := ip_nm 123) ip_Mp_RX10, rfl⟩
set_option maxRecDepth 100000 in
theorem ip_mw124 : ip_Mok 124 := ⟨(ip_t4 (ip_v4_1 (List.mem_of_getElem? (l := ip_u4_1.1) (i := 7) rfl))), ip_Mc_RX10.1, ip_Mc_RX10.2, plainFor_of_name (x := ip_nm 124) ip_Mp_RX10, rfl⟩
set_option maxRecDepth 100000 in
theorem ip_mw125 : ip_Mok 125 := ⟨(ip_t4 (ip_v4_2 (List.mem_of_getElem? (l := ip_u4_2.1) (i := 1) rfl))), ip_Mc_RX10.1, ip_Mc_RX10.2, plainFor_of_name (x := ip_nm 125) ip_Mp_RX10, rfl⟩
set_option maxRecDepth 100000 in
theorem ip_mw126 : ip_Mok 126 := ⟨(ip_t4 (ip_v4_2 (List.mem_of_getElem? (l := ip_u4_2.1) (i := 9) rfl))), ip_Mc_RX10.1, ip_Mc_RX10.2, plainFor_of_name (x := ip_nm 126) ip_Mp_RX10, rfl⟩
set_option maxRecDepth 100000 in
theorem ip_mw127 : ip_Mok 127 := ⟨(ip_t4 (ip_v4_2 (List.mem_of_getElem? (l := ip_u4_2.1) (i := 17) rfl))), ip_Mc_RX10.1, ip_Mc_RX10.2, plainFor_of_name (x := ip_nm 127) ip_Mp_RX10, rfl⟩
set_option maxRecDepth 100000 in
theorem ip_mw128 : ip_Mok 128 := ⟨(ip_t4 (ip_v4_2 (List.mem_of_getElem? (l := ip_u4_2.1) (i := 28) rfl))), ip_Mc_RX10.1, ip_Mc_RX10.2, plainFor_of_name (x := ip_nm 128) ip_Mp_RX10, rfl⟩
set_option maxRecDepth 100000 in
theorem ip_mw129 : ip_Mok 129 := ⟨(ip_t4 (ip_v4_3 (List.mem_of_getElem? (l := ip_u4_3.1) (i := 4) rfl))), ip_Mc_RX10.1, ip_Mc_RX10.2, plainFor_of_name (x := ip_nm 129) ip_Mp_RX10, rfl⟩
set_option maxRecDepth 100000 in
theorem ip_mw130 : ip_Mok 130 := ⟨(ip_t4 (ip_v4_3 (List.mem_of_getElem? (l := ip_u4_3.1) (i := 12) rfl))), ip_Mc_RX10.1, ip_Mc_RX10.2, plainFor_of_name (x := ip_nm 130) ip_Mp_RX10, rfl⟩
set_option maxRecDepth 100000 in
theorem ip_mw131 : ip_Mok 131 := ⟨(ip_t4 (ip_v4_3 (List.mem_of_getElem? (l := ip_u4_3.1) (i := 17) rfl))), ip_Mc_RX10.1, ip_Mc_RX10.2, plainFor_of_name (x := ip_nm 131) ip_Mp_RX10, rfl⟩
set_option maxRecDepth 100000 in
theorem ip_mw132 : ip_Mok 132 := ⟨(ip_t4 (ip_v4_3 (List.mem_of_getElem? (l := ip_u4_3.1) (i := 26) rfl))), ip_Mc_RX10.1, ip_Mc_RX10.2, plainFor_of_name (x := ip_nm 132) ip_Mp_RX10, rfl⟩
set_option maxRecDepth 100000 in
theorem ip_mw133 : ip_Mok 133 := ⟨(ip_t4 (ip_v4_4 (List.mem_of_getElem? (l := ip_u4_4.1) (i := 2) rfl))), ip_Mc_RX10.1, ip_Mc_RX10.2, plainFor_of_name (x := ip_nm 133) ip_Mp_RX10, rfl⟩
set_option maxRecDepth 100000 in
theorem ip_mw134 : ip_Mok 134 := ⟨(ip_t4 (ip_v4_4 (List.mem_of_getElem? (l := ip_u4_4.1) (i := 6) rfl))), ip_Mc_RX10.1, ip_Mc_RX10.2, plainFor_of_name (x := ip_nm 134) ip_Mp_RX10, rfl⟩
set_option maxRecDepth 100000 in
theorem ip_mw135 : ip_Mok 135 := ⟨(ip_t4 (ip_v4_4 (List.mem_of_getElem? (l := ip_u4_4.1) (i := 10) rfl))), ip_Mc_RX10.1, ip_Mc_RX10.2, plainFor_of_name (x := ip_nm 135) ip_Mp_RX10, rfl⟩
set_option maxRecDepth 100000 in
theorem ip_mw136 : ip_Mok 136 := ⟨(ip_t4 (ip_v4_5 (List.mem_of_getElem? (l := ip_u4_5.1) (i := 4) rfl))), ip_Mc_RX10.1, ip_Mc_RX10.2, plainFor_of_name (x := ip_nm 136) ip_Mp_RX10, rfl⟩
set_option maxRecDepth 100000 in
theorem ip_mw137 : ip_Mok 137 := ⟨(ip_t4 (ip_v4_5 (List.mem_of_getElem? (l := ip_u4_5.1) (i := 12) rfl))), ip_Mc_RX10.1, ip_Mc_RX10.2, plainFor_of_name (x := ip_nm 137) ip_Mp_RX10, rfl⟩
set_option maxRecDepth 100000 in
theorem ip_mw138 : ip_Mok 138 := ⟨(ip_t4 (ip_v4_5 (List.mem_of_getElem? (l := ip_u4_5.1) (i := 18) rfl))), ip_Mc_RX10.1, ip_Mc_RX10.2, plainFor_of_name (x := ip_nm 138) ip_Mp_RX10, rfl⟩
set_option maxRecDepth 100000 in
theorem ip_mw139 : ip_Mok 139 := ⟨(ip_t4 (ip_v4_5 (List.mem_of_getElem? (l := ip_u4_5.1) (i := 23) rfl))), ip_Mc_RX10.1, ip_Mc_RX10.2, plainFor_of_name (x := ip_nm 139) ip_Mp_RX10, rfl⟩
set_option maxRecDepth 100000 in
theorem ip_mw140 : ip_Mok 140 := ⟨(ip_t4 (ip_v4_6 (List.mem_of_getElem? (l := ip_u4_6.1) (i := 0) rfl))), ip_Mc_RX10.1, ip_Mc_RX10.2, plainFor_of_name (x := ip_nm 140) ip_Mp_RX10, rfl⟩
set_option maxRecDepth 100000 in
theorem ip_mw141 : ip_Mok 141 := ⟨(ip_t4 (ip_v4_6 (List.mem_of_getElem? (l := ip_u4_6.1) (i := 16) rfl))), ip_Mc_RX10.1, ip_Mc_RX10.2, plainFor_of_name (x := ip_nm 141) ip_Mp_RX10, rfl⟩
set_option maxRecDepth 100000 in
theorem ip_mw142 : ip_Mok 142 := ⟨(ip_t4 (ip_v4_6 (List.mem_of_getElem? (l := ip_u4_6.1) (i := 20) rfl))), ip_Mc_RX10.1, ip_Mc_RX10.2, plainFor_of_name (x := ip_nm 142) ip_Mp_RX10, rfl⟩
set_option maxRecDepth 100000 in
theorem ip_mw143 : ip_Mok 143 := ⟨(ip_t4 (ip_v4_6 (List.mem_of_getElem? (l := ip_u4_6.1) (i := 30) rfl))), ip_Mc_RX10.1, ip_Mc_RX10.2, plainFor_of_name (x := ip_nm 143) ip_Mp_RX10, rfl⟩
set_option maxRecDepth 100000 in
theorem ip_mw144 : ip_Mok 144 := ⟨(ip_t5 (ip_v5_0 (List.mem_of_getElem? (l := ip_u5_0.1) (i := 3) rfl))), ip_Mc_RX10.1, ip_Mc_RX10.2, plainFor_of_name (x := ip_nm 144) ip_Mp_RX10, rfl⟩
set_option maxRecDepth 100000 in
theorem ip_mw145 : ip_Mok 145 := ⟨(ip_t5 (ip_v5_0 (List.mem_of_getElem? (l := ip_u5_0.1) (i := 7) rfl))), ip_Mc_RX10.1, ip_Mc_RX10.2, plainFor_of_name (x := ip_nm 145) ip_Mp_RX10, rfl⟩
set_option maxRecDepth 100000 in
theorem ip_mw146 : ip_Mok 146 := ⟨(ip_t5 (ip_v5_0 (List.mem_of_getElem? (l := ip_u5_0.1) (i := 15) rfl))), ip_Mc_RX10.1, ip_Mc_RX10.2, plainFor_of_name (x := ip_nm 146) ip_Mp_RX10, rfl⟩
set_option maxRecDepth 100000 in
theorem ip_mw147 : ip_Mok 147 := ⟨(ip_t5 (ip_v5_0 (List.mem_of_getElem? (l := ip_u5_0.1) (i := 31) rfl))), ip_Mc_RX10.1, ip_Mc_RX10.2, plainFor_of_name (x := ip_nm 147) ip_Mp_RX10, rfl⟩
set_option maxRecDepth 100000 in
theorem ip_mw148 : ip_Mok 148 := ⟨(ip_t5 (ip_v5_1 (List.mem_of_getElem? (l := ip_u5_1.1) (i := 4) rfl))), ip_Mc_RX10.1, ip_Mc_RX10.2, plainFor_of_name (x := ip_nm 148) ip_Mp_RX10, rfl⟩
set_option maxRecDepth 100000 in
theorem ip_mw149 : ip_Mok 149 := ⟨(ip_t5 (ip_v5_1 (List.mem_of_getElem? (l := ip_u5_1.1) (i := 8) rfl))), ip_Mc_RX10.1, ip_Mc_RX10.2, plainFor_of_name (x := ip_nm 149) ip_Mp_RX10, rfl⟩
set_option maxRecDepth 100000 in
theorem ip_mw150 : ip_Mok 150 := ⟨(ip_t5 (ip_v5_1 (List.mem_of_getElem? (l := ip_u5_1.1) (i := 21) rfl))), ip_Mc_RX10.1, ip_Mc_RX10.2, plainFor_of_name (x := ip_nm 150) ip_Mp_RX10, rfl⟩
set_option maxRecDepth 100000 in
theorem ip_mw151 : ip_Mok 151 := ⟨(ip_t5 (ip_v5_1 (List.mem_of_getElem? (l := ip_u5_1.1) (i := 30) rfl))), ip_Mc_RX10.1, ip_Mc_RX10.2, plainFor_of_name (x := ip_nm 151) ip_Mp_RX10, rfl⟩
set_option maxRecDepth 100000 in
theorem ip_mw152 : ip_Mok 152 := ⟨(ip_t5 (ip_v5_2 (List.mem_of_getElem? (l := ip_u5_2.1) (i := 11) rfl))), ip_Mc_RX10.1, ip_Mc_RX10.2, plainFor_of_name (x := ip_nm 152) ip_Mp_RX10, rfl⟩
set_option maxRecDepth 100000 in
theorem ip_mw153 : ip_Mok 153 := ⟨(ip_t2 (ip_v2_3 (List.mem_of_getElem? (l := ip_u2_3.1) (i := 31) rfl))), ip_Mc_RX10.1, ip_Mc_RX10.2, plainFor_of_name (x := ip_nm 153) ip_Mp_RX10, rfl⟩
set_option maxRecDepth 100000 in
theorem ip_mw154 : ip_Mok 154 := ⟨(ip_t2 (ip_v2_4 (List.mem_of_getElem? (l := ip_u2_4.1) (i := 30) rfl))), ip_Mc_RX10.1, ip_Mc_RX10.2, plainFor_of_name (x := ip_nm 154) ip_Mp_RX10, rfl⟩
set_option maxRecDepth 100000 in
theorem ip_mw155 : ip_Mok 155 := ⟨(ip_t2 (ip_v2_6 (List.mem_of_getElem? (l := ip_u2_6.1) (i := 0) rfl))), ip_Mc_RX10.1, ip_Mc_RX10.2, plainFor_of_name (x := ip_nm 155) ip_Mp_RX10, rfl⟩
set_option maxRecDepth 100000 in
theorem ip_mw156 : ip_Mok 156 := ⟨(ip_t2 (ip_v2_6 (List.mem_of_getElem? (l := ip_u2_6.1) (i := 3) rfl))), ip_Mc_RX10.1, ip_Mc_RX10.2, plainFor_of_name (x := ip_nm 156) ip_Mp_RX10, rfl⟩
set_option maxRecDepth 100000 in
theorem ip_mw157 : ip_Mok 157 := ⟨(ip_t4 (ip_v4_2 (List.mem_of_getElem? (l := ip_u4_2.1) (i := 5) rfl))), ip_Mc_RX10.1, ip_Mc_RX10.2, plainFor_of_name (x := ip_nm 157) ip_Mp_RX10, rfl⟩
set_option maxRecDepth 100000 in
theorem ip_mw158 : ip_Mok 158 := ⟨(ip_t3 (ip_v3_0 (List.mem_of_getElem? (l := ip_u3_0.1) (i := 4) rfl))), ip_Mc_RX10.1, ip_Mc_RX10.2, plainFor_of_name (x := ip_nm 158) ip_Mp_RX10, rfl⟩
set_option maxRecDepth 100000 in
theorem ip_mw159 : ip_Mok 159 := ⟨(ip_t4 (ip_v4_0 (List.mem_of_getElem? (l := ip_u4_0.1) (i := 17) rfl))), ip_Mc_RX10.1, ip_Mc_RX10.2, plainFor_of_name (x := ip_nm 159) ip_Mp_RX10, rfl⟩
set_option maxRecDepth 100000 in
theorem ip_mw160 : ip_Mok 160 := ⟨(ip_t4 (ip_v4_4 (List.mem_of_getElem? (l := ip_u4_4.1) (i := 14) rfl))), ip_Mc_RX10.1, ip_Mc_RX10.2, plainFor_of_name (x := ip_nm 160) ip_Mp_RX10, rfl⟩
set_option maxRecDepth 100000 in
theorem ip_mw161 : ip_Mok 161 := ⟨(ip_t5 (ip_v5_0 (List.mem_of_getElem? (l := ip_u5_0.1) (i := 19) rfl))), ip_Mc_RX10.1, ip_Mc_RX10.2, plainFor_of_name (x := ip_nm 161) ip_Mp_RX10, rfl⟩
set_option maxRecDepth 100000 in
theorem ip_mw162 : ip_Mok 162 := ⟨(ip_t5 (ip_v5_1 (List.mem_of_getElem? (l := ip_u5_1.1) (i := 16) rfl))), ip_Mc_RX10.1, ip_Mc_RX10.2, plainFor_of_name (x := ip_nm 162) ip_Mp_RX10, rfl⟩
set_option maxRecDepth 100000 in
theorem ip_mw163 : ip_Mok 163 := ⟨(ip_t2 (ip_v2_5 (List.mem_of_getElem? (l := ip_u2_5.1) (i := 9) rfl))), ip_Mc_RX10.1, ip_Mc_RX10.2, plainFor_of_name (x := ip_nm 163) ip_Mp_RX10, rfl⟩
set_option maxRecDepth 100000 in
theorem ip_mw164 : ip_Mok 164 := ⟨(ip_t4 (ip_v4_3 (List.mem_of_getElem? (l := ip_u4_3.1) (i := 7) rfl))), ip_Mc_RX10.1, ip_Mc_RX10.2, plainFor_of_name (x := ip_nm 164) ip_Mp_RX10, rfl⟩
set_option maxRecDepth 100000 in
theorem ip_mw165 : ip_Mok 165 := ⟨(ip_t5 (ip_v5_2 (List.mem_of_getElem? (l := ip_u5_2.1) (i := 16) rfl))), ip_Mc_RX11.1, ip_Mc_RX11.2, plainFor_of_name (x := ip_nm 165) ip_Mp_RX11, rfl⟩
set_option maxRecDepth 100000 in
theorem ip_mw166 : ip_Mok 166 := ⟨(ip_t6 (ip_v6_0 (List.mem_of_getElem? (l := ip_u6_0.1) (i := 13) rfl))), ip_Mc_RX11.1, ip_Mc_RX11.2, plainFor_of_name (x := ip_nm 166) ip_Mp_RX11, rfl⟩
set_option maxRecDepth 100000 in
theorem ip_mw167 : ip_Mok 167 := ⟨(ip_t5 (ip_v5_7 (List.mem_of_getElem? (l := ip_u5_7.1) (i := 14) rfl))), ip_Mc_RX11.1, ip_Mc_RX11.2, plainFor_of_name (x := ip_nm 167) ip_Mp_RX11, rfl⟩
set_option maxRecDepth 100000 in
theorem ip_mw168 : ip_Mok 168 := ⟨(ip_t6 (ip_v6_0 (List.mem_of_getElem? (l := ip_u6_0.1) (i := 6) rfl))), ip_Mc_RX11.1, ip_Mc_RX11.2, plainFor_of_name (x := ip_nm 168) ip_Mp_RX11, rfl⟩
set_option maxRecDepth 100000 in
theorem ip_mw169 : ip_Mok 169 := ⟨(ip_t5 (ip_v5_2 (List.mem_of_getElem? (l := ip_u5_2.1) (i := 21) rfl))), ip_Mc_RX11.1, ip_Mc_RX11.2, plainFor_of_name (x := ip_nm 169) ip_Mp_RX11, rfl⟩
set_option maxRecDepth 100000 in
theorem ip_mw170 : ip_Mok 170 := ⟨(ip_t6 (ip_v6_1 (List.mem_of_getElem? (l := ip_u6_1.1) (i := 3) rfl))), ip_Mc_RX11.1, ip_Mc_RX11.2, plainFor_of_name (x := ip_nm 170) ip_Mp_RX11, rfl⟩
set_option maxRecDepth 100000 in
theorem ip_mw171 : ip_Mok 171 := ⟨(ip_t6 (ip_v6_0 (List.mem_of_getElem? (l := ip_u6_0.1) (i := 2) rfl))), ip_Mc_RX11.1, ip_Mc_RX11.2, plainFor_of_name (x := ip_nm 171) ip_Mp_RX11, rfl⟩
set_option maxRecDepth 100000 in
theorem ip_mw172 : ip_Mok 172 := ⟨(ip_t5 (ip_v5_7 (List.mem_of_getElem? (l := ip_u5_7.1) (i := 10) rfl))), ip_Mc_RX11.1, ip_Mc_RX11.2, plainFor_of_name (x := ip_nm 172) ip_Mp_RX11, rfl⟩
set_option maxRecDepth 100000 in
theorem ip_mw173 : ip_Mok 173 := ⟨(ip_t6 (ip_v6_0 (List.mem_of_getElem? (l := ip_u6_0.1) (i := 17) rfl))), ip_Mc_RX11.1, ip_Mc_RX11.2, plainFor_of_name (x := ip_nm 173) ip_Mp_RX11, rfl⟩
set_option maxRecDepth 100000 in
theorem ip_mw174 : ip_Mok 174 := ⟨(ip_t6 (ip_v6_0 (List.mem_of_getElem? (l := ip_u6_0.1) (i := 10) rfl))), ip_Mc_RX11.1, ip_Mc_RX11.2, plainFor_of_name (x := ip_nm 174) ip_Mp_RX11, rfl⟩
set_option maxRecDepth 100000 in
theorem ip_mw175 : ip_Mok 175 := ⟨(ip_t6 (ip_v6_0 (List.mem_of_getElem? (l := ip_u6_0.1) (i := 21) rfl))), ip_Mc_RX11.1, ip_Mc_RX11.2, plainFor_of_name (x := ip_nm 175) ip_Mp_RX11, rfl⟩
set_option maxRecDepth 100000 in
theorem ip_mw176 : ip_Mok 176 := ⟨(ip_t6 (ip_v6_2 (List.mem_of_getElem? (l := ip_u6_2.1) (i := 14) rfl))), ip_Mc_RX11.1, ip_Mc_RX11.2, plainFor_of_name (x := ip_nm 176) ip_Mp_RX11, rfl⟩
set_option maxRecDepth 100000 in
theorem ip_mw177 : ip_Mok 177 := ⟨(ip_t6 (ip_v6_2 (List.mem_of_getElem? (l := ip_u6_2.1) (i := 23) rfl))), ip_Mc_RX11.1, ip_Mc_RX11.2, plainFor_of_name (x := ip_nm 177) ip_Mp_RX11, rfl⟩
set_option maxRecDepth 100000 in
theorem ip_mw178 : ip_Mok 178 := ⟨(ip_t6 (ip_v6_3 (List.mem_of_getElem? (l := ip_u6_3.1) (i := 0) rfl))), ip_Mc_RX11.1, ip_Mc_RX11.2, plainFor_of_name (x := ip_nm 178) ip_Mp_RX11, rfl⟩
set_option maxRecDepth 100000 in
theorem ip_mw179 : ip_Mok 179 := ⟨(ip_t6 (ip_v6_2 (List.mem_of_getElem? (l := ip_u6_2.1) (i := 18) rfl))), ip_Mc_RX11.1, ip_Mc_RX11.2, plainFor_of_name (x := ip_nm 179) ip_Mp_RX11, rfl⟩
set_option maxRecDepth 100000 in
theorem ip_mw180 : ip_Mok 180 := ⟨(ip_t6 (ip_v6_2 (List.mem_of_getElem? (l := ip_u6_2.1) (i := 27) rfl))), ip_Mc_RX11.1, ip_Mc_RX11.2, plainFor_of_name (x := ip_nm 180) ip_Mp_RX11, rfl⟩
set_option maxRecDepth 100000 in
theorem ip_mw181 : ip_Mok 181 := ⟨(ip_t6 (ip_v6_3 (List.mem_of_getElem? (l := ip_u6_3.1) (i := 4) rfl))), ip_Mc_RX11.1, ip_Mc_RX11.2, plainFor_of_name (x := ip_nm 181) ip_Mp_RX11, rfl⟩
set_option maxRecDepth 100000 in
theorem ip_mw182 : ip_Mok 182 := ⟨(ip_t6 (ip_v6_4 (List.mem_of_getElem? (l := ip_u6_4.1) (i := 7) rfl))), ip_Mc_RX11.1, ip_Mc_RX11.2, plainFor_of_name (x := ip_nm 182) ip_Mp_RX11, rfl⟩
set_option maxRecDepth 100000 in
theorem ip_mw183 : ip_Mok 183 := ⟨(ip_t6 (ip_v6_4 (List.mem_of_getElem? (l := ip_u6_4.1) (i := 11) rfl))), ip_Mc_RX11.1, ip_Mc_RX11.2, plainFor_of_name (x := ip_nm 183) ip_Mp_RX11, rfl⟩
set_option maxRecDepth 100000 in
theorem ip_mw184 : ip_Mok 184 := ⟨(ip_t6 (ip_v6_2 (List.mem_of_getElem? (l := ip_u6_2.1) (i := 10) rfl))), ip_Mc_RX11.1, ip_Mc_RX11.2, plainFor_of_name (x := ip_nm 184) ip_Mp_RX11, rfl⟩
set_option maxRecDepth 100000 in
theorem ip_mw185 : ip_Mok 185 := ⟨(ip_t6 (ip_v6_2 (List.mem_of_getElem? (l := ip_u6_2.1) (i := 6) rfl))), ip_Mc_RX11.1, ip_Mc_RX11.2, plainFor_of_name (x := ip_nm 185) ip_Mp_RX11, rfl⟩
set_option maxRecDepth 100000 in
theorem ip_mw186 : ip_Mok 186 := ⟨(ip_t6 (ip_v6_2 (List.mem_of_getElem? (l := ip_u6_2.1) (i := 2) rfl))), ip_Mc_RX11.1, ip_Mc_RX11.2, plainFor_of_name (x := ip_nm 186) ip_Mp_RX11, rfl⟩
set_option maxRecDepth 100000 in
theorem ip_mw187 : ip_Mok 187 := ⟨(ip_t6 (ip_v6_1 (List.mem_of_getElem? (l := ip_u6_1.1) (i := 26) rfl))), ip_Mc_RX11.1, ip_Mc_RX11.2, plainFor_of_name (x := ip_nm 187) ip_Mp_RX11, rfl⟩
set_option maxRecDepth 100000 in
theorem ip_mw188 : ip_Mok 188 := ⟨(ip_t6 (ip_v6_1 (List.mem_of_getElem? (l := ip_u6_1.1) (i := 23) rfl))), ip_Mc_RX11.1, ip_Mc_RX11.2, plainFor_of_name (x := ip_nm 188) ip_Mp_RX11, rfl⟩
set_option maxRecDepth 100000 in
theorem ip_mw189 : ip_Mok 189 := ⟨(ip_t6 (ip_v6_1 (List.mem_of_getElem? (l := ip_u6_1.1) (i := 14) rfl))), ip_Mc_RX11.1, ip_Mc_RX11.2, plainFor_of_name (x := ip_nm 189) ip_Mp_RX11, rfl⟩
set_option maxRecDepth 100000 in
theorem ip_mw190 : ip_Mok 190 := ⟨(ip_t6 (ip_v6_4 (List.mem_of_getElem? (l := ip_u6_4.1) (i := 27) rfl))), ip_Mc_RX11.1, ip_Mc_RX11.2, plainFor_of_name (x := ip_nm 190) ip_Mp_RX11, rfl⟩
set_option maxRecDepth 100000 in
theorem ip_mw191 : ip_Mok 191 := ⟨(ip_t6 (ip_v6_3 (List.mem_of_getElem? (l := ip_u6_3.1) (i := 31) rfl))), ip_Mc_RX11.1, ip_Mc_RX11.2, plainFor_of_name (x := ip_nm 191) ip_Mp_RX11, rfl⟩
set_option maxRecDepth 100000 in
theorem ip_mw192 : ip_Mok 192 := ⟨(ip_t6 (ip_v6_4 (List.mem_of_getElem? (l := ip_u6_4.1) (i := 3) rfl))), ip_Mc_RX11.1, ip_Mc_RX11.2, plainFor_of_name (x := ip_nm 192) ip_Mp_RX11, rfl⟩
set_option maxRecDepth 100000 in
theorem ip_mw193 : ip_Mok 193 := ⟨(ip_t6 (ip_v6_4 (List.mem_of_getElem? (l := ip_u6_4.1) (i := 15) rfl))), ip_Mc_RX11.1, ip_Mc_RX11.2, plainFor_of_name (x := ip_nm 193) ip_Mp_RX11, rfl⟩
set_option maxRecDepth 100000 in
theorem ip_mw194 : ip_Mok 194 := ⟨(ip_t6 (ip_v6_4 (List.mem_of_getElem? (l := ip_u6_4.1) (i := 19) rfl))), ip_Mc_RX11.1, ip_Mc_RX11.2, plainFor_of_name (x := ip_nm 194) ip_Mp_RX11, rfl⟩
set_option maxRecDepth 100000 in
theorem ip_mw195 : ip_Mok 195 := ⟨(ip_t6 (ip_v6_4 (List.mem_of_getElem? (l := ip_u6_4.1) (i := 23) rfl))), ip_Mc_RX11.1, ip_Mc_RX11.2, plainFor_of_name (x := ip_nm 195) ip_Mp_RX11, rfl⟩
set_option maxRecDepth 100000 in
theorem ip_mw196 : ip_Mok 196 := ⟨(ip_t6 (ip_v6_1 (List.mem_of_getElem? (l := ip_u6_1.1) (i := 19) rfl))), ip_Mc_RX11.1, ip_Mc_RX11.2, plainFor_of_name (x := ip_nm 196) ip_Mp_RX11, rfl⟩
set_option maxRecDepth 100000 in
theorem ip_mw197 : ip_Mok 197 := ⟨(ip_t6 (ip_v6_3 (List.mem_of_getElem? (l := ip_u6_3.1) (i := 23) rfl))), ip_Mc_RX11.1, ip_Mc_RX11.2, plainFor_of_name (x := ip_nm 197) ip_Mp_RX11, rfl⟩
set_option maxRecDepth 100000 in
theorem ip_mw198 : ip_Mok 198 := ⟨(ip_t6 (ip_v6_1 (List.mem_of_getElem? (l := ip_u6_1.1) (i := 30) rfl))), ip_Mc_RX11.1, ip_Mc_RX11.2, plainFor_of_name (x := ip_nm 198) ip_Mp_RX11, rfl⟩
set_option maxRecDepth 100000 in
theorem ip_mw199 : ip_Mok 199 := ⟨(ip_t6 (ip_v6_0 (List.mem_of_getElem? (l := ip_u6_0.1) (i := 31) rfl))), ip_Mc_RX11.1, ip_Mc_RX11.2, plainFor_of_name (x := ip_nm 199) ip_Mp_RX11, rfl⟩
set_option maxRecDepth 100000 in
theorem ip_mw200 : ip_Mok 200 := ⟨(ip_t6 (ip_v6_0 (List.mem_of_getElem? (l := ip_u6_0.1) (i := 28) rfl))), ip_Mc_RX11.1, ip_Mc_RX11.2, plainFor_of_name (x := ip_nm 200) ip_Mp_RX11, rfl⟩
set_option maxRecDepth 100000 in
theorem ip_mw201 : ip_Mok 201 := ⟨(ip_t6 (ip_v6_0 (List.mem_of_getElem? (l := ip_u6_0.1) (i := 25) rfl))), ip_Mc_RX11.1, ip_Mc_RX11.2, plainFor_of_name (x := ip_nm 201) ip_Mp_RX11, rfl⟩
set_option maxRecDepth 100000 in
theorem ip_mw202 : ip_Mok 202 := ⟨(ip_t6 (ip_v6_1 (List.mem_of_getElem? (l := ip_u6_1.1) (i := 7) rfl))), ip_Mc_RX11.1, ip_Mc_RX11.2, plainFor_of_name (x := ip_nm 202) ip_Mp_RX11, rfl⟩
set_option maxRecDepth 100000 in
theorem ip_mw203 : ip_Mok 203 := ⟨(ip_t6 (ip_v6_1 (List.mem_of_getElem? (l := ip_u6_1.1) (i := 11) rfl))), ip_Mc_RX11.1, ip_Mc_RX11.2, plainFor_of_name (x := ip_nm 203) ip_Mp_RX11, rfl⟩
set_option maxRecDepth 100000 in
theorem ip_mw204 : ip_Mok 204 := ⟨(ip_t6 (ip_v6_3 (List.mem_of_getElem? (l := ip_u6_3.1) (i := 8) rfl))), ip_Mc_RX11.1, ip_Mc_RX11.2, plainFor_of_name (x := ip_nm 204) ip_Mp_RX11, rfl⟩
set_option maxRecDepth 100000 in
theorem ip_mw205 : ip_Mok 205 := ⟨(ip_t6 (ip_v6_3 (List.mem_of_getElem? (l := ip_u6_3.1) (i := 27) rfl))), ip_Mc_RX11.1, ip_Mc_RX11.2, plainFor_of_name (x := ip_nm 205) ip_Mp_RX11, rfl⟩
set_option maxRecDepth 100000 in
theorem ip_mw206 : ip_Mok 206 := ⟨(ip_t6 (ip_v6_3 (List.mem_of_getElem? (l := ip_u6_3.1) (i := 19) rfl))), ip_Mc_RX11.1, ip_Mc_RX11.2, plainFor_of_name (x := ip_nm 206) ip_Mp_RX11, rfl⟩
set_option maxRecDepth 100000 in
theorem ip_mw207 : ip_Mok 207 := ⟨(ip_t6 (ip_v6_3 (List.mem_of_getElem? (l := ip_u6_3.1) (i := 15) rfl))), ip_Mc_RX11.1, ip_Mc_RX11.2, plainFor_of_name (x := ip_nm 207) ip_Mp_RX11, rfl⟩
set_option maxRecDepth 100000 in
theorem ip_mw208 : ip_Mok 208 := ⟨(ip_t6 (ip_v6_5 (List.mem_of_getElem? (l := ip_u6_5.1) (i := 27) rfl))), ip_Mc_RX11.1, ip_Mc_RX11.2, plainFor_of_name (x := ip_nm 208) ip_Mp_RX11, rfl⟩
set_option maxRecDepth 100000 in
theorem ip_mw209 : ip_Mok 209 := ⟨(ip_t6 (ip_v6_5 (List.mem_of_getElem? (l := ip_u6_5.1) (i := 11) rfl))), ip_Mc_RX11.1, ip_Mc_RX11.2, plainFor_of_name (x := ip_nm 209) ip_Mp_RX11, rfl⟩
set_option maxRecDepth 100000 in
theorem ip_mw210 : ip_Mok 210 := ⟨(ip_t6 (ip_v6_5 (List.mem_of_getElem? (l := ip_u6_5.1) (i := 3) rfl))), ip_Mc_RX11.1, ip_Mc_RX11.2, plainFor_of_name (x := ip_nm 210) ip_Mp_RX11, rfl⟩
set_option maxRecDepth 100000 in
theorem ip_mw211 : ip_Mok 211 := ⟨(ip_t6 (ip_v6_5 (List.mem_of_getElem? (l := ip_u6_5.1) (i := 7) rfl))), ip_Mc_RX11.1, ip_Mc_RX11.2, plainFor_of_name (x := ip_nm 211) ip_Mp_RX11, rfl⟩
set_option maxRecDepth 100000 in
theorem ip_mw212 : ip_Mok 212 := ⟨(ip_t6 (ip_v6_4 (List.mem_of_getElem? (l := ip_u6_4.1) (i := 31) rfl))), ip_Mc_RX11.1, ip_Mc_RX11.2, plainFor_of_name (x := ip_nm 212) ip_Mp_RX11, rfl⟩
set_option maxRecDepth 100000 in
theorem ip_mw213 : ip_Mok 213 := ⟨(ip_t6 (ip_v6_5 (List.mem_of_getElem? (l := ip_u6_5.1) (i := 23) rfl))), ip_Mc_RX11.1, ip_Mc_RX11.2, plainFor_of_name (x := ip_nm 213) ip_Mp_RX11, rfl⟩
set_option maxRecDepth 100000 in
theorem ip_mw214 : ip_Mok 214 := ⟨(ip_t6 (ip_v6_5 (List.mem_of_getElem? (l := ip_u6_5.1) (i := 19) rfl))), ip_Mc_RX11.1, ip_Mc_RX11.2, plainFor_of_name (x := ip_nm 214) ip_Mp_RX11, rfl⟩
set_option maxRecDepth 100000 in
theorem ip_mw215 : ip_Mok 215 := ⟨(ip_t6 (ip_v6_6 (List.mem_of_getElem? (l := ip_u6_6.1) (i := 12) rfl))), ip_Mc_RX11.1, ip_Mc_RX11.2, plainFor_of_name (x := ip_nm 215) ip_Mp_RX11, rfl⟩
set_option maxRecDepth 100000 in
theorem ip_mw216 : ip_Mok 216 := ⟨(ip_t6 (ip_v6_6 (List.mem_of_getElem? (l := ip_u6_6.1) (i := 7) rfl))), ip_Mc_RX11.1, ip_Mc_RX11.2, plainFor_of_name (x := ip_nm 216) ip_Mp_RX11, rfl⟩
set_option maxRecDepth 100000 in
theorem ip_mw217 : ip_Mok 217 := ⟨(ip_t6 (ip_v6_6 (List.mem_of_getElem? (l := ip_u6_6.1) (i := 3) rfl))), ip_Mc_RX11.1, ip_Mc_RX11.2, plainFor_of_name (x := ip_nm 217) ip_Mp_RX11, rfl⟩
set_option maxRecDepth 100000 in
theorem ip_mw218 : ip_Mok 218 := ⟨(ip_t6 (ip_v6_6 (List.mem_of_getElem? (l := ip_u6_6.1) (i := 16) rfl))), ip_Mc_RX11.1, ip_Mc_RX11.2, plainFor_of_name (x := ip_nm 218) ip_Mp_RX11, rfl⟩
set_option maxRecDepth 100000 in
theorem ip_mw219 : ip_Mok 219 := ⟨(ip_t6 (ip_v6_5 (List.mem_of_getElem? (l := ip_u6_5.1) (i := 31) rfl))), ip_Mc_RX11.1, ip_Mc_RX11.2, plainFor_of_name (x := ip_nm 219) ip_Mp_RX11, rfl⟩
set_option maxRecDepth 100000 in
theorem ip_mw220 : ip_Mok 220 := ⟨(ip_t6 (ip_v6_6 (List.mem_of_getElem? (l := ip_u6_6.1) (i := 20) rfl))), ip_Mc_RX11.1, ip_Mc_RX11.2, plainFor_of_name (x := ip_nm 220) ip_Mp_RX11, rfl⟩
set_option maxRecDepth 100000 in
theorem ip_mw221 : ip_Mok 221 := ⟨(ip_t6 (ip_v6_6 (List.mem_of_getElem? (l := ip_u6_6.1) (i := 28) rfl))), ip_Mc_RX11.1, ip_Mc_RX11.2, plainFor_of_name (x := ip_nm 221) ip_Mp_RX11, rfl⟩
set_option maxRecDepth 100000 in
theorem ip_mw222 : ip_Mok 222 := ⟨(ip_t6 (ip_v6_6 (List.mem_of_getElem? (l := ip_u6_6.1) (i := 24) rfl))), ip_Mc_RX11.1, ip_Mc_RX11.2, plainFor_of_name (x := ip_nm 222) ip_Mp_RX11, rfl⟩
set_option maxRecDepth 100000 in
theorem ip_mw223 : ip_Mok 223 := ⟨(ip_t6 (ip_v6_5 (List.mem_of_getElem? (l := ip_u6_5.1) (i := 15) rfl))), ip_Mc_RX11.1, ip_Mc_RX11.2, plainFor_of_name (x := ip_nm 223) ip_Mp_RX11, rfl⟩
set_option maxRecDepth 100000 in
theorem ip_mw224 : ip_Mok 224 := ⟨(ip_t6 (ip_v6_7 (List.mem_of_getElem? (l := ip_u6_7.1) (i := 0) rfl))), ip_Mc_RX11.1, ip_Mc_RX11.2, plainFor_of_name (x := ip_nm 224) ip_Mp_RX11, rfl⟩
set_option maxRecDepth 100000 in
theorem ip_mw225 : ip_Mok 225 := ⟨(ip_t6 (ip_v6_7 (List.mem_of_getElem? (l := ip_u6_7.1) (i := 4) rfl))), ip_Mc_RX11.1, ip_Mc_RX11.2, plainFor_of_name (x := ip_nm 225) ip_Mp_RX11, rfl⟩
set_option maxRecDepth 100000 in
theorem ip_mw226 : ip_Mok 226 := ⟨(ip_t6 (ip_v6_7 (List.mem_of_getElem? (l := ip_u6_7.1) (i := 12) rfl))), ip_Mc_RX11.1, ip_Mc_RX11.2, plainFor_of_name (x := ip_nm 226) ip_Mp_RX11, rfl⟩
set_option maxRecDepth 100000 in
theorem ip_mw227 : ip_Mok 227 := ⟨(ip_t6 (ip_v6_7 (List.mem_of_getElem? (l := ip_u6_7.1) (i := 8) rfl))), ip_Mc_RX11.1, ip_Mc_RX11.2, plainFor_of_name (x := ip_nm 227) ip_Mp_RX11, rfl⟩
set_option maxRecDepth 100000 in
theorem ip_mw228 : ip_Mok 228 := ⟨(ip_t7 (ip_v7_0 (List.mem_of_getElem? (l := ip_u7_0.1) (i := 0) rfl))), ip_Mc_RX11.1, ip_Mc_RX11.2, plainFor_of_name (x := ip_nm 228) ip_Mp_RX11, rfl⟩
set_option maxRecDepth 100000 in
theorem ip_mw229 : ip_Mok 229 := ⟨(ip_t7 (ip_v7_0 (List.mem_of_getElem? (l := ip_u7_0.1) (i := 16) rfl))), ip_Mc_RX11.1, ip_Mc_RX11.2, plainFor_of_name (x := ip_nm 229) ip_Mp_RX11, rfl⟩
set_option maxRecDepth 100000 in
theorem ip_mw230 : ip_Mok 230 := ⟨(ip_t7 (ip_v7_0 (List.mem_of_getElem? (l := ip_u7_0.1) (i := 12) rfl))), ip_Mc_RX11.1, ip_Mc_RX11.2, plainFor_of_name (x := ip_nm 230) ip_Mp_RX11, rfl⟩
set_option maxRecDepth 100000 in
theorem ip_mw231 : ip_Mok 231 := ⟨(ip_t7 (ip_v7_0 (List.mem_of_getElem? (l := ip_u7_0.1) (i := 24) rfl))), ip_Mc_RX11.1, ip_Mc_RX11.2, plainFor_of_name (x := ip_nm 231) ip_Mp_RX11, rfl⟩
set_option maxRecDepth 100000 in
theorem ip_mw232 : ip_Mok 232 := ⟨(ip_t7 (ip_v7_0 (List.mem_of_getElem? (l := ip_u7_0.1) (i := 20) rfl))), ip_Mc_RX11.1, ip_Mc_RX11.2, plainFor_of_name (x := ip_nm 232) ip_Mp_RX11, rfl⟩
set_option maxRecDepth 100000 in
theorem ip_mw233 : ip_Mok 233 := ⟨(ip_t7 (ip_v7_0 (List.mem_of_getElem? (l := ip_u7_0.1) (i := 8) rfl))), ip_Mc_RX11.1, ip_Mc_RX11.2, plainFor_of_name (x := ip_nm 233) ip_Mp_RX11, rfl⟩
set_option maxRecDepth 100000 in
theorem ip_mw234 : ip_Mok 234 := ⟨(ip_t7 (ip_v7_0 (List.mem_of_getElem? (l := ip_u7_0.1) (i := 4) rfl))), ip_Mc_RX11.1, ip_Mc_RX11.2, plainFor_of_name (x := ip_nm 234) ip_Mp_RX11, rfl⟩
set_option maxRecDepth 100000 in
theorem ip_mw235 : ip_Mok 235 := ⟨(ip_t7 (ip_v7_0 (List.mem_of_getElem? (l := ip_u7_0.1) (i := 28) rfl))), ip_Mc_RX11.1, ip_Mc_RX11.2, plainFor_of_name (x := ip_nm 235) ip_Mp_RX11, rfl⟩
set_option maxRecDepth 100000 in
theorem ip_mw236 : ip_Mok 236 := ⟨(ip_t7 (ip_v7_1 (List.mem_of_getElem? (l := ip_u7_1.1) (i := 0) rfl))), ip_Mc_RX11.1, ip_Mc_RX11.2, plainFor_of_name (x := ip_nm 236) ip_Mp_RX11, rfl⟩
set_option maxRecDepth 100000 in
theorem ip_mw237 : ip_Mok 237 := ⟨(ip_t7 (ip_v7_1 (List.mem_of_getElem? (l := ip_u7_1.1) (i := 5) rfl))), ip_Mc_RX11.1, ip_Mc_RX11.2, plainFor_of_name (x := ip_nm 237) ip_Mp_RX11, rfl⟩
set_option maxRecDepth 100000 in
theorem ip_mw238 : ip_Mok 238 := ⟨(ip_t7 (ip_v7_1 (List.mem_of_getElem? (l := ip_u7_1.1) (i := 10) rfl))), ip_Mc_RX11.1, ip_Mc_RX11.2, plainFor_of_name (x := ip_nm 238) ip_Mp_RX11, rfl⟩
set_option maxRecDepth 100000 in
theorem ip_mw239 : ip_Mok 239 := ⟨(ip_t7 (ip_v7_1 (List.mem_of_getElem? (l := ip_u7_1.1) (i := 14) rfl))), ip_Mc_RX11.1, ip_Mc_RX11.2, plainFor_of_name (x := ip_nm 239) ip_Mp_RX11, rfl⟩
set_option maxRecDepth 100000 in
theorem ip_mw240 : ip_Mok 240 := ⟨(ip_t7 (ip_v7_1 (List.mem_of_getElem? (l := ip_u7_1.1) (i := 18) rfl))), ip_Mc_RX11.1, ip_Mc_RX11.2, plainFor_of_name (x := ip_nm 240) ip_Mp_RX11, rfl⟩
set_option maxRecDepth 100000 in
theorem ip_mw241 : ip_Mok 241 := ⟨(ip_t7 (ip_v7_1 (List.mem_of_getElem? (l := ip_u7_1.1) (i := 22) rfl))), ip_Mc_RX11.1, ip_Mc_RX11.2, plainFor_of_name (x := ip_nm 241) ip_Mp_RX11, rfl⟩
set_option maxRecDepth 100000 in
theorem ip_mw242 : ip_Mok 242 := ⟨(ip_t7 (ip_v7_1 (List.mem_of_getElem? (l := ip_u7_1.1) (i := 26) rfl))), ip_Mc_RX11.1, ip_Mc_RX11.2, plainFor_of_name (x := ip_nm 242) ip_Mp_RX11, rfl⟩
set_option maxRecDepth 100000 in
theorem ip_mw243 : ip_Mok 243 := ⟨(ip_t7 (ip_v7_2 (List.mem_of_getElem? (l := ip_u7_2.1) (i := 2) rfl))), ip_Mc_RX11.1, ip_Mc_RX11.2, plainFor_of_name (x := ip_nm 243) ip_Mp_RX11, rfl⟩
set_option maxRecDepth 100000 in
theorem ip_mw244 : ip_Mok 244 := ⟨(ip_t7 (ip_v7_2 (List.mem_of_getElem? (l := ip_u7_2.1) (i := 5) rfl))), ip_Mc_RX11.1, ip_Mc_RX11.2, plainFor_of_name (x := ip_nm 244) ip_Mp_RX11, rfl⟩
set_option maxRecDepth 100000 in
theorem ip_mw245 : ip_Mok 245 := ⟨(ip_t7 (ip_v7_1 (List.mem_of_getElem? (l := ip_u7_1.1) (i := 30) rfl))), ip_Mc_RX11.1, ip_Mc_RX11.2, plainFor_of_name (x := ip_nm 245) ip_Mp_RX11, rfl⟩
set_option maxRecDepth 100000 in
theorem ip_mw246 : ip_Mok 246 := ⟨(ip_t7 (ip_v7_2 (List.mem_of_getElem? (l := ip_u7_2.1) (i := 13) rfl))), ip_Mc_RX11.1, ip_Mc_RX11.2, plainFor_of_name (x := ip_nm 246) ip_Mp_RX11, rfl⟩
set_option maxRecDepth 100000 in
theorem ip_mw247 : ip_Mok 247 := ⟨(ip_t7 (ip_v7_2 (List.mem_of_getElem? (l := ip_u7_2.1) (i := 20) rfl))), ip_Mc_RX11.1, ip_Mc_RX11.2, plainFor_of_name (x := ip_nm 247) ip_Mp_RX11, rfl⟩
set_option maxRecDepth 100000 in
theorem ip_mw248 : ip_Mok 248 := ⟨(ip_t7 (ip_v7_2 (List.mem_of_getElem? (l := ip_u7_2.1) (i := 17) rfl))), ip_Mc_RX11.1, ip_Mc_RX11.2, plainFor_of_name (x := ip_nm 248) ip_Mp_RX11, rfl⟩
set_option maxRecDepth 100000 in
theorem ip_mw249 : ip_Mok 249 := ⟨(ip_t7 (ip_v7_2 (List.mem_of_getElem? (l := ip_u7_2.1) (i := 9) rfl))), ip_Mc_RX11.1, ip_Mc_RX11.2, plainFor_of_name (x := ip_nm 249) ip_Mp_RX11, rfl⟩
set_option maxRecDepth 100000 in
theorem ip_mw250 : ip_Mok 250 := ⟨(ip_t7 (ip_v7_2 (List.mem_of_getElem? (l := ip_u7_2.1) (i := 24) rfl))), ip_Mc_RX11.1, ip_Mc_RX11.2, plainFor_of_name (x := ip_nm 250) ip_Mp_RX11, rfl⟩
set_option maxRecDepth 100000 in
theorem ip_mw251 : ip_Mok 251 := ⟨(ip_t7 (ip_v7_3 (List.mem_of_getElem? (l := ip_u7_3.1) (i := 0) rfl))), ip_Mc_RX11.1, ip_Mc_RX11.2, plainFor_of_name (x := ip_nm 251) ip_Mp_RX11, rfl⟩
set_option maxRecDepth 100000 in
theorem ip_mw252 : ip_Mok 252 := ⟨(ip_t7 (ip_v7_3 (List.mem_of_getElem? (l := ip_u7_3.1) (i := 5) rfl))), ip_Mc_RX11.1, ip_Mc_RX11.2, plainFor_of_name (x := ip_nm 252) ip_Mp_RX11, rfl⟩
set_option maxRecDepth 100000 in
theorem ip_mw253 : ip_Mok 253 := ⟨(ip_t7 (ip_v7_2 (List.mem_of_getElem? (l := ip_u7_2.1) (i := 28) rfl))), ip_Mc_RX11.1, ip_Mc_RX11.2, plainFor_of_name (x := ip_nm 253) ip_Mp_RX11, rfl⟩
set_option maxRecDepth 100000 in
theorem ip_mw254 : ip_Mok 254 := ⟨(ip_t7 (ip_v7_3 (List.mem_of_getElem? (l := ip_u7_3.1) (i := 9) rfl))), ip_Mc_RX11.1, ip_Mc_RX11.2, plainFor_of_name (x := ip_nm 254) ip_Mp_RX11, rfl⟩
set_option maxRecDepth 100000 in
theorem ip_mw255 : ip_Mok 255 := ⟨(ip_t7 (ip_v7_3 (List.mem_of_getElem? (l := ip_u7_3.1) (i := 17) rfl))), ip_Mc_RX11.1, ip_Mc_RX11.2, plainFor_of_name (x := ip_nm 255) ip_Mp_RX11, rfl⟩
set_option maxRecDepth 100000 in
theorem ip_mw256 : ip_Mok 256 := ⟨(ip_t7 (ip_v7_3 (List.mem_of_getElem? (l := ip_u7_3.1) (i := 13) rfl))), ip_Mc_RX11.1, ip_Mc_RX11.2, plainFor_of_name (x := ip_nm 256) ip_Mp_RX11, rfl⟩
set_option maxRecDepth 100000 in
theorem ip_mw257 : ip_Mok 257 := ⟨(ip_t7 (ip_v7_3 (List.mem_of_getElem? (l := ip_u7_3.1) (i := 25) rfl))), ip_Mc_RX11.1, ip_Mc_RX11.2, plainFor_of_name (x := ip_nm 257) ip_Mp_RX11, rfl⟩
set_option maxRecDepth 100000 in
theorem ip_mw258 : ip_Mok 258 := ⟨(ip_t7 (ip_v7_3 (List.mem_of_getElem? (l := ip_u7_3.1) (i := 30) rfl))), ip_Mc_RX11.1, ip_Mc_RX11.2, plainFor_of_name (x := ip_nm 258) ip_Mp_RX11, rfl⟩
set_option maxRecDepth 100000 in
theorem ip_mw259 : ip_Mok 259 := ⟨(ip_t7 (ip_v7_3 (List.mem_of_getElem? (l := ip_u7_3.1) (i := 21) rfl))), ip_Mc_RX11.1, ip_Mc_RX11.2, plainFor_of_name (x := ip_nm 259) ip_Mp_RX11, rfl⟩
set_option maxRecDepth 100000 in
theorem ip_mw260 : ip_Mok 260 := ⟨(ip_t7 (ip_v7_4 (List.mem_of_getElem? (l := ip_u7_4.1) (i := 6) rfl))), ip_Mc_RX11.1, ip_Mc_RX11.2, plainFor_of_name (x := ip_nm 260) ip_Mp_RX11, rfl⟩
set_option maxRecDepth 100000 in
theorem ip_mw261 : ip_Mok 261 := ⟨(ip_t7 (ip_v7_4 (List.mem_of_getElem? (l := ip_u7_4.1) (i := 2) rfl))), ip_Mc_RX11.1, ip_Mc_RX11.2, plainFor_of_name (x := ip_nm 261) ip_Mp_RX11, rfl⟩
set_option maxRecDepth 100000 in
theorem ip_mw262 : ip_Mok 262 := ⟨(ip_t7 (ip_v7_4 (List.mem_of_getElem? (l := ip_u7_4.1) (i := 18) rfl))), ip_Mc_RX11.1, ip_Mc_RX11.2, plainFor_of_name (x := ip_nm 262) ip_Mp_RX11, rfl⟩
set_option maxRecDepth 100000 in
theorem ip_mw263 : ip_Mok 263 := ⟨(ip_t7 (ip_v7_4 (List.mem_of_getElem? (l := ip_u7_4.1) (i := 22) rfl))), ip_Mc_RX11.1, ip_Mc_RX11.2, plainFor_of_name (x := ip_nm 263) ip_Mp_RX11, rfl⟩
set_option maxRecDepth 100000 in
theorem ip_mw264 : ip_Mok 264 := ⟨(ip_t7 (ip_v7_4 (List.mem_of_getElem? (l := ip_u7_4.1) (i := 14) rfl))), ip_Mc_RX11.1, ip_Mc_RX11.2, plainFor_of_name (x := ip_nm 264) ip_Mp_RX11, rfl⟩
set_option maxRecDepth 100000 in
theorem ip_mw265 : ip_Mok 265 := ⟨(ip_t7 (ip_v7_4 (List.mem_of_getElem? (l := ip_u7_4.1) (i := 10) rfl))), ip_Mc_RX11.1, ip_Mc_RX11.2, plainFor_of_name (x := ip_nm 265) ip_Mp_RX11, rfl⟩
set_option maxRecDepth 100000 in
theorem ip_mw266 : ip_Mok 266 := ⟨(ip_t7 (ip_v7_5 (List.mem_of_getElem? (l := ip_u7_5.1) (i := 3) rfl))), ip_Mc_RX11.1, ip_Mc_RX11.2, plainFor_of_name (x := ip_nm 266) ip_Mp_RX11, rfl⟩
set_option maxRecDepth 100000 in
theorem ip_mw267 : ip_Mok 267 := ⟨(ip_t7 (ip_v7_4 (List.mem_of_getElem? (l := ip_u7_4.1) (i := 30) rfl))), ip_Mc_RX11.1, ip_Mc_RX11.2, plainFor_of_name (x := ip_nm 267) ip_Mp_RX11, rfl⟩
set_option maxRecDepth 100000 in
theorem ip_mw268 : ip_Mok 268 := ⟨(ip_t7 (ip_v7_4 (List.mem_of_getElem? (l := ip_u7_4.1) (i := 26) rfl))), ip_Mc_RX11.1, ip_Mc_RX11.2, plainFor_of_name (x := ip_nm 268) ip_Mp_RX11, rfl⟩
set_option maxRecDepth 100000 in
theorem ip_mw269 : ip_Mok 269 := ⟨(ip_t7 (ip_v7_5 (List.mem_of_getElem? (l := ip_u7_5.1) (i := 11) rfl))), ip_Mc_RX11.1, ip_Mc_RX11.2, plainFor_of_name (x := ip_nm 269) ip_Mp_RX11, rfl⟩
set_option maxRecDepth 100000 in
theorem ip_mw270 : ip_Mok 270 := ⟨(ip_t7 (ip_v7_5 (List.mem_of_getElem? (l := ip_u7_5.1) (i := 7) rfl))), ip_Mc_RX11.1, ip_Mc_RX11.2, plainFor_of_name (x := ip_nm 270) ip_Mp_RX11, rfl⟩
set_option maxRecDepth 100000 in
theorem ip_mw271 : ip_Mok 271 := ⟨(ip_t7 (ip_v7_5 (List.mem_of_getElem? (l := ip_u7_5.1) (i := 19) rfl))), ip_Mc_RX11.1, ip_Mc_RX11.2, plainFor_of_name (x := ip_nm 271) ip_Mp_RX11, rfl⟩
set_option maxRecDepth 100000 in
theorem ip_mw272 : ip_Mok 272 := ⟨(ip_t7 (ip_v7_5 (List.mem_of_getElem? (l := ip_u7_5.1) (i := 15) rfl))), ip_Mc_RX11.1, ip_Mc_RX11.2, plainFor_of_name (x := ip_nm 272) ip_Mp_RX11, rfl⟩
set_option maxRecDepth 100000 in
theorem ip_mw273 : ip_Mok 273 := ⟨(ip_t7 (ip_v7_5 (List.mem_of_getElem? (l := ip_u7_5.1) (i := 26) rfl))), ip_Mc_RX11.1, ip_Mc_RX11.2, plainFor_of_name (x := ip_nm 273) ip_Mp_RX11, rfl⟩
set_option maxRecDepth 100000 in
theorem ip_mw274 : ip_Mok 274 := ⟨(ip_t7 (ip_v7_5 (List.mem_of_getElem? (l := ip_u7_5.1) (i := 23) rfl))), ip_Mc_RX11.1, ip_Mc_RX11.2, plainFor_of_name (x := ip_nm 274) ip_Mp_RX11, rfl⟩
set_option maxRecDepth 100000 in
theorem ip_mw275 : ip_Mok 275 := ⟨(ip_t7 (ip_v7_5 (List.mem_of_getElem? (l := ip_u7_5.1) (i := 30) rfl))), ip_Mc_RX11.1, ip_Mc_RX11.2, plainFor_of_name (x := ip_nm 275) ip_Mp_RX11, rfl⟩
set_option maxRecDepth 100000 in
theorem ip_mw276 : ip_Mok 276 := ⟨(ip_t7 (ip_v7_6 (List.mem_of_getElem? (l := ip_u7_6.1) (i := 2) rfl))), ip_Mc_RX11.1, ip_Mc_RX11.2, plainFor_of_name (x := ip_nm 276) ip_Mp_RX11, rfl⟩
set_option maxRecDepth 100000 in
theorem ip_mw277 : ip_Mok 277 := ⟨(ip_t7 (ip_v7_6 (List.mem_of_getElem? (l := ip_u7_6.1) (i := 10) rfl))), ip_Mc_RX11.1, ip_Mc_RX11.2, plainFor_of_name (x := ip_nm 277) ip_Mp_RX11, rfl⟩
set_option maxRecDepth 100000 in
theorem ip_mw278 : ip_Mok 278 := ⟨(ip_t7 (ip_v7_6 (List.mem_of_getElem? (l := ip_u7_6.1) (i := 14) rfl))), ip_Mc_RX11.1, ip_Mc_RX11.2, plainFor_of_name (x := ip_nm 278) ip_Mp_RX11, rfl⟩
set_option maxRecDepth 100000 in
theorem ip_mw279 : ip_Mok 279 := ⟨(ip_t7 (ip_v7_6 (List.mem_of_getElem? (l := ip_u7_6.1) (i := 6) rfl))), ip_Mc_RX11.1, ip_Mc_RX11.2, plainFor_of_name (x := ip_nm 279) ip_Mp_RX11, rfl⟩
set_option maxRecDepth 100000 in
theorem ip_mw280 : ip_Mok 280 := ⟨(ip_t7 (ip_v7_7 (List.mem_of_getElem? (l := ip_u7_7.1) (i := 3) rfl))), ip_Mc_RX11.1, ip_Mc_RX11.2, plainFor_of_name (x := ip_nm 280) ip_Mp_RX11, rfl⟩
set_option maxRecDepth 100000 in
theorem ip_mw281 : ip_Mok 281 := ⟨(ip_t7 (ip_v7_6 (List.mem_of_getElem? (l := ip_u7_6.1) (i := 31) rfl))), ip_Mc_RX11.1, ip_Mc_RX11.2, plainFor_of_name (x := ip_nm 281) ip_Mp_RX11, rfl⟩
set_option maxRecDepth 100000 in
theorem ip_mw282 : ip_Mok 282 := ⟨(ip_t7 (ip_v7_6 (List.mem_of_getElem? (l := ip_u7_6.1) (i := 22) rfl))), ip_Mc_RX11.1, ip_Mc_RX11.2, plainFor_of_name (x := ip_nm 282) ip_Mp_RX11, rfl⟩
set_option maxRecDepth 100000 in
theorem ip_mw283 : ip_Mok 283 := ⟨(ip_t7 (ip_v7_6 (List.mem_of_getElem? (l := ip_u7_6.1) (i := 27) rfl))), ip_Mc_RX11.1, ip_Mc_RX11.2, plainFor_of_name (x := ip_nm 283) ip_Mp_RX11, rfl⟩
set_option maxRecDepth 100000 in
theorem ip_mw284 : ip_Mok 284 := ⟨(ip_t7 (ip_v7_6 (List.mem_of_getElem? (l := ip_u7_6.1) (i := 18) rfl))), ip_Mc_RX11.1, ip_Mc_RX11.2, plainFor_of_name (x := ip_nm 284) ip_Mp_RX11, rfl⟩
set_option maxRecDepth 100000 in
theorem ip_mw285 : ip_Mok 285 := ⟨(ip_t7 (ip_v7_7 (List.mem_of_getElem? (l := ip_u7_7.1) (i := 7) rfl))), ip_Mc_RX11.1, ip_Mc_RX11.2, plainFor_of_name (x := ip_nm 285) ip_Mp_RX11, rfl⟩
set_option maxRecDepth 100000 in
theorem ip_mw286 : ip_Mok 286 := ⟨(ip_t7 (ip_v7_7 (List.mem_of_getElem? (l := ip_u7_7.1) (i := 15) rfl))), ip_Mc_RX11.1, ip_Mc_RX11.2, plainFor_of_name (x := ip_nm 286) ip_Mp_RX11, rfl⟩
set_option maxRecDepth 100000 in
theorem ip_mw287 : ip_Mok 287 := ⟨(ip_t7 (ip_v7_7 (List.mem_of_getElem? (l := ip_u7_7.1) (i := 11) rfl))), ip_Mc_RX11.1, ip_Mc_RX11.2, plainFor_of_name (x := ip_nm 287) ip_Mp_RX11, rfl⟩
set_option maxRecDepth 100000 in
theorem ip_mw288 : ip_Mok 288 := ⟨(ip_t8 (ip_v8_0 (List.mem_of_getElem? (l := ip_u8_0.1) (i := 3) rfl))), ip_Mc_RX11.1, ip_Mc_RX11.2, plainFor_of_name (x := ip_nm 288) ip_Mp_RX11, rfl⟩
set_option maxRecDepth 100000 in
theorem ip_mw289 : ip_Mok 289 := ⟨(ip_t8 (ip_v8_0 (List.mem_of_getElem? (l := ip_u8_0.1) (i := 7) rfl))), ip_Mc_RX11.1, ip_Mc_RX11.2, plainFor_of_name (x := ip_nm 289) ip_Mp_RX11, rfl⟩
set_option maxRecDepth 100000 in
theorem ip_mw290 : ip_Mok 290 := ⟨(ip_t4 (ip_v4_7 (List.mem_of_getElem? (l := ip_u4_7.1) (i := 10) rfl))), ip_Mc_RJ9.1, ip_Mc_RJ9.2, ip_pand1 (ip_pf), rfl⟩
set_option maxRecDepth 100000 in
theorem ip_mw291 : ip_Mok 291 := ⟨(ip_t2 (ip_v2_4 (List.mem_of_getElem? (l := ip_u2_4.1) (i := 10) rfl))), ip_Mc_RJ9.1, ip_Mc_RJ9.2, ip_pand1 (ip_pand2 (ip_pf)), rfl⟩
set_option maxRecDepth 100000 in
theorem ip_mw292 : ip_Mok 292 := ⟨(ip_t4 (ip_v4_7 (List.mem_of_getElem? (l := ip_u4_7.1) (i := 13) rfl))), ip_Mc_RJ9.1, ip_Mc_RJ9.2, ip_pand1 (ip_pand2 (ip_pand2 (ip_pf))), rfl⟩
set_option maxRecDepth 100000 in
theorem ip_mw293 : ip_Mok 293 := ⟨(ip_t5 (ip_v5_0 (List.mem_of_getElem? (l := ip_u5_0.1) (i := 27) rfl))), ip_Mc_RJ9.1, ip_Mc_RJ9.2, ip_pand1 (ip_pand2 (ip_pand2 (ip_pand2 (ip_pf)))), rfl⟩
set_option maxRecDepth 100000 in
theorem ip_mw294 : ip_Mok 294 := ⟨(ip_t3 (ip_v3_7 (List.mem_of_getElem? (l := ip_u3_7.1) (i := 6) rfl))), ip_Mc_RJ9.1, ip_Mc_RJ9.2, ip_pand2 (ip_pand2 (ip_pand2 (ip_pand2 (ip_pf)))), rfl⟩
theorem ip_Ma0 : ∀ c, c < 0 → ip_Mok c := fun c h => absurd h (Nat.not_lt_zero c)
theorem ip_Ma1 : ∀ c, c < 1 → ip_Mok c := fun c h => (Nat.lt_or_eq_of_le (Nat.le_of_lt_succ h)).elim (ip_Ma0 c) (fun e => e ▸ ip_mw0)
theorem ip_Ma2 : ∀ c, c < 2 → ip_Mok c := fun c h => (Nat.lt_or_eq_of_le (Nat.le_of_lt_succ h)).elim (ip_Ma1 c) (fun e => e ▸ ip_mw1)
theorem ip_Ma3 : ∀ c, c < 3 → ip_Mok c := fun c h => (Nat.lt_or_eq_of_le (Nat.le_of_lt_succ h)).elim (ip_Ma2 c) (fun e => e ▸ ip_mw2)
theorem ip_Ma4 : ∀ c, c < 4 → ip_Mok c := fun c h => (Nat.lt_or_eq_of_le (Nat.le_of_lt_succ h)).elim (ip_Ma3 c) (fun e => e ▸ ip_mw3)
theorem ip_Ma5 : ∀ c, c < 5 → ip_Mok c := fun c h => (Nat.lt_or_eq_of_le (Nat.le_of_lt_succ h)).elim (ip_Ma4 c) (fun e => e ▸ ip_mw4)
theorem ip_Ma6 : ∀ c, c < 6 → ip_Mok c := fun c h => (Nat.lt_or_eq_of_le (Nat.le_of_lt_succ h)).elim (ip_Ma5 c) (fun e => e ▸ ip_mw5)
theorem ip_Ma7 : ∀ c, c < 7 → ip_Mok c := fun c h => (Nat.lt_or_eq_of_le (Nat.le_of_lt_succ h)).elim (ip_Ma6 c) (fun e => e ▸ ip_mw6)
theorem ip_Ma8 : ∀ c, c < 8 → ip_Mok c := fun c h => (Nat.lt_or_eq_of_le (Nat.le_of_lt_succ h)).elim (ip_Ma7 c) (fun e => e ▸ ip_mw7)
theorem ip_Ma9 : ∀ c, c < 9 → ip_Mok c := fun c h => (Nat.lt_or_eq_of_le (Nat.le_of_lt_succ h)).elim (ip_Ma8 c) (fun e => e ▸ ip_mw8)
theorem ip_Ma10 : ∀ c, c < 10 → ip_Mok c := fun c h => (Nat.lt_or_eq_of_le (Nat.le_of_lt_succ h)).elim (ip_Ma9 c) (fun e => e ▸ ip_mw9)
theorem ip_Ma11 : ∀ c, c < 11 → ip_Mok c := fun c h => (Nat.lt_or_eq_of_le (Nat.le_of_lt_succ h)).elim (ip_Ma10 c) (fun e => e ▸ ip_mw10)
theorem ip_Ma12 : ∀ c, c < 12 → ip_Mok c := fun c h => (Nat.lt_or_eq_of_le (Nat.le_of_lt_succ h)).elim (ip_Ma11 c) (fun e => e ▸ ip_mw11)
theorem ip_Ma13 : ∀ c, c < 13 → ip_Mok c := fun c h => (Nat.lt_or_eq_of_le (Nat.le_of_lt_succ h)).elim (ip_Ma12 c) (fun e => e ▸ ip_mw12)
theorem ip_Ma14 : ∀ c, c < 14 → ip_Mok c := fun c h => (Nat.lt_or_eq_of_le (Nat.le_of_lt_succ h)).elim (ip_Ma13 c) (fun e => e ▸ ip_mw13)
theorem ip_Ma15 : ∀ c, c < 15 → ip_Mok c := fun c h => (Nat.lt_or_eq_of_le (Nat.le_of_lt_succ h)).elim (ip_Ma14 c) (fun e => e ▸ ip_mw14)
theorem ip_Ma16 : ∀ c, c < 16 → ip_Mok c := fun c h => (Nat.lt_or_eq_of_le (Nat.le_of_lt_succ h)).elim (ip_Ma15 c) (fun e => e ▸ ip_mw15)
theorem ip_Ma17 : ∀ c, c < 17 → ip_Mok c := fun c h => (Nat.lt_or_eq_of_le (Nat.le_of_lt_succ h)).elim (ip_Ma16 c) (fun e => e ▸ ip_mw16)
theorem ip_Ma18 : ∀ c, c < 18 → ip_Mok c := fun c h => (Nat.lt_or_eq_of_le (Nat.le_of_lt_succ h)).elim (ip_Ma17 c) (fun e => e ▸ ip_mw17)
theorem ip_Ma19 : ∀ c, c < 19 → ip_Mok c := fun c h => (Nat.lt_or_eq_of_le (Nat.le_of_lt_succ h)).elim (ip_Ma18 c) (fun e => e ▸ ip_mw18)
theorem ip_Ma20 : ∀ c, c < 20 → ip_Mok c := fun c h => (Nat.lt_or_eq_of_le (Nat.le_of_lt_succ h)).elim (ip_Ma19 c) (fun e => e ▸ ip_mw19)
theorem ip_Ma21 : ∀ c, c < 21 → ip_Mok c := fun c h => (Nat.lt_or_eq_of_le (Nat.le_of_lt_succ h)).elim (ip_Ma20 c) (fun e => e ▸ ip_mw20)
theorem ip_Ma22 : ∀ c, c < 22 → ip_Mok c := fun c h => (Nat.lt_or_eq_of_le (Nat.le_of_lt_succ h)).elim (ip_Ma21 c) (fun e => e ▸ ip_mw21)
theorem ip_Ma23 : ∀ c, c < 23 → ip_Mok c := fun c h => (Nat.lt_or_eq_of_le (Nat.le_of_lt_succ h)).elim (ip_Ma22 c) (fun e => e ▸ ip_mw22)
theorem ip_Ma24 : ∀ c, c < 24 → ip_Mok c := fun c h => (Nat.lt_or_eq_of_le (Nat.le_of_lt_succ h)).elim (ip_Ma23 c) (fun e => e ▸ ip_mw23)
theorem ip_Ma25 : ∀ c, c < 25 → ip_Mok c := fun c h => (Nat.lt_or_eq_of_le (Nat.le_of_lt_succ h)).elim (ip_Ma24 c) (fun e => e ▸ ip_mw24)
theorem ip_Ma26 : ∀ c, c < 26 → ip_Mok c := fun c h => (Nat.lt_or_eq_of_le (Nat.le_of_lt_succ h)).elim (ip_Ma25 c) (fun e => e ▸ ip_mw25)
theorem ip_Ma27 : ∀ c, c < 27 → ip_Mok c := fun c h => (Nat.lt_or_eq_of_le (Nat.le_of_lt_succ h)).elim (ip_Ma26 c) (fun e => e ▸ ip_mw26)
theorem ip_Ma28 : ∀ c, c < 28 → ip_Mok c := fun c h => (Nat.lt_or_eq_of_le (Nat.le_of_lt_succ h)).elim (ip_Ma27 c) (fun e => e ▸ ip_mw27)
theorem ip_Ma29 : ∀ c, c < 29 → ip_Mok c := fun c h => (Nat.lt_or_eq_of_le (Nat.le_of_lt_succ h)).elim (ip_Ma28 c) (fun e => e ▸ ip_mw28)
theorem ip_Ma30 : ∀ c, c < 30 → ip_Mok c := fun c h => (Nat.lt_or_eq_of_le (Nat.le_of_lt_succ h)).elim (ip_Ma29 c) (fun e => e ▸ ip_mw29)
theorem ip_Ma31 : ∀ c, c < 31 → ip_Mok c := fun c h => (Nat.lt_or_eq_of_le (Nat.le_of_lt_succ h)).elim (ip_Ma30 c) (fun e => e ▸ ip_mw30)
theorem ip_Ma32 : ∀ c, c < 32 → ip_Mok c := fun c h => (Nat.lt_or_eq_of_le (Nat.le_of_lt_succ h)).elim (ip_Ma31 c) (fun e => e ▸ ip_mw31)
theorem ip_Ma33 : ∀ c, c < 33 → ip_Mok c := fun c h => (Nat.lt_or_eq_of_le (Nat.le_of_lt_succ h)).elim (ip_Ma32 c) (fun e => e ▸ ip_mw32)
theorem ip_Ma34 : ∀ c, c < 34 → ip_Mok c := fun c h => (Nat.lt_or_eq_of_le (Nat.le_of_lt_succ h)).elim (ip_Ma33 c) (fun e => e ▸ ip_mw33)
theorem ip_Ma35 : ∀ c, c < 35 → ip_Mok c := fun c h => (Nat.lt_or_eq_of_le (Nat.le_of_lt_succ h)).elim (ip_Ma34 c) (fun e => e ▸ ip_mw34)
theorem ip_Ma36 : ∀ c, c < 36 → ip_Mok c := fun c h => (Nat.lt_or_eq_of_le (Nat.le_of_lt_succ h)).elim (ip_Ma35 c) (fun e => e ▸ ip_mw35)
theorem ip_Ma37 : ∀ c, c < 37 → ip_Mok c := fun c h => (Nat.lt_or_eq_of_le (Nat.le_of_lt_succ h)).elim (ip_Ma36 c) (fun e => e ▸ ip_mw36)
theorem ip_Ma38 : ∀ c, c < 38 → ip_Mok c := fun c h => (Nat.lt_or_eq_of_le (Nat.le_of_lt_succ h)).elim (ip_Ma37 c) (fun e => e ▸ ip_mw37)
theorem ip_Ma39 : ∀ c, c < 39 → ip_Mok c := fun c h => (Nat.lt_or_eq_of_le (Nat.le_of_lt_succ h)).elim (ip_Ma38 c) (fun e => e ▸ ip_mw38)
theorem ip_Ma40 : ∀ c, c < 40 → ip_Mok c := fun c h => (Nat.lt_or_eq_of_le (Nat.le_of_lt_succ h)).elim (ip_Ma39 c) (fun e => e ▸ ip_mw39)
theorem ip_Ma41 : ∀ c, c < 41 → ip_Mok c := fun c h => (Nat.lt_or_eq_of_le (Nat.le_of_lt_succ h)).elim (ip_Ma40 c) (fun e => e ▸ ip_mw40)
theorem ip_Ma42 : ∀ c, c < 42 → ip_Mok c := fun c h => (Nat.lt_or_eq_of_le (Nat.le_of_lt_succ h)).elim (ip_Ma41 c) (fun e => e ▸ ip_mw41)
theorem ip_Ma43 : ∀ c, c < 43 → ip_Mok c := fun c h => (Nat.lt_or_eq_of_le (Nat.le_of_lt_succ h)).elim (ip_Ma42 c) (fun e => e ▸ ip_mw42)
theorem ip_Ma44 : ∀ c, c < 44 → ip_Mok c := fun c h => (Nat.lt_or_eq_of_le (Nat.le_of_lt_succ h)).elim (ip_Ma43 c) (fun e => e ▸ ip_mw43)
theorem ip_Ma45 : ∀ c, c < 45 → ip_Mok c := fun c h => (Nat.lt_or_eq_of_le (Nat.le_of_lt_succ h)).elim (ip_Ma44 c) (fun e => e ▸ ip_mw44)
theorem ip_Ma46 : ∀ c, c < 46 → ip_Mok c := fun c h => (Nat.lt_or_eq_of_le (Nat.le_of_lt_succ h)).elim (ip_Ma45 c) (fun e => e ▸ ip_mw45)
theorem ip_Ma47 : ∀ c, c < 47 → ip_Mok c := fun c h => (Nat.lt_or_eq_of_le (Nat.le_of_lt_succ h)).elim (ip_Ma46 c) (fun e => e ▸ ip_mw46)
theorem ip_Ma48 : ∀ c, c < 48 → ip_Mok c := fun c h => (Nat.lt_or_eq_of_le (Nat.le_of_lt_succ h)).elim (ip_Ma47 c) (fun e => e ▸ ip_mw47)
theorem ip_Ma49 : ∀ c, c < 49 → ip_Mok c := fun c h => (Nat.lt_or_eq_of_le (Nat.le_of_lt_succ h)).elim (ip_Ma48 c) (fun e => e ▸ ip_mw48)
theorem ip_Ma50 : ∀ c, c < 50 → ip_Mok c := fun c h => (Nat.lt_or_eq_of_le (Nat.le_of_lt_succ h)).elim (ip_Ma49 c) (fun e => e ▸ ip_mw49)
theorem ip_Ma51 : ∀ c, c < 51 → ip_Mok c := fun c h => (Nat.lt_or_eq_of_le (Nat.le_of_lt_succ h)).elim (ip_Ma50 c) (fun e => e ▸ ip_mw50)
theorem ip_Ma52 : ∀ c, c < 52 → ip_Mok c := fun c h => (Nat.lt_or_eq_of_le (Nat.le_of_lt_succ h)).elim (ip_Ma51 c) (fun e => e ▸ ip_mw51)
theorem ip_Ma53 : ∀ c, c < 53 → ip_Mok c := fun c h => (Nat.lt_or_eq_of_le (Nat.le_of_lt_succ h)).elim (ip_Ma52 c) (fun e => e ▸ ip_mw52)
theorem ip_Ma54 : ∀ c, c < 54 → ip_Mok c := fun c h => (Nat.lt_or_eq_of_le (Nat.le_of_lt_succ h)).elim (ip_Ma53 c) (fun e => e ▸ ip_mw53)
theorem ip_Ma55 : ∀ c, c < 55 → ip_Mok c := fun c h => (Nat.lt_or_eq_of_le (Nat.le_of_lt_succ h)).elim (ip_Ma54 c) (fun e => e ▸ ip_mw54)
theorem ip_Ma56 : ∀ c, c < 56 → ip_Mok c := fun c h => (Nat.lt_or_eq_of_le (Nat.le_of_lt_succ h)).elim (ip_Ma55 c) (fun e => e ▸ ip_mw55)
theorem ip_Ma57 : ∀ c, c < 57 → ip_Mok c := fun c h => (Nat.lt_or_eq_of_le (Nat.le_of_lt_succ h)).elim (ip_Ma56 c) (fun e => e ▸ ip_mw56)
theorem ip_Ma58 : ∀ c, c < 58 → ip_Mok c := fun c h => (Nat.lt_or_eq_of_le (Nat.le_of_lt_succ h)).elim (ip_Ma57 c) (fun e => e ▸ ip_mw57)
theorem ip_Ma59 : ∀ c, c < 59 → ip_Mok c := fun c h => (Nat.lt_or_eq_of_le (Nat.le_of_lt_succ h)).elim (ip_Ma58 c) (fun e => e ▸ ip_mw58)
theorem ip_Ma60 : ∀ c, c < 60 → ip_Mok c := fun c h => (Nat.lt_or_eq_of_le (Nat.le_of_lt_succ h)).elim (ip_Ma59 c) (fun e => e ▸ ip_mw59)
theorem ip_Ma61 : ∀ c, c < 61 → ip_Mok c := fun c h => (Nat.lt_or_eq_of_le (Nat.le_of_lt_succ h)).elim (ip_Ma60 c) (fun e => e ▸ ip_mw60)
theorem ip_Ma62 : ∀ c, c < 62 → ip_Mok c := fun c h => (Nat.lt_or_eq_of_le (Nat.le_of_lt_succ h)).elim (ip_Ma61 c) (fun e => e ▸ ip_mw61)
theorem ip_Ma63 : ∀ c, c < 63 → ip_Mok c := fun c h => (Nat.lt_or_eq_of_le (Nat.le_of_lt_succ h)).elim (ip_Ma62 c) (fun e => e ▸ ip_mw62)
theorem ip_Ma64 : ∀ c, c < 64 → ip_Mok c := fun c h => (Nat.lt_or_eq_of_le (Nat.le_of_lt_succ h)).elim (ip_Ma63 c) (fun e => e ▸ ip_mw63)
theorem ip_Ma65 : ∀ c, c < 65 → ip_Mok c := fun c h => (Nat.lt_or_eq_of_le (Nat.le_of_lt_succ h)).elim (ip_Ma64 c) (fun e => e ▸ ip_mw64)
theorem ip_Ma66 : ∀ c, c < 66 → ip_Mok c := fun c h => (Nat.lt_or_eq_of_le (Nat.le_of_lt_succ h)).elim (ip_Ma65 c) (fun e => e ▸ ip_mw65)
theorem ip_Ma67 : ∀ c, c < 67 → ip_Mok c := fun c h => (Nat.lt_or_eq_of_le (Nat.le_of_lt_succ h)).elim (ip_Ma66 c) (fun e => e ▸ ip_mw66)
theorem ip_Ma68 : ∀ c, c < 68 → ip_Mok c := fun c h => (Nat.lt_or_eq_of_le (Nat.le_of_lt_succ h)).elim (ip_Ma67 c) (fun e => e ▸ ip_mw67)
theorem ip_Ma69 : ∀ c, c < 69 → ip_Mok c := fun c h => (Nat.lt_or_eq_of_le (Nat.le_of_lt_succ h)).elim (ip_Ma68 c) (fun e => e ▸ ip_mw68)
theorem ip_Ma70 : ∀ c, c < 70 → ip_Mok c := fun c h => (Nat.lt_or_eq_of_le (Nat.le_of_lt_succ h)).elim (ip_Ma69 c) (fun e => e ▸ ip_mw69)
theorem ip_Ma71 : ∀ c, c < 71 → ip_Mok c := fun c h => (Nat.lt_or_eq_of_le (Nat.le_of_lt_succ h)).elim (ip_Ma70 c) (fun e => e ▸ ip_mw70)
theorem ip_Ma72 : ∀ c, c < 72 → ip_Mok c := fun c h => (Nat.lt_or_eq_of_le (Nat.le_of_lt_succ h)).elim (ip_Ma71 c) (fun e => e ▸ ip_mw71)
theorem ip_Ma73 : ∀ c, c < 73 → ip_Mok c := fun c h => (Nat.lt_or_eq_of_le (Nat.le_of_lt_succ h)).elim (ip_Ma72 c) (fun e => e ▸ ip_mw72)
theorem ip_Ma74 : ∀ c, c < 74 → ip_Mok c := fun c h => (Nat.lt_or_eq_of_le (Nat.le_of_lt_succ h)).elim (ip_Ma73 c) (fun e => e ▸ ip_mw73)
theorem ip_Ma75 : ∀ c, c < 75 → ip_Mok c := fun c h => (Nat.lt_or_eq_of_le (Nat.le_of_lt_succ h)).elim (ip_Ma74 c) (fun e => e ▸ ip_mw74)
theorem ip_Ma76 : ∀ c, c < 76 → ip_Mok c := fun c h => (Nat.lt_or_eq_of_le (Nat.le_of_lt_succ h)).elim (ip_Ma75 c) (fun e => e ▸ ip_mw75)
theorem ip_Ma77 : ∀ c, c < 77 → ip_Mok c := fun c h => (Nat.lt_or_eq_of_le (Nat.le_of_lt_succ h)).elim (ip_Ma76 c) (fun e => e ▸ ip_mw76)
theorem ip_Ma78 : ∀ c, c < 78 → ip_Mok c := fun c h => (Nat.lt_or_eq_of_le (Nat.le_of_lt_succ h)).elim (ip_Ma77 c) (fun e => e ▸ ip_mw77)
theorem ip_Ma79 : ∀ c, c < 79 → ip_Mok c := fun c h => (Nat.lt_or_eq_of_le (Nat.le_of_lt_succ h)).elim (ip_Ma78 c) (fun e => e ▸ ip_mw78)
theorem ip_Ma80 : ∀ c, c < 80 → ip_Mok c := fun c h => (Nat.lt_or_eq_of_le (Nat.le_of_lt_succ h)).elim (ip_Ma79 c) (fun e => e ▸ ip_mw79)
theorem ip_Ma81 : ∀ c, c < 81 → ip_Mok c := fun c h => (Nat.lt_or_eq_of_le (Nat.le_of_lt_succ h)).elim (ip_Ma80 c) (fun e => e ▸ ip_mw80)
theorem ip_Ma82 : ∀ c, c < 82 → ip_Mok c := fun c h => (Nat.lt_or_eq_of_le (Nat.le_of_lt_succ h)).elim (ip_Ma81 c) (fun e => e ▸ ip_mw81)
theorem ip_Ma83 : ∀ c, c < 83 → ip_Mok c := fun c h => (Nat.lt_or_eq_of_le (Nat.le_of_lt_succ h)).elim (ip_Ma82 c) (fun e => e ▸ ip_mw82)
theorem ip_Ma84 : ∀ c, c < 84 → ip_Mok c := fun c h => (Nat.lt_or_eq_of_le (Nat.le_of_lt_succ h)).elim (ip_Ma83 c) (fun e => e ▸ ip_mw83)
theorem ip_Ma85 : ∀ c, c < 85 → ip_Mok c := fun c h => (Nat.lt_or_eq_of_le (Nat.le_of_lt_succ h)).elim (ip_Ma84 c) (fun e => e ▸ ip_mw84)
theorem ip_Ma86 : ∀ c, c < 86 → ip_Mok c := fun c h => (Nat.lt_or_eq_of_le (Nat.le_of_lt_succ h)).elim (ip_Ma85 c) (fun e => e ▸ ip_mw85)
theorem ip_Ma87 : ∀ c, c < 87 → ip_Mok c := fun c h => (Nat.lt_or_eq_of_le (Nat.le_of_lt_succ h)).elim (ip_Ma86 c) (fun e => e ▸ ip_mw86)
theorem ip_Ma88 : ∀ c, c < 88 → ip_Mok c := fun c h => (Nat.lt_or_eq_of_le (Nat.le_of_lt_succ h)).elim (ip_Ma87 c) (fun e => e ▸ ip_mw87)
theorem ip_Ma89 : ∀ c, c < 89 → ip_Mok c := fun c h => (Nat.lt_or_eq_of_le (Nat.le_of_lt_succ h)).elim (ip_Ma88 c) (fun e => e ▸ ip_mw88)
theorem ip_Ma90 : ∀ c, c < 90 → ip_Mok c := fun c h => (Nat.lt_or_eq_of_le (Nat.le_of_lt_succ h)).elim (ip_Ma89 c) (fun e => e ▸ ip_mw89)
theorem ip_Ma91 : ∀ c, c < 91 → ip_Mok c := fun c h => (Nat.lt_or_eq_of_le (Nat.le_of_lt_succ h)).elim (ip_Ma90 c) (fun e => e ▸ ip_mw90)
theorem ip_Ma92 : ∀ c, c < 92 → ip_Mok c := fun c h => (Nat.lt_or_eq_of_le (Nat.le_of_lt_succ h)).elim (ip_Ma91 c) (fun e => e ▸ ip_mw91)
theorem ip_Ma93 : ∀ c, c < 93 → ip_Mok c := fun c h => (Nat.lt_or_eq_of_le (Nat.le_of_lt_succ h)).elim (ip_Ma92 c) (fun e => e ▸ ip_mw92)
theorem ip_Ma94 : ∀ c, c < 94 → ip_Mok c := fun c h => (Nat.lt_or_eq_of_le (Nat.le_of_lt_succ h)).elim (ip_Ma93 c) (fun e => e ▸ ip_mw93)
theorem ip_Ma95 : ∀ c, c < 95 → ip_Mok c := fun c h => (Nat.lt_or_eq_of_le (Nat.le_of_lt_succ h)).elim (ip_Ma94 c) (fun e => e ▸ ip_mw94)
theorem ip_Ma96 : ∀ c, c < 96 → ip_Mok c := fun c h => (Nat.lt_or_eq_of_le (Nat.le_of_lt_succ h)).elim (ip_Ma95 c) (fun e => e ▸ ip_mw95)
theorem ip_Ma97 : ∀ c, c < 97 → ip_Mok c := fun c h => (Nat.lt_or_eq_of_le (Nat.le_of_lt_succ h)).elim (ip_Ma96 c) (fun e => e ▸ ip_mw96)
theorem ip_Ma98 : ∀ c, c < 98 → ip_Mok c := fun c h => (Nat.lt_or_eq_of_le (Nat.le_of_lt_succ h)).elim (ip_Ma97 c) (fun e => e ▸ ip_mw97)
theorem ip_Ma99 : ∀ c, c < 99 → ip_Mok c := fun c h => (Nat.lt_or_eq_of_le (Nat.le_of_lt_succ h)).elim (ip_Ma98 c) (fun e => e ▸ ip_mw98)
theorem ip_Ma100 : ∀ c, c < 100 → ip_Mok c := fun c h => (Nat.lt_or_eq_of_le (Nat.le_of_lt_succ h)).elim (ip_Ma99 c) (fun e => e ▸ ip_mw99)
theorem ip_Ma101 : ∀ c, c < 101 → ip_Mok c := fun c h => (Nat.lt_or_eq_of_le (Nat.le_of_lt_succ h)).elim (ip_Ma100 c) (fun e => e ▸ ip_mw100)
theorem ip_Ma102 : ∀ c, c < 102 → ip_Mok c := fun c h => (Nat.lt_or_eq_of_le (Nat.le_of_lt_succ h)).elim (ip_Ma101 c) (fun e => e ▸ ip_mw101)
theorem ip_Ma103 : ∀ c, c < 103 → ip_Mok c := fun c h => (Nat.lt_or_eq_of_le (Nat.le_of_lt_succ h)).elim (ip_Ma102 c) (fun e => e ▸ ip_mw102)
theorem ip_Ma104 : ∀ c, c < 104 → ip_Mok c := fun c h => (Nat.lt_or_eq_of_le (Nat.le_of_lt_succ h)).elim (ip_Ma103 c) (fun e => e ▸ ip_mw103)
theorem ip_Ma105 : ∀ c, c < 105 → ip_Mok c := fun c h => (Nat.lt_or_eq_of_le (Nat.le_of_lt_succ h)).elim (ip_Ma104 c) (fun e => e ▸ ip_mw104)
theorem ip_Ma106 : ∀ c, c < 106 → ip_Mok c := fun c h => (Nat.lt_or_eq_of_le (Nat.le_of_lt_succ h)).elim (ip_Ma105 c) (fun e => e ▸ ip_mw105)
theorem ip_Ma107 : ∀ c, c < 107 → ip_Mok c := fun c h => (Nat.lt_or_eq_of_le (Nat.le_of_lt_succ h)).elim (ip_Ma106 c) (fun e => e ▸ ip_mw106)
theorem ip_Ma108 : ∀ c, c < 108 → ip_Mok c := fun c h => (Nat.lt_or_eq_of_le (Nat.le_of_lt_succ h)).elim (ip_Ma107 c) (fun e => e ▸ ip_mw107)
theorem ip_Ma109 : ∀ c, c < 109 → ip_Mok c := fun c h => (Nat.lt_or_eq_of_le (Nat.le_of_lt_succ h)).elim (ip_Ma108 c) (fun e => e ▸ ip_mw108)
theorem ip_Ma110 : ∀ c, c < 110 → ip_Mok c := fun c h => (Nat.lt_or_eq_of_le (Nat.le_of_lt_succ h)).elim (ip_Ma109 c) (fun e => e ▸ ip_mw109)
theorem ip_Ma111 : ∀ c, c < 111 → ip_Mok c := fun c h => (Nat.lt_or_eq_of_le (Nat.le_of_lt_succ h)).elim (ip_Ma110 c) (fun e => e ▸ ip_mw110)
theorem ip_Ma112 : ∀ c, c < 112 → ip_Mok c := fun c h => (Nat.lt_or_eq_of_le (Nat.le_of_lt_succ h)).elim (ip_Ma111 c) (fun e => e ▸ ip_mw111)
theorem ip_Ma113 : ∀ c, c < 113 → ip_Mok c := fun c h => (Nat.lt_or_eq_of_le (Nat.le_of_lt_succ h)).elim (ip_Ma112 c) (fun e => e ▸ ip_mw112)
theorem ip_Ma114 : ∀ c, c < 114 → ip_Mok c := fun c h => (Nat.lt_or_eq_of_le (Nat.le_of_lt_succ h)).elim (ip_Ma113 c) (fun e => e ▸ ip_mw113)
theorem ip_Ma115 : ∀ c, c < 115 → ip_Mok c := fun c h => (Nat.lt_or_eq_of_le (Nat.le_of_lt_succ h)).elim (ip_Ma114 c) (fun e => e ▸ ip_mw114)
theorem ip_Ma116 : ∀ c, c < 116 → ip_Mok c := fun c h => (Nat.lt_or_eq_of_le (Nat.le_of_lt_succ h)).elim (ip_Ma115 c) (fun e => e ▸ ip_mw115)
theorem ip_Ma117 : ∀ c, c < 117 → ip_Mok c := fun c h => (Nat.lt_or_eq_of_le (Nat.le_of_lt_succ h)).elim (ip_Ma116 c) (fun e => e ▸ ip_mw116)
theorem ip_Ma118 : ∀ c, c < 118 → ip_Mok c := fun c h => (Nat.lt_or_eq_of_le (Nat.le_of_lt_succ h)).elim (ip_Ma117 c) (fun e => e ▸ ip_mw117)
theorem ip_Ma119 : ∀ c, c < 119 → ip_Mok c := fun c h => (Nat.lt_or_eq_of_le (Nat.le_of_lt_succ h)).elim (ip_Ma118 c) (fun e => e ▸ ip_mw118)
theorem ip_Ma120 : ∀ c, c < 120 → ip_Mok c := fun c h => (Nat.lt_or_eq_of_le (Nat.le_of_lt_succ h)).elim (ip_Ma119 c) (fun e => e ▸ ip_mw119)
theorem ip_Ma121 : ∀ c, c < 121 → ip_Mok c := fun c h => (Nat.lt_or_eq_of_le (Nat.le_of_lt_succ h)).elim (ip_Ma120 c) (fun e => e ▸ ip_mw120)
theorem ip_Ma122 : ∀ c, c < 122 → ip_Mok c := fun c h => (Nat.lt_or_eq_of_le (Nat.le_of_lt_succ h)).elim (ip_Ma121 c) (fun e => e ▸ ip_mw121)
theorem ip_Ma123 : ∀ c, c < 123 → ip_Mok c := fun c h => (Nat.lt_or_eq_of_le (Nat.le_of_lt_succ h)).elim (ip_Ma122 c) (fun e => e ▸ ip_mw122)
theorem ip_Ma124 : ∀ c, c < 124 → ip_Mok c := fun c h => (Nat.lt_or_eq_of_le (Nat.le_of_lt_succ h)).elim (ip_Ma123 c) (fun e => e ▸ ip_mw123)
theorem ip_Ma125 : ∀ c, c < 125 → ip_Mok c := fun c h => (Nat.lt_or_eq_of_le (Nat.le_of_lt_succ h)).elim (ip_Ma124 c) (fun e => e ▸ ip_mw124)
theorem ip_Ma126 : ∀ c, c < 126 → ip_Mok c := fun c h => (Nat.lt_or_eq_of_le (Nat.le_of_lt_succ h)).elim (ip_Ma125 c) (fun e => e ▸ ip_mw125)
theorem ip_Ma127 : ∀ c, c < 127 → ip_Mok c := fun c h => (Nat.lt_or_eq_of_le (Nat.le_of_lt_succ h)).elim (ip_Ma126 c) (fun e => e ▸ ip_mw126)
theorem ip_Ma128 : ∀ c, c < 128 → ip_Mok c := fun c h => (Nat.lt_or_eq_of_le (Nat.le_of_lt_succ h)).elim (ip_Ma127 c) (fun e => e ▸ ip_mw127)
theorem ip_Ma129 : ∀ c, c < 129 → ip_Mok c := fun c h => (Nat.lt_or_eq_of_le (Nat.le_of_lt_succ h)).elim (ip_Ma128 c) (fun e => e ▸ ip_mw128)
theorem ip_Ma130 : ∀ c, c < 130 → ip_Mok c := fun c h => (Nat.lt_or_eq_of_le (Nat.le_of_lt_succ h)).elim (ip_Ma129 c) (fun e => e ▸ ip_mw129)
theorem ip_Ma131 : ∀ c, c < 131 → ip_Mok c := fun c h => (Nat.lt_or_eq_of_le (Nat.le_of_lt_succ h)).elim (ip_Ma130 c) (fun e => e ▸ ip_mw130)
theorem ip_Ma132 : ∀ c, c < 132 → ip_Mok c := fun c h => (Nat.lt_or_eq_of_le (Nat.le_of_lt_succ h)).elim (ip_Ma131 c) (fun e => e ▸ ip_mw131)
theorem ip_Ma133 : ∀ c, c < 133 → ip_Mok c := fun c h => (Nat.lt_or_eq_of_le (Nat.le_of_lt_succ h)).elim (ip_Ma132 c) (fun e => e ▸ ip_mw132)
theorem ip_Ma134 : ∀ c, c < 134 → ip_Mok c := fun c h => (Nat.lt_or_eq_of_le (Nat.le_of_lt_succ h)).elim (ip_Ma133 c) (fun e => e ▸ ip_mw133)
theorem ip_Ma135 : ∀ c, c < 135 → ip_Mok c := fun c h => (Nat.lt_or_eq_of_le (Nat.le_of_lt_succ h)).elim (ip_Ma134 c) (fun e => e ▸ ip_mw134)
theorem ip_Ma136 : ∀ c, c < 136 → ip_Mok c := fun c h => (Nat.lt_or_eq_of_le (Nat.le_of_lt_succ h)).elim (ip_Ma135 c) (fun e => e ▸ ip_mw135)
theorem ip_Ma137 : ∀ c, c < 137 → ip_Mok c := fun c h => (Nat.lt_or_eq_of_le (Nat.le_of_lt_succ h)).elim (ip_Ma136 c) (fun e => e ▸ ip_mw136)
theorem ip_Ma138 : ∀ c, c < 138 → ip_Mok c := fun c h => (Nat.lt_or_eq_of_le (Nat.le_of_lt_succ h)).elim (ip_Ma137 c) (fun e => e ▸ ip_mw137)
theorem ip_Ma139 : ∀ c, c < 139 → ip_Mok c := fun c h => (Nat.lt_or_eq_of_le (Nat.le_of_lt_succ h)).elim (ip_Ma138 c) (fun e => e ▸ ip_mw138)
theorem ip_Ma140 : ∀ c, c < 140 → ip_Mok c := fun c h => (Nat.lt_or_eq_of_le (Nat.le_of_lt_succ h)).elim (ip_Ma139 c) (fun e => e ▸ ip_mw139)
theorem ip_Ma141 : ∀ c, c < 141 → ip_Mok c := fun c h => (Nat.lt_or_eq_of_le (Nat.le_of_lt_succ h)).elim (ip_Ma140 c) (fun e => e ▸ ip_mw140)
theorem ip_Ma142 : ∀ c, c < 142 → ip_Mok c := fun c h => (Nat.lt_or_eq_of_le (Nat.le_of_lt_succ h)).elim (ip_Ma141 c) (fun e => e ▸ ip_mw141)
theorem ip_Ma143 : ∀ c, c < 143 → ip_Mok c := fun c h => (Nat.lt_or_eq_of_le (Nat.le_of_lt_succ h)).elim (ip_Ma142 c) (fun e => e ▸ ip_mw142)
theorem ip_Ma144 : ∀ c, c < 144 → ip_Mok c := fun c h => (Nat.lt_or_eq_of_le (Nat.le_of_lt_succ h)).elim (ip_Ma143 c) (fun e => e ▸ ip_mw143)
theorem ip_Ma145 : ∀ c, c < 145 → ip_Mok c := fun c h => (Nat.lt_or_eq_of_le (Nat.le_of_lt_succ h)).elim (ip_Ma144 c) (fun e => e ▸ ip_mw144)
theorem ip_Ma146 : ∀ c, c < 146 → ip_Mok c := fun c h => (Nat.lt_or_eq_of_le (Nat.le_of_lt_succ h)).elim (ip_Ma145 c) (fun e => e ▸ ip_mw145)
theorem ip_Ma147 : ∀ c, c < 147 → ip_Mok c := fun c h => (Nat.lt_or_eq_of_le (Nat.le_of_lt_succ h)).elim (ip_Ma146 c) (fun e => e ▸ ip_mw146)
theorem ip_Ma148 : ∀ c, c < 148 → ip_Mok c := fun c h => (Nat.lt_or_eq_of_le (Nat.le_of_lt_succ h)).elim (ip_Ma147 c) (fun e => e ▸ ip_mw147)
theorem ip_Ma149 : ∀ c, c < 149 → ip_Mok c := fun c h => (Nat.lt_or_eq_of_le (Nat.le_of_lt_succ h)).elim (ip_Ma148 c) (fun e => e ▸ ip_mw148)
theorem ip_Ma150 : ∀ c, c < 150 → ip_Mok c := fun c h => (Nat.lt_or_eq_of_le (Nat.le_of_lt_succ h)).elim (ip_Ma149 c) (fun e => e ▸ ip_mw149)
theorem ip_Ma151 : ∀ c, c < 151 → ip_Mok c := fun c h => (Nat.lt_or_eq_of_le (Nat.le_of_lt_succ h)).elim (ip_Ma150 c) (fun e => e ▸ ip_mw150)
theorem ip_Ma152 : ∀ c, c < 152 → ip_Mok c := fun c h => (Nat.lt_or_eq_of_le (Nat.le_of_lt_succ h)).elim (ip_Ma151 c) (fun e => e ▸ ip_mw151)
theorem ip_Ma153 : ∀ c, c < 153 → ip_Mok c := fun c h => (Nat.lt_or_eq_of_le (Nat.le_of_lt_succ h)).elim (ip_Ma152 c) (fun e => e ▸ ip_mw152)
theorem ip_Ma154 : ∀ c, c < 154 → ip_Mok c := fun c h => (Nat.lt_or_eq_of_le (Nat.le_of_lt_succ h)).elim (ip_Ma153 c) (fun e => e ▸ ip_mw153)
theorem ip_Ma155 : ∀ c, c < 155 → ip_Mok c := fun c h => (Nat.lt_or_eq_of_le (Nat.le_of_lt_succ h)).elim (ip_Ma154 c) (fun e => e ▸ ip_mw154)
theorem ip_Ma156 : ∀ c, c < 156 → ip_Mok c := fun c h => (Nat.lt_or_eq_of_le (Nat.le_of_lt_succ h)).elim (ip_Ma155 c) (fun e => e ▸ ip_mw155)
theorem ip_Ma157 : ∀ c, c < 157 → ip_Mok c := fun c h => (Nat.lt_or_eq_of_le (Nat.le_of_lt_succ h)).elim (ip_Ma156 c) (fun e => e ▸ ip_mw156)
theorem ip_Ma158 : ∀ c, c < 158 → ip_Mok c := fun c h => (Nat.lt_or_eq_of_le (Nat.le_of_lt_succ h)).elim (ip_Ma157 c) (fun e => e ▸ ip_mw157)
theorem ip_Ma159 : ∀ c, c < 159 → ip_Mok c := fun c h => (Nat.lt_or_eq_of_le (Nat.le_of_lt_succ h)).elim (ip_Ma158 c) (fun e => e ▸ ip_mw158)
theorem ip_Ma160 : ∀ c, c < 160 → ip_Mok c := fun c h => (Nat.lt_or_eq_of_le (Nat.le_of_lt_succ h)).elim (ip_Ma159 c) (fun e => e ▸ ip_mw159)
theorem ip_Ma161 : ∀ c, c < 161 → ip_Mok c := fun c h => (Nat.lt_or_eq_of_le (Nat.le_of_lt_succ h)).elim (ip_Ma160 c) (fun e => e ▸ ip_mw160)
theorem ip_Ma162 : ∀ c, c < 162 → ip_Mok c := fun c h => (Nat.lt_or_eq_of_le (Nat.le_of_lt_succ h)).elim (ip_Ma161 c) (fun e => e ▸ ip_mw161)
theorem ip_Ma163 : ∀ c, c < 163 → ip_Mok c := fun c h => (Nat.lt_or_eq_of_le (Nat.le_of_lt_succ h)).elim (ip_Ma162 c) (fun e => e ▸ ip_mw162)
theorem ip_Ma164 : ∀ c, c < 164 → ip_Mok c := fun c h => (Nat.lt_or_eq_of_le (Nat.le_of_lt_succ h)).elim (ip_Ma163 c) (fun e => e ▸ ip_mw163)
theorem ip_Ma165 : ∀ c, c < 165 → ip_Mok c := fun c h => (Nat.lt_or_eq_of_le (Nat.le_of_lt_succ h)).elim (ip_Ma164 c) (fun e => e ▸ ip_mw164)
theorem ip_Ma166 : ∀ c, c < 166 → ip_Mok c := fun c h => (Nat.lt_or_eq_of_le (Nat.le_of_lt_succ h)).elim (ip_Ma165 c) (fun e => e ▸ ip_mw165)
theorem ip_Ma167 : ∀ c, c < 167 → ip_Mok c := fun c h => (Nat.lt_or_eq_of_le (Nat.le_of_lt_succ h)).elim (ip_Ma166 c) (fun e => e ▸ ip_mw166)
theorem ip_Ma168 : ∀ c, c < 168 → ip_Mok c := fun c h => (Nat.lt_or_eq_of_le (Nat.le_of_lt_succ h)).elim (ip_Ma167 c) (fun e => e ▸ ip_mw167)
theorem ip_Ma169 : ∀ c, c < 169 → ip_Mok c := fun c h => (Nat.lt_or_eq_of_le (Nat.le_of_lt_succ h)).elim (ip_Ma168 c) (fun e => e ▸ ip_mw168)
theorem ip_Ma170 : ∀ c, c < 170 → ip_Mok c := fun c h => (Nat.lt_or_eq_of_le (Nat.le_of_lt_succ h)).elim (ip_Ma169 c) (fun e => e ▸ ip_mw169)
theorem ip_Ma171 : ∀ c, c < 171 → ip_Mok c := fun c h => (Nat.lt_or_eq_of_le (Nat.le_of_lt_succ h)).elim (ip_Ma170 c) (fun e => e ▸ ip_mw170)
theorem ip_Ma172 : ∀ c, c < 172 → ip_Mok c := fun c h => (Nat.lt_or_eq_of_le (Nat.le_of_lt_succ h)).elim (ip_Ma171 c) (fun e => e ▸ ip_mw171)
theorem ip_Ma173 : ∀ c, c < 173 → ip_Mok c := fun c h => (Nat.lt_or_eq_of_le (Nat.le_of_lt_succ h)).elim (ip_Ma172 c) (fun e => e ▸ ip_mw172)
theorem ip_Ma174 : ∀ c, c < 174 → ip_Mok c := fun c h => (Nat.lt_or_eq_of_le (Nat.le_of_lt_succ h)).elim (ip_Ma173 c) (fun e => e ▸ ip_mw173)
theorem ip_Ma175 : ∀ c, c < 175 → ip_Mok c := fun c h => (Nat.lt_or_eq_of_le (Nat.le_of_lt_succ h)).elim (ip_Ma174 c) (fun e => e ▸ ip_mw174)
theorem ip_Ma176 : ∀ c, c < 176 → ip_Mok c := fun c h => (Nat.lt_or_eq_of_le (Nat.le_of_lt_succ h)).elim (ip_Ma175 c) (fun e => e ▸ ip_mw175)
theorem ip_Ma177 : ∀ c, c < 177 → ip_Mok c := fun c h => (Nat.lt_or_eq_of_le (Nat.le_of_lt_succ h)).elim (ip_Ma176 c) (fun e => e ▸ ip_mw176)
theorem ip_Ma178 : ∀ c, c < 178 → ip_Mok c := fun c h => (Nat.lt_or_eq_of_le (Nat.le_of_lt_succ h)).elim (ip_Ma177 c) (fun e => e ▸ ip_mw177)
theorem ip_Ma179 : ∀ c, c < 179 → ip_Mok c := fun c h => (Nat.lt_or_eq_of_le (Nat.le_of_lt_succ h)).elim (ip_Ma178 c) (fun e => e ▸ ip_mw178)
theorem ip_Ma180 : ∀ c, c < 180 → ip_Mok c := fun c h => (Nat.lt_or_eq_of_le (Nat.le_of_lt_succ h)).elim (ip_Ma179 c) (fun e => e ▸ ip_mw179)
theorem ip_Ma181 : ∀ c, c < 181 → ip_Mok c := fun c h => (Nat.lt_or_eq_of_le (Nat.le_of_lt_succ h)).elim (ip_Ma180 c) (fun e => e ▸ ip_mw180)
theorem ip_Ma182 : ∀ c, c < 182 → ip_Mok c := fun c h => (Nat.lt_or_eq_of_le (Nat.le_of_lt_succ h)).elim (ip_Ma181 c) (fun e => e ▸ ip_mw181)
theorem ip_Ma183 : ∀ c, c < 183 → ip_Mok c := fun c h => (Nat.lt_or_eq_of_le (Nat.le_of_lt_succ h)).elim (ip_Ma182 c) (fun e => e ▸ ip_mw182)
theorem ip_Ma184 : ∀ c, c < 184 → ip_Mok c := fun c h => (Nat.lt_or_eq_of_le (Nat.le_of_lt_succ h)).elim (ip_Ma183 c) (fun e => e ▸ ip_mw183)
theorem ip_Ma185 : ∀ c, c < 185 → ip_Mok c := fun c h => (Nat.lt_or_eq_of_le (Nat.le_of_lt_succ h)).elim (ip_Ma184 c) (fun e => e ▸ ip_mw184)
theorem ip_Ma186 : ∀ c, c < 186 → ip_Mok c := fun c h => (Nat.lt_or_eq_of_le (Nat.le_of_lt_succ h)).elim (ip_Ma185 c) (fun e => e ▸ ip_mw185)
theorem ip_Ma187 : ∀ c, c < 187 → ip_Mok c := fun c h => (Nat.lt_or_eq_of_le (Nat.le_of_lt_succ h)).elim (ip_Ma186 c) (fun e => e ▸ ip_mw186)
theorem ip_Ma188 : ∀ c, c < 188 → ip_Mok c := fun c h => (Nat.lt_or_eq_of_le (Nat.le_of_lt_succ h)).elim (ip_Ma187 c) (fun e => e ▸ ip_mw187)
theorem ip_Ma189 : ∀ c, c < 189 → ip_Mok c := fun c h => (Nat.lt_or_eq_of_le (Nat.le_of_lt_succ h)).elim (ip_Ma188 c) (fun e => e ▸ ip_mw188)
theorem ip_Ma190 : ∀ c, c < 190 → ip_Mok c := fun c h => (Nat.lt_or_eq_of_le (Nat.le_of_lt_succ h)).elim (ip_Ma189 c) (fun e => e ▸ ip_mw189)
theorem ip_Ma191 : ∀ c, c < 191 → ip_Mok c := fun c h => (Nat.lt_or_eq_of_le (Nat.le_of_lt_succ h)).elim (ip_Ma190 c) (fun e => e ▸ ip_mw190)
theorem ip_Ma192 : ∀ c, c < 192 → ip_Mok c := fun c h => (Nat.lt_or_eq_of_le (Nat.le_of_lt_succ h)).elim (ip_Ma191 c) (fun e => e ▸ ip_mw191)
theorem ip_Ma193 : ∀ c, c < 193 → ip_Mok c := fun c h => (Nat.lt_or_eq_of_le (Nat.le_of_lt_succ h)).elim (ip_Ma192 c) (fun e => e ▸ ip_mw192)
theorem ip_Ma194 : ∀ c, c < 194 → ip_Mok c := fun c h => (Nat.lt_or_eq_of_le (Nat.le_of_lt_succ h)).elim (ip_Ma193 c) (fun e => e ▸ ip_mw193)
theorem ip_Ma195 : ∀ c, c < 195 → ip_Mok c := fun c h => (Nat.lt_or_eq_of_le (Nat.le_of_lt_succ h)).elim (ip_Ma194 c) (fun e => e ▸ ip_mw194)
theorem ip_Ma196 : ∀ c, c < 196 → ip_Mok c := fun c h => (Nat.lt_or_eq_of_le (Nat.le_of_lt_succ h)).elim (ip_Ma195 c) (fun e => e ▸ ip_mw195)
theorem ip_Ma197 : ∀ c, c < 197 → ip_Mok c := fun c h => (Nat.lt_or_eq_of_le (Nat.le_of_lt_succ h)).elim (ip_Ma196 c) (fun e => e ▸ ip_mw196)
theorem ip_Ma198 : ∀ c, c < 198 → ip_Mok c := fun c h => (Nat.lt_or_eq_of_le (Nat.le_of_lt_succ h)).elim (ip_Ma197 c) (fun e => e ▸ ip_mw197)
theorem ip_Ma199 : ∀ c, c < 199 → ip_Mok c := fun c h => (Nat.lt_or_eq_of_le (Nat.le_of_lt_succ h)).elim (ip_Ma198 c) (fun e => e ▸ ip_mw198)
theorem ip_Ma200 : ∀ c, c < 200 → ip_Mok c := fun c h => (Nat.lt_or_eq_of_le (Nat.le_of_lt_succ h)).elim (ip_Ma199 c) (fun e => e ▸ ip_mw199)
theorem ip_Ma201 : ∀ c, c < 201 → ip_Mok c := fun c h => (Nat.lt_or_eq_of_le (Nat.le_of_lt_succ h)).elim (ip_Ma200 c) (fun e => e ▸ ip_mw200)
theorem ip_Ma202 : ∀ c, c < 202 → ip_Mok c := fun c h => (Nat.lt_or_eq_of_le (Nat.le_of_lt_succ h)).elim (ip_Ma201 c) (fun e => e ▸ ip_mw201)
theorem ip_Ma203 : ∀ c, c < 203 → ip_Mok c := fun c h => (Nat.lt_or_eq_of_le (Nat.le_of_lt_succ h)).elim (ip_Ma202 c) (fun e => e ▸ ip_mw202)
theorem ip_Ma204 : ∀ c, c < 204 → ip_Mok c := fun c h => (Nat.lt_or_eq_of_le (Nat.le_of_lt_succ h)).elim (ip_Ma203 c) (fun e => e ▸ ip_mw203)
theorem ip_Ma205 : ∀ c, c < 205 → ip_Mok c := fun c h => (Nat.lt_or_eq_of_le (Nat.le_of_lt_succ h)).elim (ip_Ma204 c) (fun e => e ▸ ip_mw204)
theorem ip_Ma206 : ∀ c, c < 206 → ip_Mok c := fun c h => (Nat.lt_or_eq_of_le (Nat.le_of_lt_succ h)).elim (ip_Ma205 c) (fun e => e ▸ ip_mw205)
theorem ip_Ma207 : ∀ c, c < 207 → ip_Mok c := fun c h => (Nat.lt_or_eq_of_le (Nat.le_of_lt_succ h)).elim (ip_Ma206 c) (fun e => e ▸ ip_mw206)
theorem ip_Ma208 : ∀ c, c < 208 → ip_Mok c := fun c h => (Nat.lt_or_eq_of_le (Nat.le_of_lt_succ h)).elim (ip_Ma207 c) (fun e => e ▸ ip_mw207)
theorem ip_Ma209 : ∀ c, c < 209 → ip_Mok c := fun c h => (Nat.lt_or_eq_of_le (Nat.le_of_lt_succ h)).elim (ip_Ma208 c) (fun e => e ▸ ip_mw208)
theorem ip_Ma210 : ∀ c, c < 210 → ip_Mok c := fun c h => (Nat.lt_or_eq_of_le (Nat.le_of_lt_succ h)).elim (ip_Ma209 c) (fun e => e ▸ ip_mw209)
theorem ip_Ma211 : ∀ c, c < 211 → ip_Mok c := fun c h => (Nat.lt_or_eq_of_le (Nat.le_of_lt_succ h)).elim (ip_Ma210 c) (fun e => e ▸ ip_mw210)
theorem ip_Ma212 : ∀ c, c < 212 → ip_Mok c := fun c h => (Nat.lt_or_eq_of_le (Nat.le_of_lt_succ h)).elim (ip_Ma211 c) (fun e => e ▸ ip_mw211)
theorem ip_Ma213 : ∀ c, c < 213 → ip_Mok c := fun c h => (Nat.lt_or_eq_of_le (Nat.le_of_lt_succ h)).elim (ip_Ma212 c) (fun e => e ▸ ip_mw212)
theorem ip_Ma214 : ∀ c, c < 214 → ip_Mok c := fun c h => (Nat.lt_or_eq_of_le (Nat.le_of_lt_succ h)).elim (ip_Ma213 c) (fun e => e ▸ ip_mw213)
theorem ip_Ma215 : ∀ c, c < 215 → ip_Mok c := fun c h => (Nat.lt_or_eq_of_le (Nat.le_of_lt_succ h)).elim (ip_Ma214 c) (fun e => e ▸ ip_mw214)
theorem ip_Ma216 : ∀ c, c < 216 → ip_Mok c := fun c h => (Nat.lt_or_eq_of_le (Nat.le_of_lt_succ h)).elim (ip_Ma215 c) (fun e => e ▸ ip_mw215)
theorem ip_Ma217 : ∀ c, c < 217 → ip_Mok c := fun c h => (Nat.lt_or_eq_of_le (Nat.le_of_lt_succ h)).elim (ip_Ma216 c) (fun e => e ▸ ip_mw216)
theorem ip_Ma218 : ∀ c, c < 218 → ip_Mok c := fun c h => (Nat.lt_or_eq_of_le (Nat.le_of_lt_succ h)).elim (ip_Ma217 c) (fun e => e ▸ ip_mw217)
theorem ip_Ma219 : ∀ c, c < 219 → ip_Mok c := fun c h => (Nat.lt_or_eq_of_le (Nat.le_of_lt_succ h)).elim (ip_Ma218 c) (fun e => e ▸ ip_mw218)
theorem ip_Ma220 : ∀ c, c < 220 → ip_Mok c := fun c h => (Nat.lt_or_eq_of_le (Nat.le_of_lt_succ h)).elim (ip_Ma219 c) (fun e => e ▸ ip_mw219)
theorem ip_Ma221 : ∀ c, c < 221 → ip_Mok c := fun c h => (Nat.lt_or_eq_of_le (Nat.le_of_lt_succ h)).elim (ip_Ma220 c) (fun e => e ▸ ip_mw220)
theorem ip_Ma222 : ∀ c, c < 222 → ip_Mok c := fun c h => (Nat.lt_or_eq_of_le (Nat.le_of_lt_succ h)).elim (ip_Ma221 c) (fun e => e ▸ ip_mw221)
theorem ip_Ma223 : ∀ c, c < 223 → ip_Mok c := fun c h => (Nat.lt_or_eq_of_le (Nat.le_of_lt_succ h)).elim (ip_Ma222 c) (fun e => e ▸ ip_mw222)
theorem ip_Ma224 : ∀ c, c < 224 → ip_Mok c := fun c h => (Nat.lt_or_eq_of_le (Nat.le_of_lt_succ h)).elim (ip_Ma223 c) (fun e => e ▸ ip_mw223)
theorem ip_Ma225 : ∀ c, c < 225 → ip_Mok c := fun c h => (Nat.lt_or_eq_of_le (Nat.le_of_lt_succ h)).elim (ip_Ma224 c) (fun e => e ▸ ip_mw224)
theorem ip_Ma226 : ∀ c, c < 226 → ip_Mok c := fun c h => (Nat.lt_or_eq_of_le (Nat.le_of_lt_succ h)).elim (ip_Ma225 c) (fun e => e ▸ ip_mw225)
theorem ip_Ma227 : ∀ c, c < 227 → ip_Mok c := fun c h => (Nat.lt_or_eq_of_le (Nat.le_of_lt_succ h)).elim (ip_Ma226 c) (fun e => e ▸ ip_mw226)
theorem ip_Ma228 : ∀ c, c < 228 → ip_Mok c := fun c h => (Nat.lt_or_eq_of_le (Nat.le_of_lt_succ h)).elim (ip_Ma227 c) (fun e => e ▸ ip_mw227)
theorem ip_Ma229 : ∀ c, c < 229 → ip_Mok c := fun c h => (Nat.lt_or_eq_of_le (Nat.le_of_lt_succ h)).elim (ip_Ma228 c) (fun e => e ▸ ip_mw228)
theorem ip_Ma230 : ∀ c, c < 230 → ip_Mok c := fun c h => (Nat.lt_or_eq_of_le (Nat.le_of_lt_succ h)).elim (ip_Ma229 c) (fun e => e ▸ ip_mw229)
theorem ip_Ma231 : ∀ c, c < 231 → ip_Mok c := fun c h => (Nat.lt_or_eq_of_le (Nat.le_of_lt_succ h)).elim (ip_Ma230 c) (fun e => e ▸ ip_mw230)
theorem ip_Ma232 : ∀ c, c < 232 → ip_Mok c := fun c h => (Nat.lt_or_eq_of_le (Nat.le_of_lt_succ h)).elim (ip_Ma231 c) (fun e => e ▸ ip_mw231)
theorem ip_Ma233 : ∀ c, c < 233 → ip_Mok c := fun c h => (Nat.lt_or_eq_of_le (Nat.le_of_lt_succ h)).elim (ip_Ma232 c) (fun e => e ▸ ip_mw232)
theorem ip_Ma234 : ∀ c, c < 234 → ip_Mok c := fun c h => (Nat.lt_or_eq_of_le (Nat.le_of_lt_succ h)).elim (ip_Ma233 c) (fun e => e ▸ ip_mw233)
theorem ip_Ma235 : ∀ c, c < 235 → ip_Mok c := fun c h => (Nat.lt_or_eq_of_le (Nat.le_of_lt_succ h)).elim (ip_Ma234 c) (fun e => e ▸ ip_mw234)
theorem ip_Ma236 : ∀ c, c < 236 → ip_Mok c := fun c h => (Nat.lt_or_eq_of_le (Nat.le_of_lt_succ h)).elim (ip_Ma235 c) (fun e => e ▸ ip_mw235)
theorem ip_Ma237 : ∀ c, c < 237 → ip_Mok c := fun c h => (Nat.lt_or_eq_of_le (Nat.le_of_lt_succ h)).elim (ip_Ma236 c) (fun e => e ▸ ip_mw236)
theorem ip_Ma238 : ∀ c, c < 238 → ip_Mok c := fun c h => (Nat.lt_or_eq_of_le (Nat.le_of_lt_succ h)).elim (ip_Ma237 c) (fun e => e ▸ ip_mw237)
theorem ip_Ma239 : ∀ c, c < 239 → ip_Mok c := fun c h => (Nat.lt_or_eq_of_le (Nat.le_of_lt_succ h)).elim (ip_Ma238 c) (fun e => e ▸ ip_mw238)
theorem ip_Ma240 : ∀ c, c < 240 → ip_Mok c := fun c h => (Nat.lt_or_eq_of_le (Nat.le_of_lt_succ h)).elim (ip_Ma239 c) (fun e => e ▸ ip_mw239)
theorem ip_Ma241 : ∀ c, c < 241 → ip_Mok c := fun c h => (Nat.lt_or_eq_of_le (Nat.le_of_lt_succ h)).elim (ip_Ma240 c) (fun e => e ▸ ip_mw240)
theorem ip_Ma242 : ∀ c, c < 242 → ip_Mok c := fun c h => (Nat.lt_or_eq_of_le (Nat.le_of_lt_succ h)).elim (ip_Ma241 c) (fun e => e ▸ ip_mw241)
theorem ip_Ma243 : ∀ c, c < 243 → ip_Mok c := fun c h => (Nat.lt_or_eq_of_le (Nat.le_of_lt_succ h)).elim (ip_Ma242 c) (fun e => e ▸ ip_mw242)
theorem ip_Ma244 : ∀ c, c < 244 → ip_Mok c := fun c h => (Nat.lt_or_eq_of_le (Nat.le_of_lt_succ h)).elim (ip_Ma243 c) (fun e => e ▸ ip_mw243)
theorem ip_Ma245 : ∀ c, c < 245 → ip_Mok c := fun c h => (Nat.lt_or_eq_of_le (Nat.le_of_lt_succ h)).elim (ip_Ma244 c) (fun e => e ▸ ip_mw244)
theorem ip_Ma246 : ∀ c, c < 246 → ip_Mok c := fun c h => (Nat.lt_or_eq_of_le (Nat.le_of_lt_succ h)).elim (ip_Ma245 c) (fun e => e ▸ ip_mw245)
theorem ip_Ma247 : ∀ c, c < 247 → ip_Mok c := fun c h => (Nat.lt_or_eq_of_le (Nat.le_of_lt_succ h)).elim (ip_Ma246 c) (fun e => e ▸ ip_mw246)
theorem ip_Ma248 : ∀ c, c < 248 → ip_Mok c := fun c h => (Nat.lt_or_eq_of_le (Nat.le_of_lt_succ h)).elim (ip_Ma247 c) (fun e => e ▸ ip_mw247)
theorem ip_Ma249 : ∀ c, c < 249 → ip_Mok c := fun c h => (Nat.lt_or_eq_of_le (Nat.le_of_lt_succ h)).elim (ip_Ma248 c) (fun e => e ▸ ip_mw248)
theorem ip_Ma250 : ∀ c, c < 250 → ip_Mok c := fun c h => (Nat.lt_or_eq_of_le (Nat.le_of_lt_succ h)).elim (ip_Ma249 c) (fun e => e ▸ ip_mw249)
theorem ip_Ma251 : ∀ c, c < 251 → ip_Mok c := fun c h => (Nat.lt_or_eq_of_le (Nat.le_of_lt_succ h)).elim (ip_Ma250 c) (fun e => e ▸ ip_mw250)
theorem ip_Ma252 : ∀ c, c < 252 → ip_Mok c := fun c h => (Nat.lt_or_eq_of_le (Nat.le_of_lt_succ h)).elim (ip_Ma251 c) (fun e => e ▸ ip_mw251)
theorem ip_Ma253 : ∀ c, c < 253 → ip_Mok c := fun c h => (Nat.lt_or_eq_of_le (Nat.le_of_lt_succ h)).elim (ip_Ma252 c) (fun e => e ▸ ip_mw252)
theorem ip_Ma254 : ∀ c, c < 254 → ip_Mok c := fun c h => (Nat.lt_or_eq_of_le (Nat.le_of_lt_succ h)).elim (ip_Ma253 c) (fun e => e ▸ ip_mw253)
theorem ip_Ma255 : ∀ c, c < 255 → ip_Mok c := fun c h => (Nat.lt_or_eq_of_le (Nat.le_of_lt_succ h)).elim (ip_Ma254 c) (fun e => e ▸ ip_mw254)
theorem ip_Ma256 : ∀ c, c < 256 → ip_Mok c := fun c h => (Nat.lt_or_eq_of_le (Nat.le_of_lt_succ h)).elim (ip_Ma255 c) (fun e => e ▸ ip_mw255)
theorem ip_Ma257 : ∀ c, c < 257 → ip_Mok c := fun c h => (Nat.lt_or_eq_of_le (Nat.le_of_lt_succ h)).elim (ip_Ma256 c) (fun e => e ▸ ip_mw256)
theorem ip_Ma258 : ∀ c, c < 258 → ip_Mok c := fun c h => (Nat.lt_or_eq_of_le (Nat.le_of_lt_succ h)).elim (ip_Ma257 c) (fun e => e ▸ ip_mw257)
theorem ip_Ma259 : ∀ c, c < 259 → ip_Mok c := fun c h => (Nat.lt_or_eq_of_le (Nat.le_of_lt_succ h)).elim (ip_Ma258 c) (fun e => e ▸ ip_mw258)
theorem ip_Ma260 : ∀ c, c < 260 → ip_Mok c := fun c h => (Nat.lt_or_eq_of_le (Nat.le_of_lt_succ h)).elim (ip_Ma259 c) (fun e => e ▸ ip_mw259)
theorem ip_Ma261 : ∀ c, c < 261 → ip_Mok c := fun c h => (Nat.lt_or_eq_of_le (Nat.le_of_lt_succ h)).elim (ip_Ma260 c) (fun e => e ▸ ip_mw260)
theorem ip_Ma262 : ∀ c, c < 262 → ip_Mok c := fun c h => (Nat.lt_or_eq_of_le (Nat.le_of_lt_succ h)).elim (ip_Ma261 c) (fun e => e ▸ ip_mw261)
theorem ip_Ma263 : ∀ c, c < 263 → ip_Mok c := fun c h => (Nat.lt_or_eq_of_le (Nat.le_of_lt_succ h)).elim (ip_Ma262 c) (fun e => e ▸ ip_mw262)
theorem ip_Ma264 : ∀ c, c < 264 → ip_Mok c := fun c h => (Nat.lt_or_eq_of_le (Nat.le_of_lt_succ h)).elim (ip_Ma263 c) (fun e => e ▸ ip_mw263)
theorem ip_Ma265 : ∀ c, c < 265 → ip_Mok c := fun c h => (Nat.lt_or_eq_of_le (Nat.le_of_lt_succ h)).elim (ip_Ma264 c) (fun e => e ▸ ip_mw264)
theorem ip_Ma266 : ∀ c, c < 266 → ip_Mok c := fun c h => (Nat.lt_or_eq_of_le (Nat.le_of_lt_succ h)).elim (ip_Ma265 c) (fun e => e ▸ ip_mw265)
theorem ip_Ma267 : ∀ c, c < 267 → ip_Mok c := fun c h => (Nat.lt_or_eq_of_le (Nat.le_of_lt_succ h)).elim (ip_Ma266 c) (fun e => e ▸ ip_mw266)
theorem ip_Ma268 : ∀ c, c < 268 → ip_Mok c := fun c h => (Nat.lt_or_eq_of_le (Nat.le_of_lt_succ h)).elim (ip_Ma267 c) (fun e => e ▸ ip_mw267)
theorem ip_Ma269 : ∀ c, c < 269 → ip_Mok c := fun c h => (Nat.lt_or_eq_of_le (Nat.le_of_lt_succ h)).elim (ip_Ma268 c) (fun e => e ▸ ip_mw268)
theorem ip_Ma270 : ∀ c, c < 270 → ip_Mok c := fun c h => (Nat.lt_or_eq_of_le (Nat.le_of_lt_succ h)).elim (ip_Ma269 c) (fun e => e ▸ ip_mw269)
theorem ip_Ma271 : ∀ c, c < 271 → ip_Mok c := fun c h => (Nat.lt_or_eq_of_le (Nat.le_of_lt_succ h)).elim (ip_Ma270 c) (fun e => e ▸ ip_mw270)
theorem ip_Ma272 : ∀ c, c < 272 → ip_Mok c := fun c h => (Nat.lt_or_eq_of_le (Nat.le_of_lt_succ h)).elim (ip_Ma271 c) (fun e => e ▸ ip_mw271)
theorem ip_Ma273 : ∀ c, c < 273 → ip_Mok c := fun c h => (Nat.lt_or_eq_of_le (Nat.le_of_lt_succ h)).elim (ip_Ma272 c) (fun e => e ▸ ip_mw272)
theorem ip_Ma274 : ∀ c, c < 274 → ip_Mok c := fun c h => (Nat.lt_or_eq_of_le (Nat.le_of_lt_succ h)).elim (ip_Ma273 c) (fun e => e ▸ ip_mw273)
theorem ip_Ma275 : ∀ c, c < 275 → ip_Mok c := fun c h => (Nat.lt_or_eq_of_le (Nat.le_of_lt_succ h)).elim (ip_Ma274 c) (fun e => e ▸ ip_mw274)
theorem ip_Ma276 : ∀ c, c < 276 → ip_Mok c := fun c h => (Nat.lt_or_eq_of_le (Nat.le_of_lt_succ h)).elim (ip_Ma275 c) (fun e => e ▸ ip_mw275)
theorem ip_Ma277 : ∀ c, c < 277 → ip_Mok c := fun c h => (Nat.lt_or_eq_of_le (Nat.le_of_lt_succ h)).elim (ip_Ma276 c) (fun e => e ▸ ip_mw276)
theorem ip_Ma278 : ∀ c, c < 278 → ip_Mok c := fun c h => (Nat.lt_or_eq_of_le (Nat.le_of_lt_succ h)).elim (ip_Ma277 c) (fun e => e ▸ ip_mw277)
theorem ip_Ma279 : ∀ c, c < 279 → ip_Mok c := fun c h => (Nat.lt_or_eq_of_le (Nat.le_of_lt_succ h)).elim (ip_Ma278 c) (fun e => e ▸ ip_mw278)
theorem ip_Ma280 : ∀ c, c < 280 → ip_Mok c := fun c h => (Nat.lt_or_eq_of_le (Nat.le_of_lt_succ h)).elim (ip_Ma279 c) (fun e => e ▸ ip_mw279)
theorem ip_Ma281 : ∀ c, c < 281 → ip_Mok c := fun c h => (Nat.lt_or_eq_of_le (Nat.le_of_lt_succ h)).elim (ip_Ma280 c) (fun e => e ▸ ip_mw280)
theorem ip_Ma282 : ∀ c, c < 282 → ip_Mok c := fun c h => (Nat.lt_or_eq_of_le (Nat.le_of_lt_succ h)).elim (ip_Ma281 c) (fun e => e ▸ ip_mw281)
theorem ip_Ma283 : ∀ c, c < 283 → ip_Mok c := fun c h => (Nat.lt_or_eq_of_le (Nat.le_of_lt_succ h)).elim (ip_Ma282 c) (fun e => e ▸ ip_mw282)
theorem ip_Ma284 : ∀ c, c < 284 → ip_Mok c := fun c h => (Nat.lt_or_eq_of_le (Nat.le_of_lt_succ h)).elim (ip_Ma283 c) (fun e => e ▸ ip_mw283)
theorem ip_Ma285 : ∀ c, c < 285 → ip_Mok c := fun c h => (Nat.lt_or_eq_of_le (Nat.le_of_lt_succ h)).elim (ip_Ma284 c) (fun e => e ▸ ip_mw284)
theorem ip_Ma286 : ∀ c, c < 286 → ip_Mok c := fun c h => (Nat.lt_or_eq_of_le (Nat.le_of_lt_succ h)).elim (ip_Ma285 c) (fun e => e ▸ ip_mw285)
theorem ip_Ma287 : ∀ c, c < 287 → ip_Mok c := fun c h => (Nat.lt_or_eq_of_le (Nat.le_of_lt_succ h)).elim (ip_Ma286 c) (fun e => e ▸ ip_mw286)
theorem ip_Ma288 : ∀ c, c < 288 → ip_Mok c := fun c h => (Nat.lt_or_eq_of_le (Nat.le_of_lt_succ h)).elim (ip_Ma287 c) (fun e => e ▸ ip_mw287)
theorem ip_Ma289 : ∀ c, c < 289 → ip_Mok c := fun c h => (Nat.lt_or_eq_of_le (Nat.le_of_lt_succ h)).elim (ip_Ma288 c) (fun e => e ▸ ip_mw288)
theorem ip_Ma290 : ∀ c, c < 290 → ip_Mok c := fun c h => (Nat.lt_or_eq_of_le (Nat.le_of_lt_succ h)).elim (ip_Ma289 c) (fun e => e ▸ ip_mw289)
theorem ip_Ma291 : ∀ c, c < 291 → ip_Mok c := fun c h => (Nat.lt_or_eq_of_le (Nat.le_of_lt_succ h)).elim (ip_Ma290 c) (fun e => e ▸ ip_mw290)
theorem ip_Ma292 : ∀ c, c < 292 → ip_Mok c := fun c h => (Nat.lt_or_eq_of_le (Nat.le_of_lt_succ h)).elim (ip_Ma291 c) (fun e => e ▸ ip_mw291)
theorem ip_Ma293 : ∀ c, c < 293 → ip_Mok c := fun c h => (Nat.lt_or_eq_of_le (Nat.le_of_lt_succ h)).elim (ip_Ma292 c) (fun e => e ▸ ip_mw292)
theorem ip_Ma294 : ∀ c, c < 294 → ip_Mok c := fun c h => (Nat.lt_or_eq_of_le (Nat.le_of_lt_succ h)).elim (ip_Ma293 c) (fun e => e ▸ ip_mw293)
theorem ip_Ma295 : ∀ c, c < 295 → ip_Mok c := fun c h => (Nat.lt_or_eq_of_le (Nat.le_of_lt_succ h)).elim (ip_Ma294 c) (fun e => e ▸ ip_mw294)
theorem ip_M_ok : ∀ c, c < 295 → ip_Mok c := ip_Ma295
def ip_Lk (C : String) (T : u_T) (j : Nat) : Prop := u_lay C T j ∈ lw_tbl ∧ ip_gw (u_lay C T j) = true
theorem ip_La0_0 : ∀ j, j < 0 → ip_Lk RX0 TX0 j := fun j h => absurd h (Nat.not_lt_zero j)
set_option maxRecDepth 100000 in
theorem ip_Lx0_0 : ip_Lk RX0 TX0 0 := ⟨(ip_t2 (ip_v2_1 (List.mem_of_getElem? (l := ip_u2_1.1) (i := 21) rfl))), rfl⟩
theorem ip_La0_1 : ∀ j, j < 1 → ip_Lk RX0 TX0 j := fun j h => (Nat.lt_or_eq_of_le (Nat.le_of_lt_succ h)).elim (ip_La0_0 j) (fun e => e ▸ ip_Lx0_0)
set_option maxRecDepth 100000 in
theorem ip_Lx0_1 : ip_Lk RX0 TX0 1 := ⟨(ip_t2 (ip_v2_1 (List.mem_of_getElem? (l := ip_u2_1.1) (i := 23) rfl))), rfl⟩
theorem ip_La0_2 : ∀ j, j < 2 → ip_Lk RX0 TX0 j := fun j h => (Nat.lt_or_eq_of_le (Nat.le_of_lt_succ h)).elim (ip_La0_1 j) (fun e => e ▸ ip_Lx0_1)
theorem ip_La1_0 : ∀ j, j < 0 → ip_Lk RX1 TX1 j := fun j h => absurd h (Nat.not_lt_zero j)
set_option maxRecDepth 100000 in
theorem ip_Lx1_0 : ip_Lk RX1 TX1 0 := ⟨(ip_t1 (ip_v1_4 (List.mem_of_getElem? (l := ip_u1_4.1) (i := 3) rfl))), rfl⟩
theorem ip_La1_1 : ∀ j, j < 1 → ip_Lk RX1 TX1 j := fun j h => (Nat.lt_or_eq_of_le (Nat.le_of_lt_succ h)).elim (ip_La1_0 j) (fun e => e ▸ ip_Lx1_0)
set_option maxRecDepth 100000 in
theorem ip_Lx1_1 : ip_Lk RX1 TX1 1 := ⟨(ip_t1 (ip_v1_4 (List.mem_of_getElem? (l := ip_u1_4.1) (i := 5) rfl))), rfl⟩
theorem ip_La1_2 : ∀ j, j < 2 → ip_Lk RX1 TX1 j := fun j h => (Nat.lt_or_eq_of_le (Nat.le_of_lt_succ h)).elim (ip_La1_1 j) (fun e => e ▸ ip_Lx1_1)
set_option maxRecDepth 100000 in
theorem ip_Lx1_2 : ip_Lk RX1 TX1 2 := ⟨(ip_t1 (ip_v1_4 (List.mem_of_getElem? (l := ip_u1_4.1) (i := 7) rfl))), rfl⟩
theorem ip_La1_3 : ∀ j, j < 3 → ip_Lk RX1 TX1 j := fun j h => (Nat.lt_or_eq_of_le (Nat.le_of_lt_succ h)).elim (ip_La1_2 j) (fun e => e ▸ ip_Lx1_2)
set_option maxRecDepth 100000 in
theorem ip_Lx1_3 : ip_Lk RX1 TX1 3 := ⟨(ip_t1 (ip_v1_4 (List.mem_of_getElem? (l := ip_u1_4.1) (i := 9) rfl))), rfl⟩
theorem ip_La1_4 : ∀ j, j < 4 → ip_Lk RX1 TX1 j := fun j h => (Nat.lt_or_eq_of_le (Nat.le_of_lt_succ h)).elim (ip_La1_3 j) (fun e => e ▸ ip_Lx1_3)
set_option maxRecDepth 100000 in
theorem ip_Lx1_4 : ip_Lk RX1 TX1 4 := ⟨(ip_t1 (ip_v1_4 (List.mem_of_getElem? (l := ip_u1_4.1) (i := 11) rfl))), rfl⟩
theorem ip_La1_5 : ∀ j, j < 5 → ip_Lk RX1 TX1 j := fun j h => (Nat.lt_or_eq_of_le (Nat.le_of_lt_succ h)).elim (ip_La1_4 j) (fun e => e ▸ ip_Lx1_4)
set_option maxRecDepth 100000 in
theorem ip_Lx1_5 : ip_Lk RX1 TX1 5 := ⟨(ip_t1 (ip_v1_4 (List.mem_of_getElem? (l := ip_u1_4.1) (i := 13) rfl))), rfl⟩
theorem ip_La1_6 : ∀ j, j < 6 → ip_Lk RX1 TX1 j := fun j h => (Nat.lt_or_eq_of_le (Nat.le_of_lt_succ h)).elim (ip_La1_5 j) (fun e => e ▸ ip_Lx1_5)
set_option maxRecDepth 100000 in
theorem ip_Lx1_6 : ip_Lk RX1 TX1 6 := ⟨(ip_t1 (ip_v1_4 (List.mem_of_getElem? (l := ip_u1_4.1) (i := 15) rfl))), rfl⟩
theorem ip_La1_7 : ∀ j, j < 7 → ip_Lk RX1 TX1 j := fun j h => (Nat.lt_or_eq_of_le (Nat.le_of_lt_succ h)).elim (ip_La1_6 j) (fun e => e ▸ ip_Lx1_6)
set_option maxRecDepth 100000 in
theorem ip_Lx1_7 : ip_Lk RX1 TX1 7 := ⟨(ip_t1 (ip_v1_4 (List.mem_of_getElem? (l := ip_u1_4.1) (i := 17) rfl))), rfl⟩
theorem ip_La1_8 : ∀ j, j < 8 → ip_Lk RX1 TX1 j := fun j h => (Nat.lt_or_eq_of_le (Nat.le_of_lt_succ h)).elim (ip_La1_7 j) (fun e => e ▸ ip_Lx1_7)
set_option maxRecDepth 100000 in
theorem ip_Lx1_8 : ip_Lk RX1 TX1 8 := ⟨(ip_t1 (ip_v1_4 (List.mem_of_getElem? (l := ip_u1_4.1) (i := 19) rfl))), rfl⟩
theorem ip_La1_9 : ∀ j, j < 9 → ip_Lk RX1 TX1 j := fun j h => (Nat.lt_or_eq_of_le (Nat.le_of_lt_succ h)).elim (ip_La1_8 j) (fun e => e ▸ ip_Lx1_8)
set_option maxRecDepth 100000 in
theorem ip_Lx1_9 : ip_Lk RX1 TX1 9 := ⟨(ip_t1 (ip_v1_4 (List.mem_of_getElem? (l := ip_u1_4.1) (i := 21) rfl))), rfl⟩
theorem ip_La1_10 : ∀ j, j < 10 → ip_Lk RX1 TX1 j := fun j h => (Nat.lt_or_eq_of_le (Nat.le_of_lt_succ h)).elim (ip_La1_9 j) (fun e => e ▸ ip_Lx1_9)
set_option maxRecDepth 100000 in
theorem ip_Lx1_10 : ip_Lk RX1 TX1 10 := ⟨(ip_t1 (ip_v1_4 (List.mem_of_getElem? (l := ip_u1_4.1) (i := 23) rfl))), rfl⟩
theorem ip_La1_11 : ∀ j, j < 11 → ip_Lk RX1 TX1 j := fun j h => (Nat.lt_or_eq_of_le (Nat.le_of_lt_succ h)).elim (ip_La1_10 j) (fun e => e ▸ ip_Lx1_10)
set_option maxRecDepth 100000 in
theorem ip_Lx1_11 : ip_Lk RX1 TX1 11 := ⟨(ip_t1 (ip_v1_4 (List.mem_of_getElem? (l := ip_u1_4.1) (i := 25) rfl))), rfl⟩
theorem ip_La1_12 : ∀ j, j < 12 → ip_Lk RX1 TX1 j := fun j h => (Nat.lt_or_eq_of_le (Nat.le_of_lt_succ h)).elim (ip_La1_11 j) (fun e => e ▸ ip_Lx1_11)
set_option maxRecDepth 100000 in
theorem ip_Lx1_12 : ip_Lk RX1 TX1 12 := ⟨(ip_t1 (ip_v1_4 (List.mem_of_getElem? (l := ip_u1_4.1) (i := 27) rfl))), rfl⟩
theorem ip_La1_13 : ∀ j, j < 13 → ip_Lk RX1 TX1 j := fun j h => (Nat.lt_or_eq_of_le (Nat.le_of_lt_succ h)).elim (ip_La1_12 j) (fun e => e ▸ ip_Lx1_12)
set_option maxRecDepth 100000 in
theorem ip_Lx1_13 : ip_Lk RX1 TX1 13 := ⟨(ip_t1 (ip_v1_4 (List.mem_of_getElem? (l := ip_u1_4.1) (i := 29) rfl))), rfl⟩
theorem ip_La1_14 : ∀ j, j < 14 → ip_Lk RX1 TX1 j := fun j h => (Nat.lt_or_eq_of_le (Nat.le_of_lt_succ h)).elim (ip_La1_13 j) (fun e => e ▸ ip_Lx1_13)
set_option maxRecDepth 100000 in
theorem ip_Lx1_14 : ip_Lk RX1 TX1 14 := ⟨(ip_t1 (ip_v1_4 (List.mem_of_getElem? (l := ip_u1_4.1) (i := 31) rfl))), rfl⟩
theorem ip_La1_15 : ∀ j, j < 15 → ip_Lk RX1 TX1 j := fun j h => (Nat.lt_or_eq_of_le (Nat.le_of_lt_succ h)).elim (ip_La1_14 j) (fun e => e ▸ ip_Lx1_14)
theorem ip_La2_0 : ∀ j, j < 0 → ip_Lk RX2 TX2 j := fun j h => absurd h (Nat.not_lt_zero j)
set_option maxRecDepth 100000 in
theorem ip_Lx2_0 : ip_Lk RX2 TX2 0 := ⟨(ip_t1 (ip_v1_2 (List.mem_of_getElem? (l := ip_u1_2.1) (i := 22) rfl))), rfl⟩
theorem ip_La2_1 : ∀ j, j < 1 → ip_Lk RX2 TX2 j := fun j h => (Nat.lt_or_eq_of_le (Nat.le_of_lt_succ h)).elim (ip_La2_0 j) (fun e => e ▸ ip_Lx2_0)
set_option maxRecDepth 100000 in
theorem ip_Lx2_1 : ip_Lk RX2 TX2 1 := ⟨(ip_t1 (ip_v1_2 (List.mem_of_getElem? (l := ip_u1_2.1) (i := 24) rfl))), rfl⟩
theorem ip_La2_2 : ∀ j, j < 2 → ip_Lk RX2 TX2 j := fun j h => (Nat.lt_or_eq_of_le (Nat.le_of_lt_succ h)).elim (ip_La2_1 j) (fun e => e ▸ ip_Lx2_1)
set_option maxRecDepth 100000 in
theorem ip_Lx2_2 : ip_Lk RX2 TX2 2 := ⟨(ip_t1 (ip_v1_2 (List.mem_of_getElem? (l := ip_u1_2.1) (i := 26) rfl))), rfl⟩
theorem ip_La2_3 : ∀ j, j < 3 → ip_Lk RX2 TX2 j := fun j h => (Nat.lt_or_eq_of_le (Nat.le_of_lt_succ h)).elim (ip_La2_2 j) (fun e => e ▸ ip_Lx2_2)
set_option maxRecDepth 100000 in
theorem ip_Lx2_3 : ip_Lk RX2 TX2 3 := ⟨(ip_t1 (ip_v1_2 (List.mem_of_getElem? (l := ip_u1_2.1) (i := 28) rfl))), rfl⟩
theorem ip_La2_4 : ∀ j, j < 4 → ip_Lk RX2 TX2 j := fun j h => (Nat.lt_or_eq_of_le (Nat.le_of_lt_succ h)).elim (ip_La2_3 j) (fun e => e ▸ ip_Lx2_3)
set_option maxRecDepth 100000 in
theorem ip_Lx2_4 : ip_Lk RX2 TX2 4 := ⟨(ip_t1 (ip_v1_2 (List.mem_of_getElem? (l := ip_u1_2.1) (i := 30) rfl))), rfl⟩
theorem ip_La2_5 : ∀ j, j < 5 → ip_Lk RX2 TX2 j := fun j h => (Nat.lt_or_eq_of_le (Nat.le_of_lt_succ h)).elim (ip_La2_4 j) (fun e => e ▸ ip_Lx2_4)
theorem ip_La3_0 : ∀ j, j < 0 → ip_Lk RX3 TX3 j := fun j h => absurd h (Nat.not_lt_zero j)
set_option maxRecDepth 100000 in
theorem ip_Lx3_0 : ip_Lk RX3 TX3 0 := ⟨(ip_t2 (ip_v2_0 (List.mem_of_getElem? (l := ip_u2_0.1) (i := 16) rfl))), rfl⟩
theorem ip_La3_1 : ∀ j, j < 1 → ip_Lk RX3 TX3 j := fun j h => (Nat.lt_or_eq_of_le (Nat.le_of_lt_succ h)).elim (ip_La3_0 j) (fun e => e ▸ ip_Lx3_0)
set_option maxRecDepth 100000 in
theorem ip_Lx3_1 : ip_Lk RX3 TX3 1 := ⟨(ip_t2 (ip_v2_0 (List.mem_of_getElem? (l := ip_u2_0.1) (i := 18) rfl))), rfl⟩
theorem ip_La3_2 : ∀ j, j < 2 → ip_Lk RX3 TX3 j := fun j h => (Nat.lt_or_eq_of_le (Nat.le_of_lt_succ h)).elim (ip_La3_1 j) (fun e => e ▸ ip_Lx3_1)
set_option maxRecDepth 100000 in
theorem ip_Lx3_2 : ip_Lk RX3 TX3 2 := ⟨(ip_t2 (ip_v2_0 (List.mem_of_getElem? (l := ip_u2_0.1) (i := 20) rfl))), rfl⟩
theorem ip_La3_3 : ∀ j, j < 3 → ip_Lk RX3 TX3 j := fun j h => (Nat.lt_or_eq_of_le (Nat.le_of_lt_succ h)).elim (ip_La3_2 j) (fun e => e ▸ ip_Lx3_2)
set_option maxRecDepth 100000 in
theorem ip_Lx3_3 : ip_Lk RX3 TX3 3 := ⟨(ip_t2 (ip_v2_0 (List.mem_of_getElem? (l := ip_u2_0.1) (i := 22) rfl))), rfl⟩
theorem ip_La3_4 : ∀ j, j < 4 → ip_Lk RX3 TX3 j := fun j h => (Nat.lt_or_eq_of_le (Nat.le_of_lt_succ h)).elim (ip_La3_3 j) (fun e => e ▸ ip_Lx3_3)
set_option maxRecDepth 100000 in
theorem ip_Lx3_4 : ip_Lk RX3 TX3 4 := ⟨(ip_t2 (ip_v2_0 (List.mem_of_getElem? (l := ip_u2_0.1) (i := 24) rfl))), rfl⟩
theorem ip_La3_5 : ∀ j, j < 5 → ip_Lk RX3 TX3 j := fun j h => (Nat.lt_or_eq_of_le (Nat.le_of_lt_succ h)).elim (ip_La3_4 j) (fun e => e ▸ ip_Lx3_4)
set_option maxRecDepth 100000 in
theorem ip_Lx3_5 : ip_Lk RX3 TX3 5 := ⟨(ip_t2 (ip_v2_0 (List.mem_of_getElem? (l := ip_u2_0.1) (i := 26) rfl))), rfl⟩
theorem ip_La3_6 : ∀ j, j < 6 → ip_Lk RX3 TX3 j := fun j h => (Nat.lt_or_eq_of_le (Nat.le_of_lt_succ h)).elim (ip_La3_5 j) (fun e => e ▸ ip_Lx3_5)
theorem ip_La4_0 : ∀ j, j < 0 → ip_Lk RX4 TX4 j := fun j h => absurd h (Nat.not_lt_zero j)
set_option maxRecDepth 100000 in
theorem ip_Lx4_0 : ip_Lk RX4 TX4 0 := ⟨(ip_t1 (ip_v1_1 (List.mem_of_getElem? (l := ip_u1_1.1) (i := 4) rfl))), rfl⟩
theorem ip_La4_1 : ∀ j, j < 1 → ip_Lk RX4 TX4 j := fun j h => (Nat.lt_or_eq_of_le (Nat.le_of_lt_succ h)).elim (ip_La4_0 j) (fun e => e ▸ ip_Lx4_0)
theorem ip_La5_0 : ∀ j, j < 0 → ip_Lk RX5 TX5 j := fun j h => absurd h (Nat.not_lt_zero j)
set_option maxRecDepth 100000 in
theorem ip_Lx5_0 : ip_Lk RX5 TX5 0 := ⟨(ip_t1 (ip_v1_7 (List.mem_of_getElem? (l := ip_u1_7.1) (i := 5) rfl))), rfl⟩
theorem ip_La5_1 : ∀ j, j < 1 → ip_Lk RX5 TX5 j := fun j h => (Nat.lt_or_eq_of_le (Nat.le_of_lt_succ h)).elim (ip_La5_0 j) (fun e => e ▸ ip_Lx5_0)
set_option maxRecDepth 100000 in
theorem ip_Lx5_1 : ip_Lk RX5 TX5 1 := ⟨(ip_t1 (ip_v1_7 (List.mem_of_getElem? (l := ip_u1_7.1) (i := 7) rfl))), rfl⟩
theorem ip_La5_2 : ∀ j, j < 2 → ip_Lk RX5 TX5 j := fun j h => (Nat.lt_or_eq_of_le (Nat.le_of_lt_succ h)).elim (ip_La5_1 j) (fun e => e ▸ ip_Lx5_1)
set_option maxRecDepth 100000 in
theorem ip_Lx5_2 : ip_Lk RX5 TX5 2 := ⟨(ip_t1 (ip_v1_7 (List.mem_of_getElem? (l := ip_u1_7.1) (i := 9) rfl))), rfl⟩
theorem ip_La5_3 : ∀ j, j < 3 → ip_Lk RX5 TX5 j := fun j h => (Nat.lt_or_eq_of_le (Nat.le_of_lt_succ h)).elim (ip_La5_2 j) (fun e => e ▸ ip_Lx5_2)
set_option maxRecDepth 100000 in
theorem ip_Lx5_3 : ip_Lk RX5 TX5 3 := ⟨(ip_t1 (ip_v1_7 (List.mem_of_getElem? (l := ip_u1_7.1) (i := 11) rfl))), rfl⟩
theorem ip_La5_4 : ∀ j, j < 4 → ip_Lk RX5 TX5 j := fun j h => (Nat.lt_or_eq_of_le (Nat.le_of_lt_succ h)).elim (ip_La5_3 j) (fun e => e ▸ ip_Lx5_3)
set_option maxRecDepth 100000 in
theorem ip_Lx5_4 : ip_Lk RX5 TX5 4 := ⟨(ip_t1 (ip_v1_7 (List.mem_of_getElem? (l := ip_u1_7.1) (i := 13) rfl))), rfl⟩
theorem ip_La5_5 : ∀ j, j < 5 → ip_Lk RX5 TX5 j := fun j h => (Nat.lt_or_eq_of_le (Nat.le_of_lt_succ h)).elim (ip_La5_4 j) (fun e => e ▸ ip_Lx5_4)
set_option maxRecDepth 100000 in
theorem ip_Lx5_5 : ip_Lk RX5 TX5 5 := ⟨(ip_t1 (ip_v1_7 (List.mem_of_getElem? (l := ip_u1_7.1) (i := 15) rfl))), rfl⟩
theorem ip_La5_6 : ∀ j, j < 6 → ip_Lk RX5 TX5 j := fun j h => (Nat.lt_or_eq_of_le (Nat.le_of_lt_succ h)).elim (ip_La5_5 j) (fun e => e ▸ ip_Lx5_5)
set_option maxRecDepth 100000 in
theorem ip_Lx5_6 : ip_Lk RX5 TX5 6 := ⟨(ip_t2 (ip_v2_0 (List.mem_of_getElem? (l := ip_u2_0.1) (i := 1) rfl))), rfl⟩
theorem ip_La5_7 : ∀ j, j < 7 → ip_Lk RX5 TX5 j := fun j h => (Nat.lt_or_eq_of_le (Nat.le_of_lt_succ h)).elim (ip_La5_6 j) (fun e => e ▸ ip_Lx5_6)
set_option maxRecDepth 100000 in
theorem ip_Lx5_7 : ip_Lk RX5 TX5 7 := ⟨(ip_t2 (ip_v2_0 (List.mem_of_getElem? (l := ip_u2_0.1) (i := 3) rfl))), rfl⟩
theorem ip_La5_8 : ∀ j, j < 8 → ip_Lk RX5 TX5 j := fun j h => (Nat.lt_or_eq_of_le (Nat.le_of_lt_succ h)).elim (ip_La5_7 j) (fun e => e ▸ ip_Lx5_7)
theorem ip_La6_0 : ∀ j, j < 0 → ip_Lk RX6 TX6 j := fun j h => absurd h (Nat.not_lt_zero j)
set_option maxRecDepth 100000 in
theorem ip_Lx6_0 : ip_Lk RX6 TX6 0 := ⟨(ip_t1 (ip_v1_6 (List.mem_of_getElem? (l := ip_u1_6.1) (i := 3) rfl))), rfl⟩
theorem ip_La6_1 : ∀ j, j < 1 → ip_Lk RX6 TX6 j := fun j h => (Nat.lt_or_eq_of_le (Nat.le_of_lt_succ h)).elim (ip_La6_0 j) (fun e => e ▸ ip_Lx6_0)
set_option maxRecDepth 100000 in
theorem ip_Lx6_1 : ip_Lk RX6 TX6 1 := ⟨(ip_t1 (ip_v1_6 (List.mem_of_getElem? (l := ip_u1_6.1) (i := 5) rfl))), rfl⟩
theorem ip_La6_2 : ∀ j, j < 2 → ip_Lk RX6 TX6 j := fun j h => (Nat.lt_or_eq_of_le (Nat.le_of_lt_succ h)).elim (ip_La6_1 j) (fun e => e ▸ ip_Lx6_1)
set_option maxRecDepth 100000 in
theorem ip_Lx6_2 : ip_Lk RX6 TX6 2 := ⟨(ip_t1 (ip_v1_6 (List.mem_of_getElem? (l := ip_u1_6.1) (i := 7) rfl))), rfl⟩
theorem ip_La6_3 : ∀ j, j < 3 → ip_Lk RX6 TX6 j := fun j h => (Nat.lt_or_eq_of_le (Nat.le_of_lt_succ h)).elim (ip_La6_2 j) (fun e => e ▸ ip_Lx6_2)
set_option maxRecDepth 100000 in
theorem ip_Lx6_3 : ip_Lk RX6 TX6 3 := ⟨(ip_t1 (ip_v1_6 (List.mem_of_getElem? (l := ip_u1_6.1) (i := 9) rfl))), rfl⟩
theorem ip_La6_4 : ∀ j, j < 4 → ip_Lk RX6 TX6 j := fun j h => (Nat.lt_or_eq_of_le (Nat.le_of_lt_succ h)).elim (ip_La6_3 j) (fun e => e ▸ ip_Lx6_3)
set_option maxRecDepth 100000 in
theorem ip_Lx6_4 : ip_Lk RX6 TX6 4 := ⟨(ip_t1 (ip_v1_6 (List.mem_of_getElem? (l := ip_u1_6.1) (i := 11) rfl))), rfl⟩
theorem ip_La6_5 : ∀ j, j < 5 → ip_Lk RX6 TX6 j := fun j h => (Nat.lt_or_eq_of_le (Nat.le_of_lt_succ h)).elim (ip_La6_4 j) (fun e => e ▸ ip_Lx6_4)
theorem ip_La7_0 : ∀ j, j < 0 → ip_Lk RX7 TX7 j := fun j h => absurd h (Nat.not_lt_zero j)
set_option maxRecDepth 100000 in
theorem ip_Lx7_0 : ip_Lk RX7 TX7 0 := ⟨(ip_t2 (ip_v2_1 (List.mem_of_getElem? (l := ip_u2_1.1) (i := 6) rfl))), rfl⟩
theorem ip_La7_1 : ∀ j, j < 1 → ip_Lk RX7 TX7 j := fun j h => (Nat.lt_or_eq_of_le (Nat.le_of_lt_succ h)).elim (ip_La7_0 j) (fun e => e ▸ ip_Lx7_0)
set_option maxRecDepth 100000 in
theorem ip_Lx7_1 : ip_Lk RX7 TX7 1 := ⟨(ip_t2 (ip_v2_1 (List.mem_of_getElem? (l := ip_u2_1.1) (i := 8) rfl))), rfl⟩
theorem ip_La7_2 : ∀ j, j < 2 → ip_Lk RX7 TX7 j := fun j h => (Nat.lt_or_eq_of_le (Nat.le_of_lt_succ h)).elim (ip_La7_1 j) (fun e => e ▸ ip_Lx7_1)
theorem ip_La8_0 : ∀ j, j < 0 → ip_Lk RX8 TX8 j := fun j h => absurd h (Nat.not_lt_zero j)
set_option maxRecDepth 100000 in
theorem ip_Lx8_0 : ip_Lk RX8 TX8 0 := ⟨(ip_t1 (ip_v1_2 (List.mem_of_getElem? (l := ip_u1_2.1) (i := 1) rfl))), rfl⟩
theorem ip_La8_1 : ∀ j, j < 1 → ip_Lk RX8 TX8 j := fun j h => (Nat.lt_or_eq_of_le (Nat.le_of_lt_succ h)).elim (ip_La8_0 j) (fun e => e ▸ ip_Lx8_0)
set_option maxRecDepth 100000 in
theorem ip_Lx8_1 : ip_Lk RX8 TX8 1 := ⟨(ip_t1 (ip_v1_2 (List.mem_of_getElem? (l := ip_u1_2.1) (i := 3) rfl))), rfl⟩
theorem ip_La8_2 : ∀ j, j < 2 → ip_Lk RX8 TX8 j := fun j h => (Nat.lt_or_eq_of_le (Nat.le_of_lt_succ h)).elim (ip_La8_1 j) (fun e => e ▸ ip_Lx8_1)
set_option maxRecDepth 100000 in
theorem ip_Lx8_2 : ip_Lk RX8 TX8 2 := ⟨(ip_t1 (ip_v1_2 (List.mem_of_getElem? (l := ip_u1_2.1) (i := 5) rfl))), rfl⟩
theorem ip_La8_3 : ∀ j, j < 3 → ip_Lk RX8 TX8 j := fun j h => (Nat.lt_or_eq_of_le (Nat.le_of_lt_succ h)).elim (ip_La8_2 j) (fun e => e ▸ ip_Lx8_2)
set_option maxRecDepth 100000 in
theorem ip_Lx8_3 : ip_Lk RX8 TX8 3 := ⟨(ip_t1 (ip_v1_2 (List.mem_of_getElem? (l := ip_u1_2.1) (i := 7) rfl))), rfl⟩
theorem ip_La8_4 : ∀ j, j < 4 → ip_Lk RX8 TX8 j := fun j h => (Nat.lt_or_eq_of_le (Nat.le_of_lt_succ h)).elim (ip_La8_3 j) (fun e => e ▸ ip_Lx8_3)
theorem ip_La9_0 : ∀ j, j < 0 → ip_Lk RX9 TX9 j := fun j h => absurd h (Nat.not_lt_zero j)
set_option maxRecDepth 100000 in
theorem ip_Lx9_0 : ip_Lk RX9 TX9 0 := ⟨(ip_t1 (ip_v1_5 (List.mem_of_getElem? (l := ip_u1_5.1) (i := 14) rfl))), rfl⟩
theorem ip_La9_1 : ∀ j, j < 1 → ip_Lk RX9 TX9 j := fun j h => (Nat.lt_or_eq_of_le (Nat.le_of_lt_succ h)).elim (ip_La9_0 j) (fun e => e ▸ ip_Lx9_0)
set_option maxRecDepth 100000 in
theorem ip_Lx9_1 : ip_Lk RX9 TX9 1 := ⟨(ip_t1 (ip_v1_5 (List.mem_of_getElem? (l := ip_u1_5.1) (i := 16) rfl))), rfl⟩
theorem ip_La9_2 : ∀ j, j < 2 → ip_Lk RX9 TX9 j := fun j h => (Nat.lt_or_eq_of_le (Nat.le_of_lt_succ h)).elim (ip_La9_1 j) (fun e => e ▸ ip_Lx9_1)
theorem ip_La10_0 : ∀ j, j < 0 → ip_Lk RX10 TX10 j := fun j h => absurd h (Nat.not_lt_zero j)
set_option maxRecDepth 100000 in
theorem ip_Lx10_0 : ip_Lk RX10 TX10 0 := ⟨(ip_t2 (ip_v2_2 (List.mem_of_getElem? (l := ip_u2_2.1) (i := 9) rfl))), rfl⟩
theorem ip_La10_1 : ∀ j, j < 1 → ip_Lk RX10 TX10 j := fun j h => (Nat.lt_or_eq_of_le (Nat.le_of_lt_succ h)).elim (ip_La10_0 j) (fun e => e ▸ ip_Lx10_0)
set_option maxRecDepth 100000 in
theorem ip_Lx10_1 : ip_Lk RX10 TX10 1 := ⟨(ip_t2 (ip_v2_2 (List.mem_of_getElem? (l := ip_u2_2.1) (i := 11) rfl))), rfl⟩
theorem ip_La10_2 : ∀ j, j < 2 → ip_Lk RX10 TX10 j := fun j h => (Nat.lt_or_eq_of_le (Nat.le_of_lt_succ h)).elim (ip_La10_1 j) (fun e => e ▸ ip_Lx10_1)
set_option maxRecDepth 100000 in
theorem ip_Lx10_2 : ip_Lk RX10 TX10 2 := ⟨(ip_t2 (ip_v2_2 (List.mem_of_getElem? (l := ip_u2_2.1) (i := 13) rfl))), rfl⟩
theorem ip_La10_3 : ∀ j, j < 3 → ip_Lk RX10 TX10 j := fun j h => (Nat.lt_or_eq_of_le (Nat.le_of_lt_succ h)).elim (ip_La10_2 j) (fun e => e ▸ ip_Lx10_2)
set_option maxRecDepth 100000 in
theorem ip_Lx10_3 : ip_Lk RX10 TX10 3 := ⟨(ip_t2 (ip_v2_2 (List.mem_of_getElem? (l := ip_u2_2.1) (i := 15) rfl))), rfl⟩
theorem ip_La10_4 : ∀ j, j < 4 → ip_Lk RX10 TX10 j := fun j h => (Nat.lt_or_eq_of_le (Nat.le_of_lt_succ h)).elim (ip_La10_3 j) (fun e => e ▸ ip_Lx10_3)
set_option maxRecDepth 100000 in
theorem ip_Lx10_4 : ip_Lk RX10 TX10 4 := ⟨(ip_t2 (ip_v2_2 (List.mem_of_getElem? (l := ip_u2_2.1) (i := 17) rfl))), rfl⟩
theorem ip_La10_5 : ∀ j, j < 5 → ip_Lk RX10 TX10 j := fun j h => (Nat.lt_or_eq_of_le (Nat.le_of_lt_succ h)).elim (ip_La10_4 j) (fun e => e ▸ ip_Lx10_4)
set_option maxRecDepth 100000 in
theorem ip_Lx10_5 : ip_Lk RX10 TX10 5 := ⟨(ip_t2 (ip_v2_2 (List.mem_of_getElem? (l := ip_u2_2.1) (i := 19) rfl))), rfl⟩
theorem ip_La10_6 : ∀ j, j < 6 → ip_Lk RX10 TX10 j := fun j h => (Nat.lt_or_eq_of_le (Nat.le_of_lt_succ h)).elim (ip_La10_5 j) (fun e => e ▸ ip_Lx10_5)
set_option maxRecDepth 100000 in
theorem ip_Lx10_6 : ip_Lk RX10 TX10 6 := ⟨(ip_t2 (ip_v2_2 (List.mem_of_getElem? (l := ip_u2_2.1) (i := 21) rfl))), rfl⟩
theorem ip_La10_7 : ∀ j, j < 7 → ip_Lk RX10 TX10 j := fun j h => (Nat.lt_or_eq_of_le (Nat.le_of_lt_succ h)).elim (ip_La10_6 j) (fun e => e ▸ ip_Lx10_6)
set_option maxRecDepth 100000 in
theorem ip_Lx10_7 : ip_Lk RX10 TX10 7 := ⟨(ip_t2 (ip_v2_2 (List.mem_of_getElem? (l := ip_u2_2.1) (i := 23) rfl))), rfl⟩
theorem ip_La10_8 : ∀ j, j < 8 → ip_Lk RX10 TX10 j := fun j h => (Nat.lt_or_eq_of_le (Nat.le_of_lt_succ h)).elim (ip_La10_7 j) (fun e => e ▸ ip_Lx10_7)
set_option maxRecDepth 100000 in
theorem ip_Lx10_8 : ip_Lk RX10 TX10 8 := ⟨(ip_t2 (ip_v2_2 (List.mem_of_getElem? (l := ip_u2_2.1) (i := 25) rfl))), rfl⟩
theorem ip_La10_9 : ∀ j, j < 9 → ip_Lk RX10 TX10 j := fun j h => (Nat.lt_or_eq_of_le (Nat.le_of_lt_succ h)).elim (ip_La10_8 j) (fun e => e ▸ ip_Lx10_8)
set_option maxRecDepth 100000 in
theorem ip_Lx10_9 : ip_Lk RX10 TX10 9 := ⟨(ip_t2 (ip_v2_2 (List.mem_of_getElem? (l := ip_u2_2.1) (i := 27) rfl))), rfl⟩
theorem ip_La10_10 : ∀ j, j < 10 → ip_Lk RX10 TX10 j := fun j h => (Nat.lt_or_eq_of_le (Nat.le_of_lt_succ h)).elim (ip_La10_9 j) (fun e => e ▸ ip_Lx10_9)
set_option maxRecDepth 100000 in
theorem ip_Lx10_10 : ip_Lk RX10 TX10 10 := ⟨(ip_t2 (ip_v2_2 (List.mem_of_getElem? (l := ip_u2_2.1) (i := 29) rfl))), rfl⟩
theorem ip_La10_11 : ∀ j, j < 11 → ip_Lk RX10 TX10 j := fun j h => (Nat.lt_or_eq_of_le (Nat.le_of_lt_succ h)).elim (ip_La10_10 j) (fun e => e ▸ ip_Lx10_10)
set_option maxRecDepth 100000 in
theorem ip_Lx10_11 : ip_Lk RX10 TX10 11 := ⟨(ip_t2 (ip_v2_2 (List.mem_of_getElem? (l := ip_u2_2.1) (i := 31) rfl))), rfl⟩
theorem ip_La10_12 : ∀ j, j < 12 → ip_Lk RX10 TX10 j := fun j h => (Nat.lt_or_eq_of_le (Nat.le_of_lt_succ h)).elim (ip_La10_11 j) (fun e => e ▸ ip_Lx10_11)
set_option maxRecDepth 100000 in
theorem ip_Lx10_12 : ip_Lk RX10 TX10 12 := ⟨(ip_t2 (ip_v2_3 (List.mem_of_getElem? (l := ip_u2_3.1) (i := 1) rfl))), rfl⟩
theorem ip_La10_13 : ∀ j, j < 13 → ip_Lk RX10 TX10 j := fun j h => (Nat.lt_or_eq_of_le (Nat.le_of_lt_succ h)).elim (ip_La10_12 j) (fun e => e ▸ ip_Lx10_12)
set_option maxRecDepth 100000 in
theorem ip_Lx10_13 : ip_Lk RX10 TX10 13 := ⟨(ip_t2 (ip_v2_3 (List.mem_of_getElem? (l := ip_u2_3.1) (i := 3) rfl))), rfl⟩
theorem ip_La10_14 : ∀ j, j < 14 → ip_Lk RX10 TX10 j := fun j h => (Nat.lt_or_eq_of_le (Nat.le_of_lt_succ h)).elim (ip_La10_13 j) (fun e => e ▸ ip_Lx10_13)
theorem ip_La11_0 : ∀ j, j < 0 → ip_Lk RX11 TX11 j := fun j h => absurd h (Nat.not_lt_zero j)
set_option maxRecDepth 100000 in
theorem ip_Lx11_0 : ip_Lk RX11 TX11 0 := ⟨(ip_t5 (ip_v5_4 (List.mem_of_getElem? (l := ip_u5_4.1) (i := 6) rfl))), rfl⟩
theorem ip_La11_1 : ∀ j, j < 1 → ip_Lk RX11 TX11 j := fun j h => (Nat.lt_or_eq_of_le (Nat.le_of_lt_succ h)).elim (ip_La11_0 j) (fun e => e ▸ ip_Lx11_0)
set_option maxRecDepth 100000 in
theorem ip_Lx11_1 : ip_Lk RX11 TX11 1 := ⟨(ip_t5 (ip_v5_4 (List.mem_of_getElem? (l := ip_u5_4.1) (i := 8) rfl))), rfl⟩
theorem ip_La11_2 : ∀ j, j < 2 → ip_Lk RX11 TX11 j := fun j h => (Nat.lt_or_eq_of_le (Nat.le_of_lt_succ h)).elim (ip_La11_1 j) (fun e => e ▸ ip_Lx11_1)
set_option maxRecDepth 100000 in
theorem ip_Lx11_2 : ip_Lk RX11 TX11 2 := ⟨(ip_t5 (ip_v5_4 (List.mem_of_getElem? (l := ip_u5_4.1) (i := 10) rfl))), rfl⟩
theorem ip_La11_3 : ∀ j, j < 3 → ip_Lk RX11 TX11 j := fun j h => (Nat.lt_or_eq_of_le (Nat.le_of_lt_succ h)).elim (ip_La11_2 j) (fun e => e ▸ ip_Lx11_2)
set_option maxRecDepth 100000 in
theorem ip_Lx11_3 : ip_Lk RX11 TX11 3 := ⟨(ip_t5 (ip_v5_4 (List.mem_of_getElem? (l := ip_u5_4.1) (i := 12) rfl))), rfl⟩
theorem ip_La11_4 : ∀ j, j < 4 → ip_Lk RX11 TX11 j := fun j h => (Nat.lt_or_eq_of_le (Nat.le_of_lt_succ h)).elim (ip_La11_3 j) (fun e => e ▸ ip_Lx11_3)
set_option maxRecDepth 100000 in
theorem ip_Lx11_4 : ip_Lk RX11 TX11 4 := ⟨(ip_t5 (ip_v5_4 (List.mem_of_getElem? (l := ip_u5_4.1) (i := 14) rfl))), rfl⟩
theorem ip_La11_5 : ∀ j, j < 5 → ip_Lk RX11 TX11 j := fun j h => (Nat.lt_or_eq_of_le (Nat.le_of_lt_succ h)).elim (ip_La11_4 j) (fun e => e ▸ ip_Lx11_4)
set_option maxRecDepth 100000 in
theorem ip_Lx11_5 : ip_Lk RX11 TX11 5 := ⟨(ip_t5 (ip_v5_4 (List.mem_of_getElem? (l := ip_u5_4.1) (i := 16) rfl))), rfl⟩
theorem ip_La11_6 : ∀ j, j < 6 → ip_Lk RX11 TX11 j := fun j h => (Nat.lt_or_eq_of_le (Nat.le_of_lt_succ h)).elim (ip_La11_5 j) (fun e => e ▸ ip_Lx11_5)
set_option maxRecDepth 100000 in
theorem ip_Lx11_6 : ip_Lk RX11 TX11 6 := ⟨(ip_t5 (ip_v5_4 (List.mem_of_getElem? (l := ip_u5_4.1) (i := 18) rfl))), rfl⟩
theorem ip_La11_7 : ∀ j, j < 7 → ip_Lk RX11 TX11 j := fun j h => (Nat.lt_or_eq_of_le (Nat.le_of_lt_succ h)).elim (ip_La11_6 j) (fun e => e ▸ ip_Lx11_6)
set_option maxRecDepth 100000 in
theorem ip_Lx11_7 : ip_Lk RX11 TX11 7 := ⟨(ip_t5 (ip_v5_4 (List.mem_of_getElem? (l := ip_u5_4.1) (i := 20) rfl))), rfl⟩
theorem ip_La11_8 : ∀ j, j < 8 → ip_Lk RX11 TX11 j := fun j h => (Nat.lt_or_eq_of_le (Nat.le_of_lt_succ h)).elim (ip_La11_7 j) (fun e => e ▸ ip_Lx11_7)
set_option maxRecDepth 100000 in
theorem ip_Lx11_8 : ip_Lk RX11 TX11 8 := ⟨(ip_t5 (ip_v5_4 (List.mem_of_getElem? (l := ip_u5_4.1) (i := 22) rfl))), rfl⟩
theorem ip_La11_9 : ∀ j, j < 9 → ip_Lk RX11 TX11 j := fun j h => (Nat.lt_or_eq_of_le (Nat.le_of_lt_succ h)).elim (ip_La11_8 j) (fun e => e ▸ ip_Lx11_8)
set_option maxRecDepth 100000 in
theorem ip_Lx11_9 : ip_Lk RX11 TX11 9 := ⟨(ip_t5 (ip_v5_4 (List.mem_of_getElem? (l := ip_u5_4.1) (i := 24) rfl))), rfl⟩
theorem ip_La11_10 : ∀ j, j < 10 → ip_Lk RX11 TX11 j := fun j h => (Nat.lt_or_eq_of_le (Nat.le_of_lt_succ h)).elim (ip_La11_9 j) (fun e => e ▸ ip_Lx11_9)
set_option maxRecDepth 100000 in
theorem ip_Lx11_10 : ip_Lk RX11 TX11 10 := ⟨(ip_t5 (ip_v5_4 (List.mem_of_getElem? (l := ip_u5_4.1) (i := 26) rfl))), rfl⟩
theorem ip_La11_11 : ∀ j, j < 11 → ip_Lk RX11 TX11 j := fun j h => (Nat.lt_or_eq_of_le (Nat.le_of_lt_succ h)).elim (ip_La11_10 j) (fun e => e ▸ ip_Lx11_10)
set_option maxRecDepth 100000 in
theorem ip_Lx11_11 : ip_Lk RX11 TX11 11 := ⟨(ip_t5 (ip_v5_4 (List.mem_of_getElem? (l := ip_u5_4.1) (i := 28) rfl))), rfl⟩
theorem ip_La11_12 : ∀ j, j < 12 → ip_Lk RX11 TX11 j := fun j h => (Nat.lt_or_eq_of_le (Nat.le_of_lt_succ h)).elim (ip_La11_11 j) (fun e => e ▸ ip_Lx11_11)
set_option maxRecDepth 100000 in
theorem ip_Lx11_12 : ip_Lk RX11 TX11 12 := ⟨(ip_t5 (ip_v5_4 (List.mem_of_getElem? (l := ip_u5_4.1) (i := 30) rfl))), rfl⟩
theorem ip_La11_13 : ∀ j, j < 13 → ip_Lk RX11 TX11 j := fun j h => (Nat.lt_or_eq_of_le (Nat.le_of_lt_succ h)).elim (ip_La11_12 j) (fun e => e ▸ ip_Lx11_12)
set_option maxRecDepth 100000 in
theorem ip_Lx11_13 : ip_Lk RX11 TX11 13 := ⟨(ip_t5 (ip_v5_5 (List.mem_of_getElem? (l := ip_u5_5.1) (i := 0) rfl))), rfl⟩
theorem ip_La11_14 : ∀ j, j < 14 → ip_Lk RX11 TX11 j := fun j h => (Nat.lt_or_eq_of_le (Nat.le_of_lt_succ h)).elim (ip_La11_13 j) (fun e => e ▸ ip_Lx11_13)
set_option maxRecDepth 100000 in
theorem ip_Lx11_14 : ip_Lk RX11 TX11 14 := ⟨(ip_t5 (ip_v5_5 (List.mem_of_getElem? (l := ip_u5_5.1) (i := 2) rfl))), rfl⟩
theorem ip_La11_15 : ∀ j, j < 15 → ip_Lk RX11 TX11 j := fun j h => (Nat.lt_or_eq_of_le (Nat.le_of_lt_succ h)).elim (ip_La11_14 j) (fun e => e ▸ ip_Lx11_14)
set_option maxRecDepth 100000 in
theorem ip_Lx11_15 : ip_Lk RX11 TX11 15 := ⟨(ip_t5 (ip_v5_5 (List.mem_of_getElem? (l := ip_u5_5.1) (i := 4) rfl))), rfl⟩
theorem ip_La11_16 : ∀ j, j < 16 → ip_Lk RX11 TX11 j := fun j h => (Nat.lt_or_eq_of_le (Nat.le_of_lt_succ h)).elim (ip_La11_15 j) (fun e => e ▸ ip_Lx11_15)
set_option maxRecDepth 100000 in
theorem ip_Lx11_16 : ip_Lk RX11 TX11 16 := ⟨(ip_t5 (ip_v5_5 (List.mem_of_getElem? (l := ip_u5_5.1) (i := 6) rfl))), rfl⟩
theorem ip_La11_17 : ∀ j, j < 17 → ip_Lk RX11 TX11 j := fun j h => (Nat.lt_or_eq_of_le (Nat.le_of_lt_succ h)).elim (ip_La11_16 j) (fun e => e ▸ ip_Lx11_16)
set_option maxRecDepth 100000 in
theorem ip_Lx11_17 : ip_Lk RX11 TX11 17 := ⟨(ip_t5 (ip_v5_5 (List.mem_of_getElem? (l := ip_u5_5.1) (i := 8) rfl))), rfl⟩
theorem ip_La11_18 : ∀ j, j < 18 → ip_Lk RX11 TX11 j := fun j h => (Nat.lt_or_eq_of_le (Nat.le_of_lt_succ h)).elim (ip_La11_17 j) (fun e => e ▸ ip_Lx11_17)
set_option maxRecDepth 100000 in
theorem ip_Lx11_18 : ip_Lk RX11 TX11 18 := ⟨(ip_t5 (ip_v5_5 (List.mem_of_getElem? (l := ip_u5_5.1) (i := 10) rfl))), rfl⟩
theorem ip_La11_19 : ∀ j, j < 19 → ip_Lk RX11 TX11 j := fun j h => (Nat.lt_or_eq_of_le (Nat.le_of_lt_succ h)).elim (ip_La11_18 j) (fun e => e ▸ ip_Lx11_18)
set_option maxRecDepth 100000 in
theorem ip_Lx11_19 : ip_Lk RX11 TX11 19 := ⟨(ip_t5 (ip_v5_5 (List.mem_of_getElem? (l := ip_u5_5.1) (i := 12) rfl))), rfl⟩
theorem ip_La11_20 : ∀ j, j < 20 → ip_Lk RX11 TX11 j := fun j h => (Nat.lt_or_eq_of_le (Nat.le_of_lt_succ h)).elim (ip_La11_19 j) (fun e => e ▸ ip_Lx11_19)
set_option maxRecDepth 100000 in
theorem ip_Lx11_20 : ip_Lk RX11 TX11 20 := ⟨(ip_t5 (ip_v5_5 (List.mem_of_getElem? (l := ip_u5_5.1) (i := 14) rfl))), rfl⟩
theorem ip_La11_21 : ∀ j, j < 21 → ip_Lk RX11 TX11 j := fun j h => (Nat.lt_or_eq_of_le (Nat.le_of_lt_succ h)).elim (ip_La11_20 j) (fun e => e ▸ ip_Lx11_20)
set_option maxRecDepth 100000 in
theorem ip_Lx11_21 : ip_Lk RX11 TX11 21 := ⟨(ip_t5 (ip_v5_5 (List.mem_of_getElem? (l := ip_u5_5.1) (i := 16) rfl))), rfl⟩
theorem ip_La11_22 : ∀ j, j < 22 → ip_Lk RX11 TX11 j := fun j h => (Nat.lt_or_eq_of_le (Nat.le_of_lt_succ h)).elim (ip_La11_21 j) (fun e => e ▸ ip_Lx11_21)
set_option maxRecDepth 100000 in
theorem ip_Lx11_22 : ip_Lk RX11 TX11 22 := ⟨(ip_t5 (ip_v5_5 (List.mem_of_getElem? (l := ip_u5_5.1) (i := 18) rfl))), rfl⟩
theorem ip_La11_23 : ∀ j, j < 23 → ip_Lk RX11 TX11 j := fun j h => (Nat.lt_or_eq_of_le (Nat.le_of_lt_succ h)).elim (ip_La11_22 j) (fun e => e ▸ ip_Lx11_22)
set_option maxRecDepth 100000 in
theorem ip_Lx11_23 : ip_Lk RX11 TX11 23 := ⟨(ip_t5 (ip_v5_5 (List.mem_of_getElem? (l := ip_u5_5.1) (i := 20) rfl))), rfl⟩
theorem ip_La11_24 : ∀ j, j < 24 → ip_Lk RX11 TX11 j := fun j h => (Nat.lt_or_eq_of_le (Nat.le_of_lt_succ h)).elim (ip_La11_23 j) (fun e => e ▸ ip_Lx11_23)
set_option maxRecDepth 100000 in
theorem ip_Lx11_24 : ip_Lk RX11 TX11 24 := ⟨(ip_t5 (ip_v5_5 (List.mem_of_getElem? (l := ip_u5_5.1) (i := 22) rfl))), rfl⟩
theorem ip_La11_25 : ∀ j, j < 25 → ip_Lk RX11 TX11 j := fun j h => (Nat.lt_or_eq_of_le (Nat.le_of_lt_succ h)).elim (ip_La11_24 j) (fun e => e ▸ ip_Lx11_24)
set_option maxRecDepth 100000 in
theorem ip_Lx11_25 : ip_Lk RX11 TX11 25 := ⟨(ip_t5 (ip_v5_5 (List.mem_of_getElem? (l := ip_u5_5.1) (i := 24) rfl))), rfl⟩
theorem ip_La11_26 : ∀ j, j < 26 → ip_Lk RX11 TX11 j := fun j h => (Nat.lt_or_eq_of_le (Nat.le_of_lt_succ h)).elim (ip_La11_25 j) (fun e => e ▸ ip_Lx11_25)
set_option maxRecDepth 100000 in
theorem ip_Lx11_26 : ip_Lk RX11 TX11 26 := ⟨(ip_t5 (ip_v5_5 (List.mem_of_getElem? (l := ip_u5_5.1) (i := 26) rfl))), rfl⟩
theorem ip_La11_27 : ∀ j, j < 27 → ip_Lk RX11 TX11 j := fun j h => (Nat.lt_or_eq_of_le (Nat.le_of_lt_succ h)).elim (ip_La11_26 j) (fun e => e ▸ ip_Lx11_26)
set_option maxRecDepth 100000 in
theorem ip_Lx11_27 : ip_Lk RX11 TX11 27 := ⟨(ip_t5 (ip_v5_5 (List.mem_of_getElem? (l := ip_u5_5.1) (i := 28) rfl))), rfl⟩
theorem ip_La11_28 : ∀ j, j < 28 → ip_Lk RX11 TX11 j := fun j h => (Nat.lt_or_eq_of_le (Nat.le_of_lt_succ h)).elim (ip_La11_27 j) (fun e => e ▸ ip_Lx11_27)
set_option maxRecDepth 100000 in
theorem ip_Lx11_28 : ip_Lk RX11 TX11 28 := ⟨(ip_t5 (ip_v5_5 (List.mem_of_getElem? (l := ip_u5_5.1) (i := 30) rfl))), rfl⟩
theorem ip_La11_29 : ∀ j, j < 29 → ip_Lk RX11 TX11 j := fun j h => (Nat.lt_or_eq_of_le (Nat.le_of_lt_succ h)).elim (ip_La11_28 j) (fun e => e ▸ ip_Lx11_28)
set_option maxRecDepth 100000 in
theorem ip_Lx11_29 : ip_Lk RX11 TX11 29 := ⟨(ip_t5 (ip_v5_6 (List.mem_of_getElem? (l := ip_u5_6.1) (i := 0) rfl))), rfl⟩
theorem ip_La11_30 : ∀ j, j < 30 → ip_Lk RX11 TX11 j := fun j h => (Nat.lt_or_eq_of_le (Nat.le_of_lt_succ h)).elim (ip_La11_29 j) (fun e => e ▸ ip_Lx11_29)
set_option maxRecDepth 100000 in
theorem ip_Lx11_30 : ip_Lk RX11 TX11 30 := ⟨(ip_t5 (ip_v5_6 (List.mem_of_getElem? (l := ip_u5_6.1) (i := 2) rfl))), rfl⟩
theorem ip_La11_31 : ∀ j, j < 31 → ip_Lk RX11 TX11 j := fun j h => (Nat.lt_or_eq_of_le (Nat.le_of_lt_succ h)).elim (ip_La11_30 j) (fun e => e ▸ ip_Lx11_30)
set_option maxRecDepth 100000 in
theorem ip_Lx11_31 : ip_Lk RX11 TX11 31 := ⟨(ip_t5 (ip_v5_6 (List.mem_of_getElem? (l := ip_u5_6.1) (i := 4) rfl))), rfl⟩
theorem ip_La11_32 : ∀ j, j < 32 → ip_Lk RX11 TX11 j := fun j h => (Nat.lt_or_eq_of_le (Nat.le_of_lt_succ h)).elim (ip_La11_31 j) (fun e => e ▸ ip_Lx11_31)
set_option maxRecDepth 100000 in
theorem ip_Lx11_32 : ip_Lk RX11 TX11 32 := ⟨(ip_t5 (ip_v5_6 (List.mem_of_getElem? (l := ip_u5_6.1) (i := 6) rfl))), rfl⟩
theorem ip_La11_33 : ∀ j, j < 33 → ip_Lk RX11 TX11 j := fun j h => (Nat.lt_or_eq_of_le (Nat.le_of_lt_succ h)).elim (ip_La11_32 j) (fun e => e ▸ ip_Lx11_32)
set_option maxRecDepth 100000 in
theorem ip_Lx11_33 : ip_Lk RX11 TX11 33 := ⟨(ip_t5 (ip_v5_6 (List.mem_of_getElem? (l := ip_u5_6.1) (i := 8) rfl))), rfl⟩
theorem ip_La11_34 : ∀ j, j < 34 → ip_Lk RX11 TX11 j := fun j h => (Nat.lt_or_eq_of_le (Nat.le_of_lt_succ h)).elim (ip_La11_33 j) (fun e => e ▸ ip_Lx11_33)
set_option maxRecDepth 100000 in
theorem ip_Lx11_34 : ip_Lk RX11 TX11 34 := ⟨(ip_t5 (ip_v5_6 (List.mem_of_getElem? (l := ip_u5_6.1) (i := 10) rfl))), rfl⟩
theorem ip_La11_35 : ∀ j, j < 35 → ip_Lk RX11 TX11 j := fun j h => (Nat.lt_or_eq_of_le (Nat.le_of_lt_succ h)).elim (ip_La11_34 j) (fun e => e ▸ ip_Lx11_34)
set_option maxRecDepth 100000 in
theorem ip_Lx11_35 : ip_Lk RX11 TX11 35 := ⟨(ip_t5 (ip_v5_6 (List.mem_of_getElem? (l := ip_u5_6.1) (i := 12) rfl))), rfl⟩
theorem ip_La11_36 : ∀ j, j < 36 → ip_Lk RX11 TX11 j := fun j h => (Nat.lt_or_eq_of_le (Nat.le_of_lt_succ h)).elim (ip_La11_35 j) (fun e => e ▸ ip_Lx11_35)
set_option maxRecDepth 100000 in
theorem ip_Lx11_36 : ip_Lk RX11 TX11 36 := ⟨(ip_t5 (ip_v5_6 (List.mem_of_getElem? (l := ip_u5_6.1) (i := 14) rfl))), rfl⟩
theorem ip_La11_37 : ∀ j, j < 37 → ip_Lk RX11 TX11 j := fun j h => (Nat.lt_or_eq_of_le (Nat.le_of_lt_succ h)).elim (ip_La11_36 j) (fun e => e ▸ ip_Lx11_36)
set_option maxRecDepth 100000 in
theorem ip_Lx11_37 : ip_Lk RX11 TX11 37 := ⟨(ip_t5 (ip_v5_6 (List.mem_of_getElem? (l := ip_u5_6.1) (i := 16) rfl))), rfl⟩
theorem ip_La11_38 : ∀ j, j < 38 → ip_Lk RX11 TX11 j := fun j h => (Nat.lt_or_eq_of_le (Nat.le_of_lt_succ h)).elim (ip_La11_37 j) (fun e => e ▸ ip_Lx11_37)
set_option maxRecDepth 100000 in
theorem ip_Lx11_38 : ip_Lk RX11 TX11 38 := ⟨(ip_t5 (ip_v5_6 (List.mem_of_getElem? (l := ip_u5_6.1) (i := 18) rfl))), rfl⟩
theorem ip_La11_39 : ∀ j, j < 39 → ip_Lk RX11 TX11 j := fun j h => (Nat.lt_or_eq_of_le (Nat.le_of_lt_succ h)).elim (ip_La11_38 j) (fun e => e ▸ ip_Lx11_38)
set_option maxRecDepth 100000 in
theorem ip_Lx11_39 : ip_Lk RX11 TX11 39 := ⟨(ip_t5 (ip_v5_6 (List.mem_of_getElem? (l := ip_u5_6.1) (i := 20) rfl))), rfl⟩
theorem ip_La11_40 : ∀ j, j < 40 → ip_Lk RX11 TX11 j := fun j h => (Nat.lt_or_eq_of_le (Nat.le_of_lt_succ h)).elim (ip_La11_39 j) (fun e => e ▸ ip_Lx11_39)
set_option maxRecDepth 100000 in
theorem ip_Lx11_40 : ip_Lk RX11 TX11 40 := ⟨(ip_t5 (ip_v5_6 (List.mem_of_getElem? (l := ip_u5_6.1) (i := 22) rfl))), rfl⟩
theorem ip_La11_41 : ∀ j, j < 41 → ip_Lk RX11 TX11 j := fun j h => (Nat.lt_or_eq_of_le (Nat.le_of_lt_succ h)).elim (ip_La11_40 j) (fun e => e ▸ ip_Lx11_40)
set_option maxRecDepth 100000 in
theorem ip_Lx11_41 : ip_Lk RX11 TX11 41 := ⟨(ip_t5 (ip_v5_6 (List.mem_of_getElem? (l := ip_u5_6.1) (i := 24) rfl))), rfl⟩
theorem ip_La11_42 : ∀ j, j < 42 → ip_Lk RX11 TX11 j := fun j h => (Nat.lt_or_eq_of_le (Nat.le_of_lt_succ h)).elim (ip_La11_41 j) (fun e => e ▸ ip_Lx11_41)
set_option maxRecDepth 100000 in
theorem ip_Lx11_42 : ip_Lk RX11 TX11 42 := ⟨(ip_t5 (ip_v5_6 (List.mem_of_getElem? (l := ip_u5_6.1) (i := 26) rfl))), rfl⟩
theorem ip_La11_43 : ∀ j, j < 43 → ip_Lk RX11 TX11 j := fun j h => (Nat.lt_or_eq_of_le (Nat.le_of_lt_succ h)).elim (ip_La11_42 j) (fun e => e ▸ ip_Lx11_42)
set_option maxRecDepth 100000 in
theorem ip_Lx11_43 : ip_Lk RX11 TX11 43 := ⟨(ip_t5 (ip_v5_6 (List.mem_of_getElem? (l := ip_u5_6.1) (i := 28) rfl))), rfl⟩
theorem ip_La11_44 : ∀ j, j < 44 → ip_Lk RX11 TX11 j := fun j h => (Nat.lt_or_eq_of_le (Nat.le_of_lt_succ h)).elim (ip_La11_43 j) (fun e => e ▸ ip_Lx11_43)
set_option maxRecDepth 100000 in
theorem ip_Lx11_44 : ip_Lk RX11 TX11 44 := ⟨(ip_t5 (ip_v5_6 (List.mem_of_getElem? (l := ip_u5_6.1) (i := 30) rfl))), rfl⟩
theorem ip_La11_45 : ∀ j, j < 45 → ip_Lk RX11 TX11 j := fun j h => (Nat.lt_or_eq_of_le (Nat.le_of_lt_succ h)).elim (ip_La11_44 j) (fun e => e ▸ ip_Lx11_44)
set_option maxRecDepth 100000 in
theorem ip_Lx11_45 : ip_Lk RX11 TX11 45 := ⟨(ip_t5 (ip_v5_7 (List.mem_of_getElem? (l := ip_u5_7.1) (i := 0) rfl))), rfl⟩
theorem ip_La11_46 : ∀ j, j < 46 → ip_Lk RX11 TX11 j := fun j h => (Nat.lt_or_eq_of_le (Nat.le_of_lt_succ h)).elim (ip_La11_45 j) (fun e => e ▸ ip_Lx11_45)
set_option maxRecDepth 100000 in
theorem ip_Lx11_46 : ip_Lk RX11 TX11 46 := ⟨(ip_t5 (ip_v5_7 (List.mem_of_getElem? (l := ip_u5_7.1) (i := 2) rfl))), rfl⟩
theorem ip_La11_47 : ∀ j, j < 47 → ip_Lk RX11 TX11 j := fun j h => (Nat.lt_or_eq_of_le (Nat.le_of_lt_succ h)).elim (ip_La11_46 j) (fun e => e ▸ ip_Lx11_46)
set_option maxRecDepth 100000 in
theorem ip_Lx11_47 : ip_Lk RX11 TX11 47 := ⟨(ip_t5 (ip_v5_7 (List.mem_of_getElem? (l := ip_u5_7.1) (i := 4) rfl))), rfl⟩
theorem ip_La11_48 : ∀ j, j < 48 → ip_Lk RX11 TX11 j := fun j h => (Nat.lt_or_eq_of_le (Nat.le_of_lt_succ h)).elim (ip_La11_47 j) (fun e => e ▸ ip_Lx11_47)
theorem ip_Lb {C : String} {T : u_T} {N : Nat} (h : ∀ j, j < N → ip_Lk C T j) : ((u_ws C T N).all fun w => decide (w ∈ lw_tbl) && ip_gw w) = true := by
  rw [List.all_eq_true]
  intro w hw
  obtain ⟨k, hk, e⟩ := List.mem_map.mp hw
  rw [Bool.and_eq_true, decide_eq_true_eq, ← e]
  exact h k (List.mem_range.mp hk)
theorem ip_Lw : (ip_cl.all fun q => (u_ws q.1 q.2.1 q.2.2).all fun w => decide (w ∈ lw_tbl) && ip_gw w) = true := List.all_eq_true.mpr (List.forall_mem_cons.mpr ⟨ip_Lb ip_La0_2, List.forall_mem_cons.mpr ⟨ip_Lb ip_La1_15, List.forall_mem_cons.mpr ⟨ip_Lb ip_La2_5, List.forall_mem_cons.mpr ⟨ip_Lb ip_La3_6, List.forall_mem_cons.mpr ⟨ip_Lb ip_La4_1, List.forall_mem_cons.mpr ⟨ip_Lb ip_La5_8, List.forall_mem_cons.mpr ⟨ip_Lb ip_La6_5, List.forall_mem_cons.mpr ⟨ip_Lb ip_La7_2, List.forall_mem_cons.mpr ⟨ip_Lb ip_La8_4, List.forall_mem_cons.mpr ⟨ip_Lb ip_La9_2, List.forall_mem_cons.mpr ⟨ip_Lb ip_La10_14, List.forall_mem_cons.mpr ⟨ip_Lb ip_La11_48, List.forall_mem_nil _⟩⟩⟩⟩⟩⟩⟩⟩⟩⟩⟩⟩)
set_option maxRecDepth 100000 in
theorem ip_Tn : (ip_cl.all fun q => (List.range q.2.2).all fun a => (List.range q.2.2).all fun b => decide (a = b) || decide ((q.2.1 a).2.1 ≠ (q.2.1 b).2.1)) = true := by decide +kernel
set_option maxRecDepth 100000 in
theorem ip_Ty : ((List.range 12).all fun ci => (List.range (ip_cl.getD ci (RX0, TX0, 0)).2.2).all fun a => decide (parseFieldDescriptor ((ip_cl.getD ci (RX0, TX0, 0)).2.1 a).2.2.1 = some (ip_fty ci a)) && decide (((ip_cl.getD ci (RX0, TX0, 0)).2.1 a).1 = (ip_cl.getD ci (RX0, TX0, 0)).1)) = true := by decide +kernel
end
