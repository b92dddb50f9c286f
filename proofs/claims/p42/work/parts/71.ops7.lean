-- THE REFERENCE: begin, step, go, keep
theorem gG_bg (M : ip_H) (i j : Nat) (w : Int32) (h : ip_G M) : ip_G (c_bg M i j w) := by
  unfold c_bg
  repeat (first | refine gG_uL _ _ _ _ ?_ | refine gG_uI _ _ _ _ ?_)
  exact h
theorem c_bg_q (M : ip_H) (i j : Nat) (w : Int32) : (c_bg M i j w).2.1 109 1 = M.2.1 109 1 := by unfold c_bg; simp (decide := true) only [ip_uL_I, ip_uI_I, ↓reduceIte]
/-- the next step is laid out in M1 -/
def tried (M M1 : ip_H) : Prop := r_k (M.2.1 109) ≠ 60 ∧ (q_c false (M.2.2.1 110) (r_fu (M.2.1 109)).toInt64 (r_fv (M.2.1 109)).toInt64).2 = false ∧
  ∃ u v, u = zQ4 (r_v (M.2.1 109) 0) (r_v (M.2.1 109) 1) (r_v (M.2.1 109) 2) (r_g (M.2.1 109)) (r_f (M.2.1 109)) ∧ v = zQ4 (r_v (M.2.1 109) 0) (r_v (M.2.1 109) 1) (r_v (M.2.1 109) 2) (1, 0, 0, 1) (r_f (M.2.1 109)) ∧
  z_nxt (r_v (M.2.1 109) 0) (r_v (M.2.1 109) 1) (r_v (M.2.1 109) 2) u = true ∧ z_nxt (r_v (M.2.1 109) 0) (r_v (M.2.1 109) 1) (r_v (M.2.1 109) 2) v = true ∧
  M1.2.1 108 17 = r_fu (M.2.1 109) ∧ M1.2.1 108 18 = r_fv (M.2.1 109) ∧ M1.2.1 108 27 = ip_b (r_t (M.2.1 109)) ∧ (∀ j, j < 9 → M1.2.2.1 118 j = q_nx false (M.2.2.1 110) (r_fu (M.2.1 109)).toInt64 (r_fv (M.2.1 109)).toInt64 (r_t (M.2.1 109)) j) ∧
  M1.2.1 119 0 = Int32.ofInt u.1 ∧ M1.2.1 119 1 = Int32.ofInt u.2.1 ∧ M1.2.1 119 2 = Int32.ofInt u.2.2.1 ∧ M1.2.1 119 3 = Int32.ofInt u.2.2.2 ∧ M1.2.1 119 4 = Int32.ofInt v.1 ∧ M1.2.1 119 5 = Int32.ofInt v.2.1 ∧ M1.2.1 119 6 = Int32.ofInt v.2.2.1 ∧ M1.2.1 119 7 = Int32.ofInt v.2.2.2
theorem tried_row {M M2 M1 : ip_H} (h1 : M2.2.1 109 = M.2.1 109) (h2 : M2.2.2.1 110 = M.2.2.1 110) (h : tried M2 M1) : tried M M1 := by
  unfold tried at *
  rw [h1, h2] at h
  exact h
theorem scr_pm (M : ip_H) : scr M (c_pm M) := scr_pt (scr_r M)
theorem c_pm_row (M : ip_H) : (c_pm M).2.1 109 = M.2.1 109 := c_pt_row ..
theorem c_pm_110 (M : ip_H) : (c_pm M).2.2.1 110 = M.2.2.1 110 := c_pt_110 ..
theorem c_lbm_G {M : ip_H} {l : Nat} {o : Option Nat} (h : ip_G M) : ip_G (c_lbm M l o) := by cases o <;> exact h
theorem gG_lb (M : ip_H) (l : Nat) (h : ip_G M) : ip_G (c_lb M l) := by
  unfold c_lb
  split
  · exact c_lbm_G h
  · exact h
theorem c_lb_I (M : ip_H) (l a b : Nat) (h : ¬ (a = 109 ∧ (b = 6 ∨ b = 7))) : (c_lb M l).2.1 a b = M.2.1 a b := by
  unfold c_lb
  split
  · generalize lbk (M.2.1 109) l l 0 = o
    cases o with
    | none => rfl
    | some k =>
      unfold c_lbm
      rw [ip_uI_I, if_neg (by omega), ip_uI_I, if_neg (by omega)]
  · rfl
theorem c_lb_L (M : ip_H) (l : Nat) : (c_lb M l).2.2.1 = M.2.2.1 := by
  unfold c_lb
  split
  · generalize lbk (M.2.1 109) l l 0 = o
    cases o <;> rfl
  · rfl
theorem gG_do (M : ip_H) (k : Nat) (t : Bool) (h : ip_G M) : ip_G (c_do M k t) := h
theorem c_do_5 (M : ip_H) (k : Nat) (t : Bool) : (c_do M k t).2.1 109 5 = Int32.ofNat (k + 1) := by
  unfold c_do
  rw [ip_sL_I, ip_sI_I, if_pos rfl]
  rfl
/-- one that has a course, or none -/
def onc (N : Nat → Int32) : Prop := ¬ N 3 = 0 → crs N

set_option maxHeartbeats 40000000 in
set_option maxRecDepth 100000 in
theorem o_219 (X : ip_X) (M : ip_H) (K : Option Value → ip_H → Prop) (hG : ip_G M) (hc : crs (M.2.1 109)) (hF : zF (M.2.1 109 0).toInt (M.2.1 109 1).toInt (M.2.1 109 2).toInt = true) (he : r_e (M.2.1 109) = false)
    (h0 : ∀ M1, scr M M1 → K (some (.int 0)) M1) (h1 : ∀ M1, scr M M1 → tried M M1 → K (some (.int 1)) M1) : ip_wp X 219 0 [.ref 108] [] M K := by
  have hq : q3 (M.2.1 109 1) = true := by rw [q3_b]; exact (zF_b hF).2.1
  obtain ⟨bf, bg⟩ := crs_fg hF hc
  refine s_219 X M K hG hq hc.1 hc.2.1 hF bf bg (r_e_nz bf he) h0 ?_
  intro M1 hs h60 hB u v hu hv hzu hzv hM
  refine h1 M1 hs ⟨h60, hB, u, v, hu, hv, hzu, hzv, ?_⟩
  have q : ∀ j, j < 9 → M1.2.2.1 118 j = q_nx false (M.2.2.1 110) (r_fu (M.2.1 109)).toInt64 (r_fv (M.2.1 109)).toInt64 (r_t (M.2.1 109)) j := by
    intro j hj
    rw [← c_sq_n (ip_uI (c_pm M) 108 29 0) _ _ _ _ _ _ hj, hM]
    unfold c_x4
    simp (decide := true) only [c_cm_L, ip_x4_L, false_and, ↓reduceIte]
  refine ⟨?_, ?_, ?_, q, ?_⟩
  · rw [hM]; unfold c_x4 c_pm; simp (decide := true) only [c_cm_I, ip_x4_I, c_sq_I, ip_uI_I, c_pt_I, ↓reduceIte]
  · rw [hM]; unfold c_x4 c_pm; simp (decide := true) only [c_cm_I, ip_x4_I, c_sq_I, ip_uI_I, c_pt_I, ↓reduceIte]
  · rw [hM]; unfold c_x4 c_pm; simp (decide := true) only [c_cm_I, ip_x4_I, c_sq_I, ip_uI_I, c_pt_I, ↓reduceIte]
  · rw [hM]
    unfold c_x4
    simp (decide := true) only [c_cm_I, ip_x4_I, ↓reduceIte, and_self]
