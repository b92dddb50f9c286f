-- EACH METHOD OF THE REFERENCE between two calls
theorem vn_out (M : ip_H) (p q r : Int32) (b : Nat) (h0 : ¬ b = 0) (h1 : ¬ b = 1) (h2 : ¬ b = 2) : (v_n M p q r).2.1 109 b = M.2.1 109 b := by
  unfold v_n
  rw [ip_uI_I, if_neg (by omega), ip_uI_I, if_neg (by omega), ip_uI_I, if_neg (by omega)]
theorem vn_back {M N : ip_H} (h : ∀ b, ¬ b = 0 → ¬ b = 1 → ¬ b = 2 → N.2.1 109 b = M.2.1 109 b) : (v_n N (M.2.1 109 0) (M.2.1 109 1) (M.2.1 109 2)).2.1 109 = M.2.1 109 := by
  funext b
  by_cases h2 : b = 2
  · subst h2; rfl
  by_cases h1 : b = 1
  · subst h1; rfl
  by_cases h0 : b = 0
  · subst h0; rfl
  rw [vn_out _ _ _ _ _ h0 h1 h2, h b h0 h1 h2]
theorem ft_row (M : ip_H) (z : Int × Int × Int × Int) (b : Nat) : (c_ft M z).2.1 109 b = M.2.1 109 b := by
  unfold c_ft
  rw [ip_uI_I, if_neg (by omega), ip_uI_I, if_neg (by omega), ip_uI_I, if_neg (by omega), ip_uI_I, if_neg (by omega)]
theorem z2_row (M : ip_H) (z : Int × Int × Int × Int) (b : Nat) : (c_2z M z).2.1 109 b = M.2.1 109 b := by
  unfold c_2z c_2nd
  rw [ip_uI_I, if_neg (by omega), ip_uI_I, if_neg (by omega), ip_uI_I, if_neg (by omega), ip_uI_I, if_neg (by omega)]
theorem rN_110 (M : ip_H) (R S : Nat → Int64) (B : Bool) : (c_rN M R S B).2.2.1 110 = M.2.2.1 110 := funext fun b => by rw [c_rN_L, if_neg (by decide), if_neg (by decide)]
theorem x4_110 {M : ip_H} (N : ip_H) (z : Int × Int × Int × Int) (h : N.2.2.1 110 = M.2.2.1 110) : (c_x4 N z).2.2.1 110 = M.2.2.1 110 := by
  rw [← h]
  funext b
  unfold c_x4 ip_x4
  rw [ip_uL_L, if_neg (by omega), ip_uL_L, if_neg (by omega), ip_uL_L, if_neg (by omega), ip_uL_L, if_neg (by omega)]
theorem vn_110 {M : ip_H} (N : ip_H) (p q r : Int32) (h : N.2.2.1 110 = M.2.2.1 110) : (v_n N p q r).2.2.1 110 = M.2.2.1 110 := h
theorem st_I (M : ip_H) (f g : Int × Int × Int × Int) (b : Nat) : (c_st M f g).2.1 109 b = if b = 16 then Int32.ofInt g.2.2.2 else if b = 12 then Int32.ofInt f.2.2.2 else if b = 15 then Int32.ofInt g.2.2.1 else if b = 11 then Int32.ofInt f.2.2.1 else if b = 14 then Int32.ofInt g.2.1 else if b = 10 then Int32.ofInt f.2.1 else if b = 13 then Int32.ofInt g.1 else if b = 9 then Int32.ofInt f.1 else M.2.1 109 b := by
  unfold c_st
  simp only [ip_uI_I, true_and]
theorem Ri_st2 {M : ip_H} {f g : Int × Int × Int × Int} (hf : c_v4 f) (hg : c_v4 g) (h : Ri M) : Ri (c_st M f g) := by
  have out : ∀ b, (b < 9 ∨ 17 ≤ b) → (c_st M f g).2.1 109 b = M.2.1 109 b := fun b hb => by
    rw [st_I, if_neg (by omega), if_neg (by omega), if_neg (by omega), if_neg (by omega), if_neg (by omega), if_neg (by omega), if_neg (by omega), if_neg (by omega)]
  refine ⟨Rk_vis (vis_st M f g) h.1, rw_st (fun j hj h9 => out j (by omega)) (fun k hk => ?_) h.2.1, h.2.2⟩
  by_cases e0 : k = 0
  · subst e0
    exact c_vo_put (s := 9) (by rw [st_I]; rfl) (by rw [st_I]; rfl) (by rw [st_I]; rfl) (by rw [st_I]; rfl) hf
  by_cases e1 : k = 1
  · subst e1
    exact c_vo_put (s := 13) (by rw [st_I]; rfl) (by rw [st_I]; rfl) (by rw [st_I]; rfl) (by rw [st_I]; rfl) hg
  exact c_vo_c (fun j hj => out _ (by omega)) (h.2.1.2.2.2.2.1 k hk)
theorem as_110 (M : ip_H) : (c_as M).2.2.1 110 = M.2.2.1 110 := funext fun b => by
  unfold c_as
  rw [ip_sL_L, if_neg (by decide), ip_sI_L]
theorem as_126 (M : ip_H) (b : Nat) (hb : b < 821) : (c_as M).2.1 126 b = M.2.1 109 b := by
  unfold c_as
  rw [ip_sL_I, ip_sI_I, if_pos rfl]
  unfold c_cp
  rw [if_pos (by omega)]
  exact congrArg (M.2.1 109) (by omega)
theorem as_127 (M : ip_H) (b : Nat) (hb : b < 9) : (c_as M).2.2.1 127 b = M.2.2.1 110 b := by
  unfold c_as
  rw [ip_sL_L, if_pos rfl]
  unfold c_cp
  rw [if_pos (by omega)]
  exact congrArg (M.2.2.1 110) (by omega)
theorem rb_row (M : ip_H) (b : Nat) (hb : b < 821) : (c_rb M).2.1 109 b = M.2.1 126 b := by
  unfold c_rb
  rw [ip_sL_I, ip_sI_I, if_pos rfl]
  unfold c_cp
  rw [if_pos (by omega)]
  exact congrArg (M.2.1 126) (by omega)
theorem rb_110 (M : ip_H) (b : Nat) (hb : b < 9) : (c_rb M).2.2.1 110 b = M.2.2.1 127 b := by
  unfold c_rb
  rw [ip_sL_L, if_pos rfl]
  unfold c_cp
  rw [if_pos (by omega)]
  exact congrArg (M.2.2.1 127) (by omega)
theorem bg_126 (M : ip_H) (i j : Nat) (w : Int32) : (c_bg M i j w).2.1 126 = M.2.1 126 := funext fun b => by
  unfold c_bg
  simp (decide := true) only [ip_uL_I, ip_uI_I, false_and, ↓reduceIte]
theorem bg_127 (M : ip_H) (i j : Nat) (w : Int32) : (c_bg M i j w).2.2.1 127 = M.2.2.1 127 := funext fun b => by
  unfold c_bg
  simp (decide := true) only [ip_uL_L, ip_uI_L, false_and, ↓reduceIte]
theorem dn1_126 (L : ip_H) (t : Bool) : (c_dn1 L t).2.1 126 = L.2.1 126 := funext fun b => by
  unfold c_dn1
  rw [c_lb_I _ _ _ _ (by omega)]
  unfold c_do
  rw [ip_sL_I, ip_sI_I, if_neg (by decide)]
theorem dn1_127 (L : ip_H) (t : Bool) : (c_dn1 L t).2.2.1 127 = L.2.2.1 127 := funext fun b => by
  unfold c_dn1
  rw [c_lb_L]
  unfold c_do
  rw [ip_sL_L, if_neg (by decide), ip_sI_L]
