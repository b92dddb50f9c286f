-- WHAT STANDS BETWEEN TWO CALLS: kept rows, images
theorem m8_ex {x : Int32} (h : m8 x = true) : ∃ m : Nat, m ≤ 8 ∧ x = Int32.ofNat m := by
  unfold m8 at h
  simp only [Bool.and_eq_true, decide_eq_true_eq] at h
  have hx := ip_nat x h.1
  have e : x.toNatClampNeg = x.toInt.toNat := rfl
  exact ⟨x.toNatClampNeg, by omega, hx⟩
theorem m8_of (m : Nat) (h : m ≤ 8) : m8 (Int32.ofNat m) = true := by
  unfold m8
  rw [ip_nt m (by omega)]
  simp only [Bool.and_eq_true, decide_eq_true_eq]
  omega
theorem kp_I (M : ip_H) (w : Int32) (m a b : Nat) : (c_kp M w m).2.1 a b = if a = 108 ∧ b = 12 then Int32.ofNat (m + 1) else if a = 113 ∧ b = m then w else if a = 112 then c_cp (M.2.1 112) (M.2.1 109) (821 * m) 0 821 b else M.2.1 a b := by
  unfold c_kp
  rw [ip_uI_I, ip_uI_I, ip_sL_I, ip_sI_I]
theorem kp_L (M : ip_H) (w : Int32) (m a b : Nat) : (c_kp M w m).2.2.1 a b = if a = 115 then c_cp (M.2.2.1 115) (M.2.2.1 110) (9 * m) 0 9 b else M.2.2.1 a b := by
  unfold c_kp
  rw [ip_uI_L, ip_uI_L, ip_sL_L, ip_sI_L]
theorem kp_Ia (M : ip_H) (w : Int32) (m a : Nat) (h1 : ¬ a = 108) (h2 : ¬ a = 113) (h3 : ¬ a = 112) : (c_kp M w m).2.1 a = M.2.1 a := funext fun b => by
  rw [kp_I, if_neg (by omega), if_neg (by omega), if_neg h3]
theorem kp_La (M : ip_H) (w : Int32) (m a : Nat) (h1 : ¬ a = 115) : (c_kp M w m).2.2.1 a = M.2.2.1 a := funext fun b => by
  rw [kp_L, if_neg h1]
theorem Ri_kp {M : ip_H} {w : Int32} {m : Nat} (hm : m ≤ 7) (g : Ri M) (hk : ∀ m', m' < m → rw_ok (fun j => M.2.1 112 (821 * m' + j))) : Ri (c_kp M w m) := by
  obtain ⟨⟨g1, g2, g3, g4, g5, g6, g7⟩, g8, g9⟩ := g
  refine ⟨⟨?_, ?_, ?_, ?_, ?_, ?_, ?_⟩, ?_, ?_⟩
  · rw [kp_I, if_neg (by omega), if_neg (by omega), if_neg (by omega)]; exact g1
  · rw [kp_I, if_pos ⟨rfl, rfl⟩]; exact m8_of _ (by omega)
  · rw [kp_I, if_neg (by omega), if_neg (by omega), if_neg (by omega)]; exact g3
  · intro m' hm'
    rw [kp_I, if_pos ⟨rfl, rfl⟩, ip_nc _ (by omega)] at hm'
    by_cases e : m' = m
    · subst e
      refine rw_ok_c (fun j hj => ?_) g8
      rw [kp_I, if_neg (by omega), if_neg (by omega), if_pos rfl, c_cp_in _ _ _ _ _ _ hj, Nat.zero_add]
    · refine rw_ok_c (fun j hj => ?_) (hk m' (by omega))
      rw [kp_I, if_neg (by omega), if_neg (by omega), if_pos rfl, c_cp_out _ _ _ _ _ _ (by omega)]
  · intro j hj
    rw [kp_L, if_pos rfl]
    unfold c_cp
    split
    · exact g9 _ (by omega)
    · exact g5 j hj
  · rw [kp_Ia _ _ _ 117 (by decide) (by decide) (by decide), kp_Ia _ _ _ 114 (by decide) (by decide) (by decide)]; exact g6
  · rw [kp_La _ _ _ 116 (by decide)]; exact g7
  · rw [kp_Ia _ _ _ 109 (by decide) (by decide) (by decide)]; exact g8
  · rw [kp_La _ _ _ 110 (by decide)]; exact g9
theorem dn_I (M : ip_H) (a b : Nat) : (c_dn M).2.1 a b = if a = 108 ∧ b = 12 then Int32.ofNat 7 else if a = 113 then c_cp (M.2.1 113) (M.2.1 113) 0 1 7 b else if a = 112 then c_cp (M.2.1 112) (M.2.1 112) 0 821 5747 b else M.2.1 a b := by
  unfold c_dn
  rw [ip_uI_I, ip_sI_I, ip_sL_I, ip_sI_I]
theorem dn_L (M : ip_H) (a b : Nat) : (c_dn M).2.2.1 a b = if a = 115 then c_cp (M.2.2.1 115) (M.2.2.1 115) 0 9 63 b else M.2.2.1 a b := by
  unfold c_dn
  rw [ip_uI_L, ip_sI_L, ip_sL_L, ip_sI_L]
theorem dn_Ia (M : ip_H) (a : Nat) (h1 : ¬ a = 108) (h2 : ¬ a = 113) (h3 : ¬ a = 112) : (c_dn M).2.1 a = M.2.1 a := funext fun b => by
  rw [dn_I, if_neg (by omega), if_neg h2, if_neg h3]
theorem dn_La (M : ip_H) (a : Nat) (h1 : ¬ a = 115) : (c_dn M).2.2.1 a = M.2.2.1 a := funext fun b => by
  rw [dn_L, if_neg h1]
theorem Ri_dn {M : ip_H} (h8 : M.2.1 108 12 = 8) (g : Ri M) : Ri (c_dn M) := by
  obtain ⟨⟨g1, g2, g3, g4, g5, g6, g7⟩, g8, g9⟩ := g
  rw [h8] at g4
  refine ⟨⟨?_, ?_, ?_, ?_, ?_, ?_, ?_⟩, ?_, ?_⟩
  · rw [dn_I, if_neg (by omega), if_neg (by omega), if_neg (by omega)]; exact g1
  · rw [dn_I, if_pos ⟨rfl, rfl⟩]; exact m8_of _ (by omega)
  · rw [dn_I, if_neg (by omega), if_neg (by omega), if_neg (by omega)]; exact g3
  · intro m' hm'
    rw [dn_I, if_pos ⟨rfl, rfl⟩, ip_nc _ (by omega)] at hm'
    refine rw_ok_c (fun j hj => ?_) (g4 (m' + 1) (by rw [show (8 : Int32).toNatClampNeg = 8 from rfl]; omega))
    rw [dn_I, if_neg (by omega), if_neg (by omega), if_pos rfl]
    unfold c_cp
    rw [if_pos (by omega)]
    exact congrArg (M.2.1 112) (by omega)
  · intro j hj
    rw [dn_L, if_pos rfl]
    unfold c_cp
    split
    · exact g5 _ (by omega)
    · exact g5 j hj
  · rw [dn_Ia _ 117 (by decide) (by decide) (by decide), dn_Ia _ 114 (by decide) (by decide) (by decide)]; exact g6
  · rw [dn_La _ 116 (by decide)]; exact g7
  · rw [dn_Ia _ 109 (by decide) (by decide) (by decide)]; exact g8
  · rw [dn_La _ 110 (by decide)]; exact g9
theorem Ri_ks {M : ip_H} {w : Int32} (g : Ri M) : Ri (c_ks M w) := by
  unfold c_ks
  split
  · rename_i h
    have gd := Ri_dn h g
    refine Ri_kp (by decide) gd (fun m' hm' => gd.1.2.2.2.1 m' ?_)
    rw [dn_I, if_pos ⟨rfl, rfl⟩, ip_nc _ (by omega)]
    exact hm'
  · rename_i h
    obtain ⟨m, hm, e⟩ := m8_ex g.1.2.1
    have h7 : m ≠ 8 := by
      rintro rfl
      exact h (e.trans (by decide))
    refine Ri_kp ?_ g g.1.2.2.2.1
    rw [e, ip_nc _ (by omega)]
    omega
theorem ks_row (M : ip_H) (w : Int32) : (c_ks M w).2.1 109 = M.2.1 109 := funext fun b => c_ks_I M w 109 b (by decide) (by decide) (by omega)
theorem ks_110 (M : ip_H) (w : Int32) : (c_ks M w).2.2.1 110 = M.2.2.1 110 := funext fun b => c_ks_L M w 110 b (by decide)
theorem Ri_bk {M : ip_H} {m : Nat} (hm : m ≤ 7) (e : M.2.1 108 12 = Int32.ofNat (m + 1)) (g : Ri M) : Ri (c_bk (ip_uI M 108 12 (Int32.ofNat m)) m) := by
  obtain ⟨⟨g1, g2, g3, g4, g5, g6, g7⟩, g8, g9⟩ := g
  rw [e, ip_nc _ (by omega)] at g4
  have hL : Rk (ip_uI M 108 12 (Int32.ofNat m)) := by
    refine ⟨g1, ?_, g3, ?_, g5, g6, g7⟩
    · show m8 (Int32.ofNat m) = true
      exact m8_of _ (by omega)
    · intro m' hm'
      have hm2 : m' < (Int32.ofNat m).toNatClampNeg := hm'
      rw [ip_nc _ (by omega)] at hm2
      exact g4 m' (by omega)
  refine ⟨Rk_vis (vis_sL (vis_sI (vis_r _) (fun _ => rfl)) (fun _ => rfl)) hL, ?_, ?_⟩
  · refine rw_ok_c (fun j hj => ?_) (g4 m (by omega))
    unfold c_bk
    rw [ip_sL_I, ip_sI_I, if_pos rfl]
    unfold c_cp
    rw [if_pos (by omega)]
    show M.2.1 112 _ = M.2.1 112 _
    exact congrArg (M.2.1 112) (by omega)
  · intro j hj
    unfold c_bk
    rw [ip_sL_L, if_pos rfl]
    unfold c_cp
    rw [if_pos (by omega)]
    exact g5 _ (by omega)
theorem im_I (M : ip_H) (m a b : Nat) : (c_im M m).2.1 a b = if a = 117 ∧ b = m then 1 else if a = 114 then c_cp (M.2.1 114) (M.2.1 109) (821 * m) 0 821 b else M.2.1 a b := by
  unfold c_im
  rw [ip_uI_I, ip_sL_I, ip_sI_I]
theorem im_L (M : ip_H) (m a b : Nat) : (c_im M m).2.2.1 a b = if a = 116 then c_cp (M.2.2.1 116) (M.2.2.1 110) (9 * m) 0 9 b else M.2.2.1 a b := by
  unfold c_im
  rw [ip_uI_L, ip_sL_L, ip_sI_L]
theorem im_Ia (M : ip_H) (m a : Nat) (h1 : ¬ a = 117) (h2 : ¬ a = 114) : (c_im M m).2.1 a = M.2.1 a := funext fun b => by
  rw [im_I, if_neg (by omega), if_neg h2]
theorem im_La (M : ip_H) (m a : Nat) (h1 : ¬ a = 116) : (c_im M m).2.2.1 a = M.2.2.1 a := funext fun b => by
  rw [im_L, if_neg h1]
theorem Ri_im {M : ip_H} {m : Nat} (hm : m ≤ 1) (g : Ri M) : Ri (c_im M m) := by
  obtain ⟨⟨g1, g2, g3, g4, g5, g6, g7⟩, g8, g9⟩ := g
  have e108 := im_Ia M m 108 (by decide) (by decide)
  refine ⟨⟨?_, ?_, ?_, ?_, ?_, ?_, ?_⟩, ?_, ?_⟩
  · rw [e108]; exact g1
  · rw [e108]; exact g2
  · rw [e108]; exact g3
  · rw [e108, im_Ia _ _ 112 (by decide) (by decide)]; exact g4
  · rw [im_La _ _ 115 (by decide)]; exact g5
  · intro m' hm' h
    by_cases e : m' = m
    · subst e
      refine rw_ok_c (fun j hj => ?_) g8
      rw [im_I, if_neg (by omega), if_pos rfl, c_cp_in _ _ _ _ _ _ hj, Nat.zero_add]
    · rw [im_I, if_neg (by omega), if_neg (by omega)] at h
      refine rw_ok_c (fun j hj => ?_) (g6 m' hm' h)
      rw [im_I, if_neg (by omega), if_pos rfl, c_cp_out _ _ _ _ _ _ (by omega)]
  · intro j hj
    rw [im_L, if_pos rfl]
    unfold c_cp
    split
    · exact g9 _ (by omega)
    · exact g7 j hj
  · rw [im_Ia _ _ 109 (by decide) (by decide)]; exact g8
  · rw [im_La _ _ 110 (by decide)]; exact g9
theorem Ri_bi {M : ip_H} {m : Nat} (hm : m ≤ 1) (h : ¬ M.2.1 117 m = 0) (g : Ri M) : Ri (c_bi M m) := by
  obtain ⟨⟨g1, g2, g3, g4, g5, g6, g7⟩, g8, g9⟩ := g
  have hL : Rk (ip_uI M 108 12 0) := by
    refine ⟨g1, ?_, g3, ?_, g5, g6, g7⟩
    · show m8 0 = true
      decide
    · intro m' hm'
      have hm2 : m' < (0 : Int32).toNatClampNeg := hm'
      exact absurd hm2 (Nat.not_lt_zero _)
  have e : c_bi M m = ip_sL (ip_sI (ip_uI M 108 12 0) 109 (c_cp (M.2.1 109) (M.2.1 114) 0 (821 * m) 821)) 110 (c_cp (M.2.2.1 110) (M.2.2.1 116) 0 (9 * m) 9) := by
    unfold c_bi
    refine Prod.ext rfl (Prod.ext ?_ (Prod.ext rfl rfl))
    funext a b
    rw [ip_uI_I, ip_sL_I, ip_sI_I, ip_sL_I, ip_sI_I, ip_uI_I]
    by_cases h1 : a = 109
    · rw [if_neg (by omega), if_pos h1, if_pos h1]
    · rw [if_neg h1, if_neg h1]
  rw [e]
  refine ⟨Rk_vis (vis_sL (vis_sI (vis_r _) (fun _ => rfl)) (fun _ => rfl)) hL, ?_, ?_⟩
  · refine rw_ok_c (fun j hj => ?_) (g6 m (by omega) h)
    rw [ip_sL_I, ip_sI_I, if_pos rfl]
    unfold c_cp
    rw [if_pos (by omega)]
    exact congrArg (M.2.1 114) (by omega)
  · intro j hj
    rw [ip_sL_L, if_pos rfl]
    unfold c_cp
    rw [if_pos (by omega)]
    exact g7 _ (by omega)
