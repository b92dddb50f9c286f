-- NEW ROWS: field, set, begin, keep, read, solve
theorem z_i32 {n x : Int} (h : zb n x) (hn : n ≤ 2147483647) : (Int32.ofInt x).toInt = x := by
  unfold zb at h
  exact Int32.toInt_ofInt_of_le (by omega) (by omega)
/-- another STORE -/
theorem rw_st {N N' : Nat → Int32} (h : ∀ j, j < 821 → (j < 9 ∨ 33 ≤ j) → N' j = N j) (hv : ∀ i, i < 6 → c_vo N' (9 + 4 * i)) (g : rw_ok N) : rw_ok N' := by
  obtain ⟨g1, g2, g3, g4, g5, ⟨m, g6, g7, g8⟩, g9⟩ := g
  have e5 : r_k N' = r_k N := by unfold r_k; rw [h 5 (by decide) (by decide)]
  refine ⟨?_, ?_, ?_, ?_, hv, ⟨m, g6, ?_, ?_⟩, ?_⟩
  · rw [h 0 (by decide) (by decide), h 1 (by decide) (by decide), h 2 (by decide) (by decide)]; exact g1
  · intro h3
    rw [h 3 (by decide) (by decide)] at h3
    obtain ⟨a, b, c⟩ := g2 h3
    refine ⟨by rw [h 5 (by decide) (by decide), e5]; exact a, by rw [e5]; exact b, fun k hk => ?_⟩
    rw [e5] at hk
    exact ⟨c_vo_c (fun j hj => h _ (by omega) (by omega)) (c k hk).1, c_vo_c (fun j hj => h _ (by omega) (by omega)) (c k hk).2⟩
  · intro h3 h6
    rw [h 3 (by decide) (by decide)] at h3
    rw [h 6 (by decide) (by decide)] at h6
    obtain ⟨s, l, a, b, c, d⟩ := g3 h3 h6
    exact ⟨s, l, a, by rw [e5]; exact b, by rw [h 6 (by decide) (by decide)]; exact c, by rw [h 7 (by decide) (by decide)]; exact d⟩
  · intro k hk
    rw [h _ (by omega) (by omega)]
    exact g4 k hk
  · rw [h 8 (by decide) (by decide)]; exact g7
  · intro k hk
    exact wdk_c (fun j hj => h _ (by omega) (by omega)) (g8 k hk)
  · intro h3 k hk
    rw [h 3 (by decide) (by decide)] at h3
    rw [e5] at hk
    obtain ⟨a, b⟩ := g9 h3 k hk
    have hb := (g2 h3).2.1
    exact ⟨s_nn_c (fun j hj => h _ (by omega) (by omega)) (fun j hj => h _ (by omega) (by omega)) a, s_nn_c (fun j hj => h _ (by omega) (by omega)) (fun j hj => h _ (by omega) (by omega)) b⟩
/-- another FIELD, no COURSE -/
theorem rw_cl {N : Nat → Int32} {p q r : Int32} (hF : zF p.toInt q.toInt r.toInt = true) (g : rw_ok N) : rw_ok (c_clf N p q r) := by
  obtain ⟨g1, g2, g3, g4, g5, ⟨m, g6, g7, g8⟩, g9⟩ := g
  have e3 : c_clf N p q r 3 = 0 := rfl
  have eh : ∀ j, 33 ≤ j → c_clf N p q r j = N j := fun j hj => by
    unfold c_clf
    rw [if_neg (by omega), if_neg (by omega), if_neg (by omega), if_neg (by omega), if_neg (by omega), if_neg (by omega), if_neg (by omega), if_neg (by omega)]
  have es : ∀ j, 9 ≤ j → j < 33 → c_clf N p q r j = if j % 4 = 0 then 1 else 0 := fun j h1 h2 => by
    unfold c_clf
    rw [if_neg (by omega), if_neg (by omega), if_neg (by omega), if_neg (by omega), if_neg (by omega), if_neg (by omega), if_neg (by omega), if_pos ⟨h1, h2⟩]
  refine ⟨hF, fun h => absurd e3 h, fun h => absurd e3 h, ?_, ?_, ⟨m, g6, g7, ?_⟩, fun h => absurd e3 h⟩
  · intro k hk
    rw [eh _ (by omega)]
    exact g4 k hk
  · intro i hi
    unfold c_vo
    rw [es _ (by omega) (by omega), es _ (by omega) (by omega), es _ (by omega) (by omega), es _ (by omega) (by omega), if_neg (by omega), if_neg (by omega), if_neg (by omega), if_pos (by omega)]
    exact ⟨by unfold zb; decide, by unfold zb; decide, by unfold zb; decide, by decide, by decide⟩
  · intro k hk
    exact wdk_c (fun j hj => eh _ (by omega)) (g8 k hk)
theorem cl_row (M : ip_H) (p q r : Int32) : (c_cl M p q r).2.1 109 = c_clf (M.2.1 109) p q r := funext fun b => by
  unfold c_cl
  rw [ip_sI_I, if_pos rfl]
theorem Ri_cl {M : ip_H} {p q r : Int32} (hF : zF p.toInt q.toInt r.toInt = true) (g : Ri M) : Ri (c_cl M p q r) := ⟨Rk_vis (vis_cl M p q r) g.1, by rw [cl_row]; exact rw_cl hF g.2.1, g.2.2⟩
theorem ly_I (M : ip_H) (i : Nat) (a b c d : Int32) (j : Nat) : (c_ly M i a b c d).2.1 109 j = if j = 9 + 4 * i + 3 then d else if j = 9 + 4 * i + 2 then c else if j = 9 + 4 * i + 1 then b else if j = 9 + 4 * i then a else M.2.1 109 j := by
  unfold c_ly
  rw [ip_uI_I, if_neg (by omega), ip_uI_I, ip_uI_I, ip_uI_I, ip_uI_I]
  simp only [true_and]
theorem c_vo_put {N : Nat → Int32} {s : Nat} {z : Int × Int × Int × Int} (h0 : N s = Int32.ofInt z.1) (h1 : N (s + 1) = Int32.ofInt z.2.1) (h2 : N (s + 2) = Int32.ofInt z.2.2.1) (h3 : N (s + 3) = Int32.ofInt z.2.2.2) (h : c_v4 z) : c_vo N s := by
  obtain ⟨v1, v2, v3, v4, v5⟩ := h
  have b4 : zb 150 z.2.2.2 := by unfold zb; omega
  unfold c_vo
  rw [h0, h1, h2, h3, z_i32 v1 (by decide), z_i32 v2 (by decide), z_i32 v3 (by decide), z_i32 b4 (by decide)]
  exact ⟨v1, v2, v3, v4, v5⟩
theorem Ri_l4 {M : ip_H} {i : Nat} {z : Int × Int × Int × Int} (hi : i < 6) (h : c_v4 z) (g : Ri M) : Ri (c_l4 M i z) := by
  unfold c_l4
  refine ⟨Rk_vis (vis_ly M i _ _ _ _) g.1, rw_st (fun j hj h9 => ?_) (fun k hk => ?_) g.2.1, g.2.2⟩
  · rw [ly_I, if_neg (by omega), if_neg (by omega), if_neg (by omega), if_neg (by omega)]
  · by_cases e : k = i
    · subst e
      refine c_vo_put ?_ ?_ ?_ ?_ h
      · rw [ly_I, if_neg (by omega), if_neg (by omega), if_neg (by omega), if_pos (by omega)]
      · rw [ly_I, if_neg (by omega), if_neg (by omega), if_pos (by omega)]
      · rw [ly_I, if_neg (by omega), if_pos (by omega)]
      · rw [ly_I, if_pos (by omega)]
    · refine c_vo_c (fun j hj => ?_) (g.2.1.2.2.2.2.1 k hk)
      rw [ly_I, if_neg (by omega), if_neg (by omega), if_neg (by omega), if_neg (by omega)]
theorem mv_I (M : ip_H) (i s j : Nat) : (c_mv M i s).2.1 109 j = if j = 9 + 4 * i + 3 then M.2.1 109 (s + 3) else if j = 9 + 4 * i + 2 then M.2.1 109 (s + 2) else if j = 9 + 4 * i + 1 then M.2.1 109 (s + 1) else if j = 9 + 4 * i then M.2.1 109 s else M.2.1 109 j := by
  unfold c_mv
  rw [ip_uI_I, ip_uI_I, ip_uI_I, ip_uI_I]
  simp only [true_and]
theorem Ri_mv {M : ip_H} {i s : Nat} (hi : i < 6) (h : c_vo (M.2.1 109) s) (g : Ri M) : Ri (c_mv M i s) := by
  refine ⟨Rk_vis (vis_mv M i s) g.1, rw_st (fun j hj h9 => ?_) (fun k hk => ?_) g.2.1, g.2.2⟩
  · rw [mv_I, if_neg (by omega), if_neg (by omega), if_neg (by omega), if_neg (by omega)]
  · by_cases e : k = i
    · subst e
      unfold c_vo at *
      rw [mv_I, if_neg (by omega), if_neg (by omega), if_neg (by omega), if_pos (by omega), mv_I, if_neg (by omega), if_neg (by omega), if_pos (by omega), mv_I, if_neg (by omega), if_pos (by omega), mv_I, if_pos (by omega)]
      exact h
    · refine c_vo_c (fun j hj => ?_) (g.2.1.2.2.2.2.1 k hk)
      rw [mv_I, if_neg (by omega), if_neg (by omega), if_neg (by omega), if_neg (by omega)]
/-- begin -/
theorem bg_I (M : ip_H) (i j : Nat) (w : Int32) (b : Nat) : (c_bg M i j w).2.1 109 b = if b = 7 then 0 else if b = 6 then -1 else if b = 5 then 0 else if b = 4 then w else if b = 3 then 1 else if b = 160 then M.2.1 109 (9 + 4 * j + 3) else if b = 156 then M.2.1 109 (9 + 4 * i + 3) else if b = 159 then M.2.1 109 (9 + 4 * j + 2) else if b = 155 then M.2.1 109 (9 + 4 * i + 2) else if b = 158 then M.2.1 109 (9 + 4 * j + 1) else if b = 154 then M.2.1 109 (9 + 4 * i + 1) else if b = 157 then M.2.1 109 (9 + 4 * j) else if b = 153 then M.2.1 109 (9 + 4 * i) else M.2.1 109 b := by
  unfold c_bg
  simp only [ip_uL_I, ip_uI_I, true_and]
theorem bg_L (M : ip_H) (i j : Nat) (w : Int32) (b : Nat) (hb : b < 9) : 0 ≤ ((c_bg M i j w).2.2.1 110 b).toInt := by
  unfold c_bg
  simp only [ip_uL_L, ip_uI_L, true_and]
  have : b = 0 ∨ b = 1 ∨ b = 2 ∨ b = 3 ∨ b = 4 ∨ b = 5 ∨ b = 6 ∨ b = 7 ∨ b = 8 := by omega
  rcases this with rfl | rfl | rfl | rfl | rfl | rfl | rfl | rfl | rfl <;> first | exact (by decide : 0 ≤ (0 : Int64).toInt) | exact (by decide : 0 ≤ (1 : Int64).toInt)
theorem c_vo_mv {N N' : Nat → Int32} {s t : Nat} (h0 : N' s = N t) (h1 : N' (s + 1) = N (t + 1)) (h2 : N' (s + 2) = N (t + 2)) (h3 : N' (s + 3) = N (t + 3)) (g : c_vo N t) : c_vo N' s := by
  unfold c_vo at *
  rw [h0, h1, h2, h3]
  exact g
theorem c_sg_nn {N : Nat → Int32} {s : Nat} (hF : zF (N 0).toInt (N 1).toInt (N 2).toInt = true) (g : c_vo N s) (h : 0 < c_sg N (N 0).toInt (N 1).toInt (N 2).toInt s) : s_nn N s := by
  obtain ⟨b0, b1, b2⟩ := zF_b hF
  have hB : zb 9223372036854775807 (zN (N 0).toInt (N 1).toInt (N 2).toInt (N s).toInt (N (s + 1)).toInt (N (s + 2)).toInt) := zN_bnd b0 b1 b2 (zb_w g.1 (by decide : (150 : Int) ≤ 20000)) g.2.1 g.2.2.1 _ (by decide) (by decide) (by decide)
  unfold s_nn
  unfold c_sg at h
  by_cases hn : zN (N 0).toInt (N 1).toInt (N 2).toInt (N s).toInt (N (s + 1)).toInt (N (s + 2)).toInt < 0
  · have h2 := hn
    rw [← z_sg_lt hB] at h2
    rw [Int32.lt_iff_toInt_lt] at h h2
    omega
  · omega
theorem Ri_bg {M : ip_H} {i j : Nat} {w : Int32} (hi : i < 6) (hj : j < 6) (hb : c_cb (M.2.1 109) (M.2.1 109 0).toInt (M.2.1 109 1).toInt (M.2.1 109 2).toInt (9 + 4 * i) (9 + 4 * j) = true) (g : Ri M) : Ri (c_bg M i j w) := by
  obtain ⟨gk, ⟨g1, g2, g3, g4, g5, ⟨m, g6, g7, g8⟩, g9⟩, gp⟩ := g
  unfold c_cb at hb
  simp only [Bool.and_eq_true, decide_eq_true_eq] at hb
  obtain ⟨p1, p2, -, -⟩ := hb
  have n1 := c_sg_nn g1 (g5 i hi) p1
  have n2 := c_sg_nn g1 (g5 j hj) p2
  have E := bg_I M i j w
  have out : ∀ b, ¬ b = 7 → ¬ b = 6 → ¬ b = 5 → ¬ b = 4 → ¬ b = 3 → (b < 153 ∨ 160 < b) → (c_bg M i j w).2.1 109 b = M.2.1 109 b := fun b a1 a2 a3 a4 a5 a6 => by
    rw [E, if_neg a1, if_neg a2, if_neg a3, if_neg a4, if_neg a5, if_neg (by omega), if_neg (by omega), if_neg (by omega), if_neg (by omega), if_neg (by omega), if_neg (by omega), if_neg (by omega), if_neg (by omega)]
  have x0 : (c_bg M i j w).2.1 109 153 = M.2.1 109 (9 + 4 * i) := by rw [E]; simp (decide := true) only [↓reduceIte]
  have x1 : (c_bg M i j w).2.1 109 154 = M.2.1 109 (9 + 4 * i + 1) := by rw [E]; simp (decide := true) only [↓reduceIte]
  have x2 : (c_bg M i j w).2.1 109 155 = M.2.1 109 (9 + 4 * i + 2) := by rw [E]; simp (decide := true) only [↓reduceIte]
  have x3 : (c_bg M i j w).2.1 109 156 = M.2.1 109 (9 + 4 * i + 3) := by rw [E]; simp (decide := true) only [↓reduceIte]
  have y0 : (c_bg M i j w).2.1 109 157 = M.2.1 109 (9 + 4 * j) := by rw [E]; simp (decide := true) only [↓reduceIte]
  have y1 : (c_bg M i j w).2.1 109 158 = M.2.1 109 (9 + 4 * j + 1) := by rw [E]; simp (decide := true) only [↓reduceIte]
  have y2 : (c_bg M i j w).2.1 109 159 = M.2.1 109 (9 + 4 * j + 2) := by rw [E]; simp (decide := true) only [↓reduceIte]
  have y3 : (c_bg M i j w).2.1 109 160 = M.2.1 109 (9 + 4 * j + 3) := by rw [E]; simp (decide := true) only [↓reduceIte]
  have e5 : (c_bg M i j w).2.1 109 5 = Int32.ofNat 0 := by rw [E]; rfl
  have e6 : (c_bg M i j w).2.1 109 6 = -1 := by rw [E]; rfl
  have rk : r_k ((c_bg M i j w).2.1 109) = 0 := by unfold r_k; rw [e5]; rfl
  have o0 := out 0 (by decide) (by decide) (by decide) (by decide) (by decide) (by decide)
  have o1 := out 1 (by decide) (by decide) (by decide) (by decide) (by decide) (by decide)
  have o2 := out 2 (by decide) (by decide) (by decide) (by decide) (by decide) (by decide)
  refine ⟨Rk_vis (vis_bg M i j w) gk, ⟨?_, ?_, ?_, ?_, ?_, ⟨m, g6, ?_, ?_⟩, ?_⟩, ?_⟩
  · rw [o0, o1, o2]; exact g1
  · intro _
    refine ⟨by rw [rk]; exact e5, by rw [rk]; decide, fun k hk => ?_⟩
    rw [rk] at hk
    have : k = 0 := by omega
    subst this
    exact ⟨c_vo_mv x0 x1 x2 x3 (g5 i hi), c_vo_mv y0 y1 y2 y3 (g5 j hj)⟩
  · intro _ h6
    exact absurd e6 h6
  · intro k hk
    rw [out _ (by omega) (by omega) (by omega) (by omega) (by omega) (by omega)]
    exact g4 k hk
  · intro k hk
    exact c_vo_c (fun b hb => out _ (by omega) (by omega) (by omega) (by omega) (by omega) (by omega)) (g5 k hk)
  · rw [out 8 (by decide) (by decide) (by decide) (by decide) (by decide) (by decide)]; exact g7
  · intro k hk
    exact wdk_c (fun b hb => out _ (by omega) (by omega) (by omega) (by omega) (by omega) (by omega)) (g8 k hk)
  · intro _ k hk
    rw [rk] at hk
    have : k = 0 := by omega
    subst this
    unfold s_nn at *
    refine ⟨?_, ?_⟩
    · show 0 ≤ zN ((c_bg M i j w).2.1 109 0).toInt ((c_bg M i j w).2.1 109 1).toInt ((c_bg M i j w).2.1 109 2).toInt ((c_bg M i j w).2.1 109 153).toInt ((c_bg M i j w).2.1 109 154).toInt ((c_bg M i j w).2.1 109 155).toInt
      rw [o0, o1, o2, x0, x1, x2]
      exact n1
    · show 0 ≤ zN ((c_bg M i j w).2.1 109 0).toInt ((c_bg M i j w).2.1 109 1).toInt ((c_bg M i j w).2.1 109 2).toInt ((c_bg M i j w).2.1 109 157).toInt ((c_bg M i j w).2.1 109 158).toInt ((c_bg M i j w).2.1 109 159).toInt
      rw [o0, o1, o2, y0, y1, y2]
      exact n2
  · exact fun b hb => bg_L M i j w b hb
/-- read -/
theorem wd_row (M : ip_H) (D : Nat → Int32) (m j : Nat) : (c_wd M D m).2.1 109 j = if 33 ≤ j ∧ j < 33 + 3 * m then D (j - 33) else if j = 8 then Int32.ofNat m else M.2.1 109 j := by
  unfold c_wd
  rw [ip_sI_I, if_pos rfl]
  rfl
theorem Ri_wd {M : ip_H} {D : Nat → Int32} {m : Nat} (hm : m ≤ 40) (hD : ∀ k, k < m → wdk D k) (g : Ri M) : Ri (c_wd M D m) := by
  obtain ⟨gk, ⟨g1, g2, g3, g4, g5, -, g9⟩, gp⟩ := g
  have out : ∀ b, ¬ b = 8 → (b < 33 ∨ 33 + 3 * m ≤ b) → (c_wd M D m).2.1 109 b = M.2.1 109 b := fun b a1 a2 => by
    rw [wd_row, if_neg (by omega), if_neg a1]
  have o0 := out 0 (by decide) (by omega)
  have o1 := out 1 (by decide) (by omega)
  have o2 := out 2 (by decide) (by omega)
  have o3 := out 3 (by decide) (by omega)
  have o5 := out 5 (by decide) (by omega)
  have o6 := out 6 (by decide) (by omega)
  have o7 := out 7 (by decide) (by omega)
  have rk : r_k ((c_wd M D m).2.1 109) = r_k (M.2.1 109) := by unfold r_k; rw [o5]
  refine ⟨Rk_vis (vis_wd M D m) gk, ⟨?_, ?_, ?_, ?_, ?_, ⟨m, hm, ?_, ?_⟩, ?_⟩, gp⟩
  · rw [o0, o1, o2]; exact g1
  · intro h3
    rw [o3] at h3
    obtain ⟨a, b, c⟩ := g2 h3
    refine ⟨by rw [o5, rk]; exact a, by rw [rk]; exact b, fun k hk => ?_⟩
    rw [rk] at hk
    exact ⟨c_vo_c (fun j hj => out _ (by omega) (by omega)) (c k hk).1, c_vo_c (fun j hj => out _ (by omega) (by omega)) (c k hk).2⟩
  · intro h3 h6
    rw [o3] at h3
    rw [o6] at h6
    obtain ⟨s, l, a, b, c, d⟩ := g3 h3 h6
    exact ⟨s, l, a, by rw [rk]; exact b, by rw [o6]; exact c, by rw [o7]; exact d⟩
  · intro k hk
    rw [out _ (by omega) (by omega)]
    exact g4 k hk
  · intro k hk
    exact c_vo_c (fun b hb => out _ (by omega) (by omega)) (g5 k hk)
  · rw [wd_row, if_neg (by omega), if_pos rfl]
  · intro k hk
    have e : ∀ j, j < 3 → (c_wd M D m).2.1 109 (33 + (3 * k + j)) = D (3 * k + j) := fun j hj => by
      rw [wd_row, if_pos (by omega)]
      exact congrArg D (by omega)
    exact wdk_c e (hD k hk)
  · intro h3 k hk
    rw [o3] at h3
    rw [rk] at hk
    obtain ⟨a, b⟩ := g9 h3 k hk
    exact ⟨s_nn_c (fun j hj => out _ (by omega) (by omega)) (fun j hj => out _ (by omega) (by omega)) a, s_nn_c (fun j hj => out _ (by omega) (by omega)) (fun j hj => out _ (by omega) (by omega)) b⟩
