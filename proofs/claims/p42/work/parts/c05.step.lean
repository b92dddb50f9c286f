-- A STEP: the row behind it
theorem z_nxt_c {p q r : Int} {z : Int × Int × Int × Int} (h : z_nxt p q r z = true) : zcan z = true := by
  unfold z_nxt at h
  rw [Bool.and_eq_true] at h
  exact h.1
theorem s_nn_put {N : Nat → Int32} {s : Nat} {p q r : Int} {z : Int × Int × Int × Int} (e0 : (N 0).toInt = p) (e1 : (N 1).toInt = q) (e2 : (N 2).toInt = r) (h0 : N s = Int32.ofInt z.1) (h1 : N (s + 1) = Int32.ofInt z.2.1) (h2 : N (s + 2) = Int32.ofInt z.2.2.1) (h : c_v4 z) (hn : 0 ≤ zN p q r z.1 z.2.1 z.2.2.1) : s_nn N s := by
  obtain ⟨v1, v2, v3, -⟩ := h
  unfold s_nn
  rw [e0, e1, e2, h0, h1, h2, z_i32 v1 (by decide), z_i32 v2 (by decide), z_i32 v3 (by decide)]
  exact hn
/-- what is left over isn't below 0; floors aren't -/
theorem st_f0 {N : Nat → Int32} (hF : zF (N 0).toInt (N 1).toInt (N 2).toInt = true) (hc : crs N) (hn : ∀ k, k ≤ r_k N → s_nn N (153 + 8 * k) ∧ s_nn N (153 + 8 * k + 4)) :
    (0 ≤ (r_fu N).toInt ∧ 0 ≤ zN (r_v N 0) (r_v N 1) (r_v N 2) (r_f0 N).1 (r_f0 N).2.1 (r_f0 N).2.2.1) ∧ (0 ≤ (r_fv N).toInt ∧ 0 ≤ zN (r_v N 0) (r_v N 1) (r_v N 2) (r_g0 N).1 (r_g0 N).2.1 (r_g0 N).2.2.1) := by
  obtain ⟨b0, b1, b2⟩ := zF_b hF
  obtain ⟨v1, v2⟩ := hc.2.2 (r_k N) (Nat.le_refl _)
  obtain ⟨n1, n2⟩ := hn (r_k N) (Nat.le_refl _)
  exact ⟨z_fl_ge b0 b1 b2 v1.1 v1.2.1 v1.2.2.1 v1.2.2.2 n1, z_fl_ge b0 b1 b2 v2.1 v2.2.1 v2.2.2.1 v2.2.2.2 n2⟩
theorem st_fg {N : Nat → Int32} (hF : zF (N 0).toInt (N 1).toInt (N 2).toInt = true) (hc : crs N) (hn : ∀ k, k ≤ r_k N → s_nn N (153 + 8 * k) ∧ s_nn N (153 + 8 * k + 4)) (he : r_e N = false) :
    0 < zN (r_v N 0) (r_v N 1) (r_v N 2) (r_f N).1 (r_f N).2.1 (r_f N).2.2.1 ∧ 0 ≤ zN (r_v N 0) (r_v N 1) (r_v N 2) (r_g N).1 (r_g N).2.1 (r_g N).2.2.1 := by
  obtain ⟨⟨-, f0⟩, -, g0⟩ := st_f0 hF hc hn
  obtain ⟨bf, -⟩ := crs_fg hF hc
  have nz := zN_ne hF (r_e_nz bf he)
  have e : 0 ≤ zN (r_v N 0) (r_v N 1) (r_v N 2) (r_f N).1 (r_f N).2.1 (r_f N).2.2.1 ∧ 0 ≤ zN (r_v N 0) (r_v N 1) (r_v N 2) (r_g N).1 (r_g N).2.1 (r_g N).2.2.1 := by
    unfold r_f r_g
    split
    · exact ⟨g0, f0⟩
    · exact ⟨f0, g0⟩
  have e1 := e.1
  unfold r_v at e1 ⊢
  exact ⟨by omega, e.2⟩
theorem lbk_lt (N : Nat → Int32) (last : Nat) : ∀ (n k m : Nat), lbk N last n k = some m → m < k + n := by
  intro n
  induction n with
  | zero => intro k m h; cases h
  | succ n ih =>
    intro k m h
    unfold lbk at h
    split at h
    · cases h
      omega
    · have := ih (k + 1) m h
      omega
theorem tried_m {M M1 M2 : ip_H} (h17 : M2.2.1 108 17 = M1.2.1 108 17) (h18 : M2.2.1 108 18 = M1.2.1 108 18) (h27 : M2.2.1 108 27 = M1.2.1 108 27) (h118 : M2.2.2.1 118 = M1.2.2.1 118) (h119 : M2.2.1 119 = M1.2.1 119) (h : tried M M1) : tried M M2 := by
  unfold tried at *
  rw [h17, h18, h27, h118, h119]
  exact h
theorem c_dn1_I (L : ip_H) (t : Bool) (j : Nat) (h : ¬ (j = 6 ∨ j = 7)) : (c_dn1 L t).2.1 109 j = c_dof (L.2.1 109) (L.2.1 119) (L.2.1 108 17) (L.2.1 108 18) (ip_b t) (r_k (L.2.1 109)) j := by
  unfold c_dn1
  rw [c_lb_I _ _ _ _ (by omega)]
  unfold c_do
  rw [ip_sL_I, ip_sI_I, if_pos rfl]
theorem c_dn1_L (L : ip_H) (t : Bool) (j : Nat) (hj : j < 9) : (c_dn1 L t).2.2.1 110 j = L.2.2.1 118 j := by
  unfold c_dn1
  rw [c_lb_L]
  unfold c_do
  rw [ip_sL_L, if_pos rfl]
  unfold c_nine
  rw [if_pos hj]
theorem c_dof_out (N cm : Nat → Int32) (fu fv t : Int32) (k b : Nat) (h5 : ¬ b = 5) (h1 : b < 153 + 8 * (k + 1) ∨ 153 + 8 * (k + 1) + 8 ≤ b) (h2 : b < 641 + 3 * k ∨ 641 + 3 * k + 3 ≤ b) : c_dof N cm fu fv t k b = N b := by
  unfold c_dof
  rw [if_neg h5, if_neg (by omega), if_neg (by omega), if_neg (by omega), if_neg (by omega), if_neg (by omega), if_neg (by omega), if_neg (by omega), if_neg (by omega), if_neg (by omega), if_neg (by omega), if_neg (by omega)]
theorem c_dof_t (N cm : Nat → Int32) (fu fv t : Int32) (k : Nat) : c_dof N cm fu fv t k (641 + 3 * k + 2) = t := by
  unfold c_dof
  rw [if_neg (by omega), if_pos rfl]
theorem c_dof_s (N cm : Nat → Int32) (fu fv t : Int32) (k i : Nat) (hk : k < 60) (hi : i < 8) : c_dof N cm fu fv t k (153 + 8 * (k + 1) + i) = cm i := by
  unfold c_dof
  rw [if_neg (by omega), if_neg (by omega), if_neg (by omega), if_neg (by omega)]
  have : i = 0 ∨ i = 1 ∨ i = 2 ∨ i = 3 ∨ i = 4 ∨ i = 5 ∨ i = 6 ∨ i = 7 := by omega
  rcases this with rfl | rfl | rfl | rfl | rfl | rfl | rfl | rfl <;> (repeat (first | rw [if_neg (by omega)] | rw [if_pos (by omega)]))
set_option maxHeartbeats 4000000 in
theorem rw_dn (L : ip_H) (t : Bool) (hg : rw_ok (L.2.1 109)) (hp : pr_ok (L.2.2.1 110) 9) (h3 : ¬ L.2.1 109 3 = 0) (he : r_e (L.2.1 109) = false) (ht : tried L L) : rw_ok ((c_dn1 L t).2.1 109) ∧ pr_ok ((c_dn1 L t).2.2.1 110) 9 ∧ (c_dn1 L t).2.1 109 3 = L.2.1 109 3 := by
  obtain ⟨g1, g2, g3, g4, g5, ⟨m, g6, g7, g8⟩, g9⟩ := hg
  have hc := g2 h3
  have hn := g9 h3
  obtain ⟨⟨f0, -⟩, f1, -⟩ := st_f0 g1 hc hn
  obtain ⟨nf, ng⟩ := st_fg g1 hc hn he
  obtain ⟨bf, bg⟩ := crs_fg g1 hc
  have nz := r_e_nz bf he
  obtain ⟨t1, t2, u, v, eu, ev, zu, zv, t3, t4, t5, t6, q0, q1, q2, q3, q4, q5, q6, q7⟩ := ht
  have bb : c_fb (1, 0, 0, 1) := ⟨zb_c _ _ (by decide) (by decide), zb_c _ _ (by decide) (by decide), zb_c _ _ (by decide) (by decide), by decide, by decide⟩
  have vu : c_v4 u := by
    rw [eu]
    exact c_v4_of g1 bg bf nz (by rw [eu] at zu; exact z_nxt_c zu)
  have vv : c_v4 v := by
    rw [ev]
    exact c_v4_of g1 bb bf nz (by rw [ev] at zv; exact z_nxt_c zv)
  have nu : 0 ≤ zN (r_v (L.2.1 109) 0) (r_v (L.2.1 109) 1) (r_v (L.2.1 109) 2) u.1 u.2.1 u.2.2.1 := by
    rw [eu]
    exact zQ4_nn bg.2.2.2.1 bf.2.2.2.1 ng nf
  have nv : 0 ≤ zN (r_v (L.2.1 109) 0) (r_v (L.2.1 109) 1) (r_v (L.2.1 109) 2) v.1 v.2.1 v.2.2.1 := by
    rw [ev]
    exact zQ4_nn (g := (1, 0, 0, 1)) (by decide) bf.2.2.2.1 (by rw [zN_00]; decide) nf
  have hk60 : r_k (L.2.1 109) < 60 := by have := hc.2.1; omega
  have I := c_dn1_I L t
  have l6 := c_lb_I (c_do L (r_k (L.2.1 109)) t) (r_k (L.2.1 109) + 1)
  have d6 : (c_do L (r_k (L.2.1 109)) t).2.1 109 6 = L.2.1 109 6 := by
    unfold c_do
    rw [ip_sL_I, ip_sI_I, if_pos rfl, c_dof_out _ _ _ _ _ _ _ (by decide) (by omega) (by omega)]
  have d7 : (c_do L (r_k (L.2.1 109)) t).2.1 109 7 = L.2.1 109 7 := by
    unfold c_do
    rw [ip_sL_I, ip_sI_I, if_pos rfl, c_dof_out _ _ _ _ _ _ _ (by decide) (by omega) (by omega)]
  have P : ¬ (c_dn1 L t).2.1 109 6 = -1 → ∃ s l : Nat, 1 ≤ l ∧ s + l ≤ r_k (L.2.1 109) + 1 ∧ (c_dn1 L t).2.1 109 6 = Int32.ofNat s ∧ (c_dn1 L t).2.1 109 7 = Int32.ofNat l := by
    unfold c_dn1 c_lb
    by_cases h6 : (c_do L (r_k (L.2.1 109)) t).2.1 109 6 = -1
    · rw [if_pos h6]
      cases ho : lbk ((c_do L (r_k (L.2.1 109)) t).2.1 109) (r_k (L.2.1 109) + 1) (r_k (L.2.1 109) + 1) 0 with
      | none => intro h; exact absurd h6 h
      | some s =>
        intro _
        have hs := lbk_lt _ _ _ _ _ ho
        unfold c_lbm
        refine ⟨s, r_k (L.2.1 109) + 1 - s, by omega, by omega, ?_, ?_⟩
        · rw [ip_uI_I, if_neg (by omega), ip_uI_I, if_pos ⟨rfl, rfl⟩]
        · rw [ip_uI_I, if_pos ⟨rfl, rfl⟩]
    · rw [if_neg h6, d6, d7]
      intro h
      obtain ⟨s, l, a, b, c, d⟩ := g3 h3 h
      exact ⟨s, l, a, by omega, c, d⟩
  generalize hk : r_k (L.2.1 109) = k at *
  have out : ∀ b, ¬ b = 5 → ¬ (b = 6 ∨ b = 7) → (b < 153 + 8 * (k + 1) ∨ 153 + 8 * (k + 1) + 8 ≤ b) → (b < 641 + 3 * k ∨ 641 + 3 * k + 3 ≤ b) → (c_dn1 L t).2.1 109 b = L.2.1 109 b := fun b a1 a2 a3 a4 => by
    rw [I b a2, c_dof_out _ _ _ _ _ _ _ a1 a3 a4]
  have o0 := out 0 (by decide) (by decide) (by omega) (by omega)
  have o1 := out 1 (by decide) (by decide) (by omega) (by omega)
  have o2 := out 2 (by decide) (by decide) (by omega) (by omega)
  have o3 := out 3 (by decide) (by decide) (by omega) (by omega)
  have o8 := out 8 (by decide) (by decide) (by omega) (by omega)
  have o5 : (c_dn1 L t).2.1 109 5 = Int32.ofNat (k + 1) := by
    rw [I 5 (by decide)]
    rfl
  have st : ∀ i, i < 8 → (c_dn1 L t).2.1 109 (153 + 8 * (k + 1) + i) = L.2.1 119 i := fun i hi => by
    rw [I _ (by omega), c_dof_s _ _ _ _ _ _ _ hk60 hi]
  have rk : r_k ((c_dn1 L t).2.1 109) = k + 1 := by
    unfold r_k
    rw [o5, ip_nc _ (by omega)]
  have sU : c_vo ((c_dn1 L t).2.1 109) (153 + 8 * (k + 1)) := c_vo_put ((st 0 (by decide)).trans q0) ((st 1 (by decide)).trans q1) ((st 2 (by decide)).trans q2) ((st 3 (by decide)).trans q3) vu
  have sV : c_vo ((c_dn1 L t).2.1 109) (153 + 8 * (k + 1) + 4) := c_vo_put ((st 4 (by decide)).trans q4) ((st 5 (by decide)).trans q5) ((st 6 (by decide)).trans q6) ((st 7 (by decide)).trans q7) vv
  refine ⟨⟨?_, ?_, ?_, ?_, ?_, ⟨m, g6, ?_, ?_⟩, ?_⟩, ?_, o3⟩
  · rw [o0, o1, o2]; exact g1
  · intro _
    refine ⟨by rw [rk]; exact o5, by rw [rk]; omega, fun k' hk' => ?_⟩
    rw [rk] at hk'
    by_cases e : k' = k + 1
    · subst e
      exact ⟨sU, sV⟩
    · obtain ⟨a, b⟩ := hc.2.2 k' (by rw [hk]; omega)
      exact ⟨c_vo_c (fun j hj => out _ (by omega) (by omega) (by omega) (by omega)) a, c_vo_c (fun j hj => out _ (by omega) (by omega) (by omega) (by omega)) b⟩
  · intro _ h6
    rw [rk]
    exact P h6
  · intro k' hk'
    by_cases e : k' = k
    · subst e
      rw [I _ (by omega), c_dof_t]
      exact z01_b t
    · rw [out _ (by omega) (by omega) (by omega) (by omega)]
      exact g4 k' hk'
  · intro i hi
    exact c_vo_c (fun j hj => out _ (by omega) (by omega) (by omega) (by omega)) (g5 i hi)
  · rw [o8]; exact g7
  · intro i hi
    exact wdk_c (fun j hj => out _ (by omega) (by omega) (by omega) (by omega)) (g8 i hi)
  · intro _ k' hk'
    rw [rk] at hk'
    by_cases e : k' = k + 1
    · subst e
      exact ⟨s_nn_put (congrArg Int32.toInt o0) (congrArg Int32.toInt o1) (congrArg Int32.toInt o2) ((st 0 (by decide)).trans q0) ((st 1 (by decide)).trans q1) ((st 2 (by decide)).trans q2) vu nu, s_nn_put (congrArg Int32.toInt o0) (congrArg Int32.toInt o1) (congrArg Int32.toInt o2) ((st 4 (by decide)).trans q4) ((st 5 (by decide)).trans q5) ((st 6 (by decide)).trans q6) vv nv⟩
    · obtain ⟨a, b⟩ := hn k' (by omega)
      have o : ∀ j, j < 3 → (c_dn1 L t).2.1 109 j = L.2.1 109 j := fun j hj => out j (by omega) (by omega) (by omega) (by omega)
      exact ⟨s_nn_c o (fun j hj => out _ (by omega) (by omega) (by omega) (by omega)) a, s_nn_c o (fun j hj => out _ (by omega) (by omega) (by omega) (by omega)) b⟩
  · intro j hj
    rw [c_dn1_L L t j hj, t6 j hj]
    exact q_nx_nn hp (by rw [Int32.toInt_toInt64]; exact f0) (by rw [Int32.toInt_toInt64]; exact f1) j hj
