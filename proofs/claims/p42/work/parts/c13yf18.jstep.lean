-- PREPARE AND TAKE of the class, over a row
theorem k_ok_c {p q r : Int} {f g : Int × Int × Int × Int} {P P' : Nat → Int64} (e : ∀ x, x < 9 → P x = P' x) (a b : Int32) (t : Bool) : k_ok p q r f g P a b t = k_ok p q r f g P' a b t := by
  unfold k_ok
  rw [k_bn_c (k_nx_c e a b t)]
theorem q_P_nn {N : Nat → Int32} : ∀ (j : Nat), (∀ i, i < j → 0 ≤ (N (641 + 3 * i)).toInt ∧ 0 ≤ (N (641 + 3 * i + 1)).toInt) → ∀ x, x < 9 → 0 ≤ (q_P N j x).toInt := by
  intro j
  induction j with
  | zero =>
    intro _ x hx
    unfold q_P
    split <;> decide
  | succ j ih =>
    intro h x hx
    unfold q_P
    exact q_nx_nn (ih (fun i hi => h i (by omega))) (by rw [Int32.toInt_toInt64]; exact (h j (by omega)).1) (by rw [Int32.toInt_toInt64]; exact (h j (by omega)).2) x hx
theorem q_fl_nn {N : Nat → Int32} {s : Nat} (hF : zF (N 0).toInt (N 1).toInt (N 2).toInt = true) (hv : c_vo N s) (hn : s_nn N s) : 0 ≤ (c_fl N (r_v N 0) (r_v N 1) (r_v N 2) s).toInt := by
  obtain ⟨hp, hq, hr⟩ := zF_b hF
  exact (z_fl_ge hp hq hr hv.1 hv.2.1 hv.2.2.1 hv.2.2.2 hn).1
/-- a STEP of the row can be laid out -/
def q_n (N : Nat → Int32) (j : Nat) : Bool := z_nxt (r_v N 0) (r_v N 1) (r_v N 2) (zQ4 (r_v N 0) (r_v N 1) (r_v N 2) (q_g N j) (q_f N j)) && (z_nxt (r_v N 0) (r_v N 1) (r_v N 2) (zQ4 (r_v N 0) (r_v N 1) (r_v N 2) (1, 0, 0, 1) (q_f N j)) && !(q_c false (q_P N j) (q_fu N j).toInt64 (q_fv N j).toInt64).2)
/-- a STATE of the row is fit: in bounds, not below 0, in lowest terms -/
def q_st (N : Nat → Int32) (j : Nat) : Prop := c_vo N (153 + 8 * j) ∧ c_vo N (153 + 8 * j + 4) ∧ s_nn N (153 + 8 * j) ∧ s_nn N (153 + 8 * j + 4) ∧ q_lw N (153 + 8 * j) ∧ q_lw N (153 + 8 * j + 4)
theorem q_st_fb {N : Nat → Int32} {j : Nat} (hF : zF (N 0).toInt (N 1).toInt (N 2).toInt = true) (h : q_st N j) : c_fb (q_f0 N j) ∧ c_fb (q_g0 N j) := by
  obtain ⟨h1, h2, h3, h4, h5, h6⟩ := h
  exact ⟨(rest_all hF h1 h3 h5 (q_f0 N j) rfl).2.2.2.2.2.2, (rest_all hF h2 h4 h6 (q_g0 N j) rfl).2.2.2.2.2.2⟩

theorem k_en6_q {M : ip_H} {N : Nat → Int32} {j : Nat} (h : coj6 M N j) (hF : zF (N 0).toInt (N 1).toInt (N 2).toInt = true) (h4 : N 4 = 0 ∨ N 4 = 1) (hs : q_st N j) : k_en6 M j = q_e N j := by
  obtain ⟨a1, a2, a3, a4, a5, a6⟩ := hs
  rw [q_e_wh hF h4 a1 a2 a3 a4 a5 a6]
  obtain ⟨h1, h2, h3, -⟩ := h
  obtain ⟨s1, s2, -, -⟩ := h3 j (Nat.le_refl _)
  unfold k_en6 k_wh wh
  rw [h2, Nat.add_zero, s1 1 (by decide), s1 2 (by decide), s1 3 (by decide), s2 1 (by decide), s2 2 (by decide), s2 3 (by decide)]
theorem k_iz6_q {M : ip_H} {N : Nat → Int32} {j : Nat} (h : coj6 M N j) (hp : ∀ x, x < 3 → M.2.1 1 x = N x) : k_iz (k_f6 M j) = q_e N j := by
  obtain ⟨-, -, -, e, -⟩ := coj6_f h hp
  rw [e]
  rfl
theorem j_prep6 (X : ip_X) (M : ip_H) (K : Option Value → ip_H → Prop) (N : Nat → Int32) (j : Nat) (hj : j ≤ 60) (hG : ip_G M) (h : coj6 M N j) (hp : ∀ x, x < 3 → M.2.1 1 x = N x) (hF : zF (N 0).toInt (N 1).toInt (N 2).toInt = true) (h4 : N 4 = 0 ∨ N 4 = 1) (hs : q_st N j) (hP : ∀ x, x < 9 → 0 ≤ (q_P N j x).toInt)
  (k3 : q_e N j = true → K (some (.int (-3))) M) (k60 : q_e N j = false → j = 60 → K (some (.int (-5))) M)
  (k5 : q_e N j = false → j < 60 → q_n N j = false → ∀ M1, pf 6 M M1 → K (some (.int (-5))) M1)
  (k0 : q_e N j = false → j < 60 → q_n N j = true → ∀ M1, pf 6 M M1 → cv M1 15 (zQ4 (r_v N 0) (r_v N 1) (r_v N 2) (q_g N j) (q_f N j)) → cv M1 16 (zQ4 (r_v N 0) (r_v N 1) (r_v N 2) (1, 0, 0, 1) (q_f N j)) → M1.2.1 6 12 = c_f4 (r_v N 0) (r_v N 1) (r_v N 2) (zQ4 (r_v N 0) (r_v N 1) (r_v N 2) (q_g N j) (q_f N j)) → M1.2.1 6 13 = c_f4 (r_v N 0) (r_v N 1) (r_v N 2) (zQ4 (r_v N 0) (r_v N 1) (r_v N 2) (1, 0, 0, 1) (q_f N j)) → M1.2.1 6 14 = ip_b (q_t N j) → (∀ x, x < 9 → M1.2.2.1 12 x = q_nx false (q_P N j) (q_fu N j).toInt64 (q_fv N j).toInt64 (q_t N j) x) → K (some (.int 0)) M1) : ip_wp X 25 0 [.ref 6, .ref 1] [] M K := by
  obtain ⟨e1, e2, e3, e4, e5, e6, e7⟩ := coj6_f h hp
  have een := k_en6_q h hF h4 hs
  have eiz := k_iz6_q h hp
  obtain ⟨b1, b2⟩ := q_st_fb hF hs
  obtain ⟨c1, c2, c3, c4, c5, c6⟩ := h
  have p0 : (M.2.1 1 0).toInt = r_v N 0 := congrArg Int32.toInt (hp 0 (by decide))
  have p1 : (M.2.1 1 1).toInt = r_v N 1 := congrArg Int32.toInt (hp 1 (by decide))
  have p2 : (M.2.1 1 2).toInt = r_v N 2 := congrArg Int32.toInt (hp 2 (by decide))
  have won : ¬ M.2.1 6 3 = -1 := by
    rw [c2]
    rcases h4 with h4 | h4 <;> (rw [h4]; decide)
  have bfg : c_fb (q_f N j) ∧ c_fb (q_g N j) := by
    unfold q_f q_g
    split
    · exact ⟨b2, b1⟩
    · exact ⟨b1, b2⟩
  have nu : 0 ≤ (q_fu N j).toInt := q_fl_nn hF hs.1 hs.2.2.1
  have nv : 0 ≤ (q_fv N j).toInt := q_fl_nn hF hs.2.1 hs.2.2.2.1
  have en : q_e N j = false → k_ok (r_v N 0) (r_v N 1) (r_v N 2) (q_f N j) (q_g N j) (M.2.2.1 10) (q_fu N j) (q_fv N j) (q_t N j) = q_n N j := fun he => by
    have nz : c_nz (q_f N j) := k_iz_nz he
    rw [k_ok_c c5]
    exact k_ok_nxt hF bfg.1 bfg.2 nz hP nu nv
  refine o_25_6 X M K j hj c1 hG (by rw [p0, p1, p2]; exact hF) (by rw [e1]; exact b1) (by rw [e2]; exact b2) (fun q => absurd q won) (fun _ q => k3 (een.symm.trans q)) (fun _ q q60 => k60 (een.symm.trans q) q60) ?_ ?_ ?_
  · intro _ q _ M1 _ qz
    rw [eiz, ← een, q] at qz
    exact absurd qz (by decide)
  · intro _ q q60 M1 pM qz qk
    have he := een.symm.trans q
    rw [e3, e4, e5, e6, e7, p0, p1, p2, en he] at qk
    exact k5 he q60 qk M1 pM
  · intro _ q q60 M1 pM qz qk cu cw d12 d13 d14 d9
    have he := een.symm.trans q
    have nz : c_nz (q_f N j) := k_iz_nz he
    rw [e3, e4, e5, e6, e7, p0, p1, p2, en he] at qk
    have x1 := kQ_Q4 (v := q_g N j) hF nz (by have := bfg.2.2.2.2.1; omega) (by have := bfg.1.2.2.2.1; omega)
    have x2 := kQ_Q4 (v := (1, 0, 0, 1)) hF nz (by decide) (by have := bfg.1.2.2.2.1; omega)
    rw [e4, e5, p0, p1, p2] at cu d12
    rw [e4, p0, p1, p2] at cw d13
    rw [e3] at d14
    rw [e3, e6, e7] at d9
    have f1 : zl (kQ (r_v N 0) (r_v N 1) (r_v N 2) (q_g N j) (q_f N j)) = (zQ4 (r_v N 0) (r_v N 1) (r_v N 2) (q_g N j) (q_f N j)) := x1
    have f2 : zl (kQ (r_v N 0) (r_v N 1) (r_v N 2) (1, 0, 0, 1) (q_f N j)) = (zQ4 (r_v N 0) (r_v N 1) (r_v N 2) (1, 0, 0, 1) (q_f N j)) := x2
    rw [f1] at cu d12
    rw [f2] at cw d13
    refine k0 he q60 qk M1 pM cu cw d12 d13 d14 (fun x hx => ?_)
    have fl : (q_c false (q_P N j) (q_fu N j).toInt64 (q_fv N j).toInt64).2 = false := by
      unfold q_n at qk
      rw [Bool.and_eq_true, Bool.and_eq_true] at qk
      simpa using qk.2.2
    rw [d9 x hx, k_nx_c c5 _ _ _ x hx]
    exact (kq_nx hP nu nv (q_t N j)).2 fl x hx

theorem k_en80_q {M : ip_H} {N : Nat → Int32} {j : Nat} (h : coj80 M N j) (hF : zF (N 0).toInt (N 1).toInt (N 2).toInt = true) (h4 : N 4 = 0 ∨ N 4 = 1) (hs : q_st N j) : k_en80 M j = q_e N j := by
  obtain ⟨a1, a2, a3, a4, a5, a6⟩ := hs
  rw [q_e_wh hF h4 a1 a2 a3 a4 a5 a6]
  obtain ⟨h1, h2, h3, -⟩ := h
  obtain ⟨s1, s2, -, -⟩ := h3 j (Nat.le_refl _)
  unfold k_en80 k_wh wh
  rw [h2, Nat.add_zero, s1 1 (by decide), s1 2 (by decide), s1 3 (by decide), s2 1 (by decide), s2 2 (by decide), s2 3 (by decide)]
theorem k_iz80_q {M : ip_H} {N : Nat → Int32} {j : Nat} (h : coj80 M N j) (hp : ∀ x, x < 3 → M.2.1 1 x = N x) : k_iz (k_f80 M j) = q_e N j := by
  obtain ⟨-, -, -, e, -⟩ := coj80_f h hp
  rw [e]
  rfl
theorem j_prep80 (X : ip_X) (M : ip_H) (K : Option Value → ip_H → Prop) (N : Nat → Int32) (j : Nat) (hj : j ≤ 60) (hG : ip_G M) (h : coj80 M N j) (hp : ∀ x, x < 3 → M.2.1 1 x = N x) (hF : zF (N 0).toInt (N 1).toInt (N 2).toInt = true) (h4 : N 4 = 0 ∨ N 4 = 1) (hs : q_st N j) (hP : ∀ x, x < 9 → 0 ≤ (q_P N j x).toInt)
  (k3 : q_e N j = true → K (some (.int (-3))) M) (k60 : q_e N j = false → j = 60 → K (some (.int (-5))) M)
  (k5 : q_e N j = false → j < 60 → q_n N j = false → ∀ M1, pf 80 M M1 → K (some (.int (-5))) M1)
  (k0 : q_e N j = false → j < 60 → q_n N j = true → ∀ M1, pf 80 M M1 → cv M1 89 (zQ4 (r_v N 0) (r_v N 1) (r_v N 2) (q_g N j) (q_f N j)) → cv M1 90 (zQ4 (r_v N 0) (r_v N 1) (r_v N 2) (1, 0, 0, 1) (q_f N j)) → M1.2.1 80 12 = c_f4 (r_v N 0) (r_v N 1) (r_v N 2) (zQ4 (r_v N 0) (r_v N 1) (r_v N 2) (q_g N j) (q_f N j)) → M1.2.1 80 13 = c_f4 (r_v N 0) (r_v N 1) (r_v N 2) (zQ4 (r_v N 0) (r_v N 1) (r_v N 2) (1, 0, 0, 1) (q_f N j)) → M1.2.1 80 14 = ip_b (q_t N j) → (∀ x, x < 9 → M1.2.2.1 86 x = q_nx false (q_P N j) (q_fu N j).toInt64 (q_fv N j).toInt64 (q_t N j) x) → K (some (.int 0)) M1) : ip_wp X 25 0 [.ref 80, .ref 1] [] M K := by
  obtain ⟨e1, e2, e3, e4, e5, e6, e7⟩ := coj80_f h hp
  have een := k_en80_q h hF h4 hs
  have eiz := k_iz80_q h hp
  obtain ⟨b1, b2⟩ := q_st_fb hF hs
  obtain ⟨c1, c2, c3, c4, c5, c6⟩ := h
  have p0 : (M.2.1 1 0).toInt = r_v N 0 := congrArg Int32.toInt (hp 0 (by decide))
  have p1 : (M.2.1 1 1).toInt = r_v N 1 := congrArg Int32.toInt (hp 1 (by decide))
  have p2 : (M.2.1 1 2).toInt = r_v N 2 := congrArg Int32.toInt (hp 2 (by decide))
  have won : ¬ M.2.1 80 3 = -1 := by
    rw [c2]
    rcases h4 with h4 | h4 <;> (rw [h4]; decide)
  have bfg : c_fb (q_f N j) ∧ c_fb (q_g N j) := by
    unfold q_f q_g
    split
    · exact ⟨b2, b1⟩
    · exact ⟨b1, b2⟩
  have nu : 0 ≤ (q_fu N j).toInt := q_fl_nn hF hs.1 hs.2.2.1
  have nv : 0 ≤ (q_fv N j).toInt := q_fl_nn hF hs.2.1 hs.2.2.2.1
  have en : q_e N j = false → k_ok (r_v N 0) (r_v N 1) (r_v N 2) (q_f N j) (q_g N j) (M.2.2.1 84) (q_fu N j) (q_fv N j) (q_t N j) = q_n N j := fun he => by
    have nz : c_nz (q_f N j) := k_iz_nz he
    rw [k_ok_c c5]
    exact k_ok_nxt hF bfg.1 bfg.2 nz hP nu nv
  refine o_25_80 X M K j hj c1 hG (by rw [p0, p1, p2]; exact hF) (by rw [e1]; exact b1) (by rw [e2]; exact b2) (fun q => absurd q won) (fun _ q => k3 (een.symm.trans q)) (fun _ q q60 => k60 (een.symm.trans q) q60) ?_ ?_ ?_
  · intro _ q _ M1 _ qz
    rw [eiz, ← een, q] at qz
    exact absurd qz (by decide)
  · intro _ q q60 M1 pM qz qk
    have he := een.symm.trans q
    rw [e3, e4, e5, e6, e7, p0, p1, p2, en he] at qk
    exact k5 he q60 qk M1 pM
  · intro _ q q60 M1 pM qz qk cu cw d12 d13 d14 d9
    have he := een.symm.trans q
    have nz : c_nz (q_f N j) := k_iz_nz he
    rw [e3, e4, e5, e6, e7, p0, p1, p2, en he] at qk
    have x1 := kQ_Q4 (v := q_g N j) hF nz (by have := bfg.2.2.2.2.1; omega) (by have := bfg.1.2.2.2.1; omega)
    have x2 := kQ_Q4 (v := (1, 0, 0, 1)) hF nz (by decide) (by have := bfg.1.2.2.2.1; omega)
    rw [e4, e5, p0, p1, p2] at cu d12
    rw [e4, p0, p1, p2] at cw d13
    rw [e3] at d14
    rw [e3, e6, e7] at d9
    have f1 : zl (kQ (r_v N 0) (r_v N 1) (r_v N 2) (q_g N j) (q_f N j)) = (zQ4 (r_v N 0) (r_v N 1) (r_v N 2) (q_g N j) (q_f N j)) := x1
    have f2 : zl (kQ (r_v N 0) (r_v N 1) (r_v N 2) (1, 0, 0, 1) (q_f N j)) = (zQ4 (r_v N 0) (r_v N 1) (r_v N 2) (1, 0, 0, 1) (q_f N j)) := x2
    rw [f1] at cu d12
    rw [f2] at cw d13
    refine k0 he q60 qk M1 pM cu cw d12 d13 d14 (fun x hx => ?_)
    have fl : (q_c false (q_P N j) (q_fu N j).toInt64 (q_fv N j).toInt64).2 = false := by
      unfold q_n at qk
      rw [Bool.and_eq_true, Bool.and_eq_true] at qk
      simpa using qk.2.2
    rw [d9 x hx, k_nx_c c5 _ _ _ x hx]
    exact (kq_nx hP nu nv (q_t N j)).2 fl x hx
