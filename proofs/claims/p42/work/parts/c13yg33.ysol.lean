-- SOLVE: the reference behind the class
theorem st_row (M : ip_H) (f g : Int × Int × Int × Int) : (c_st M f g).2.1 109 = N_l4 (N_l4 (M.2.1 109) 0 f) 1 g := funext fun b => by
  unfold c_st N_l4
  simp only [ip_uI_I, true_and]
  by_cases h9 : b = 9
  · subst h9; rfl
  by_cases h10 : b = 10
  · subst h10; rfl
  by_cases h11 : b = 11
  · subst h11; rfl
  by_cases h12 : b = 12
  · subst h12; rfl
  by_cases h13 : b = 13
  · subst h13; rfl
  by_cases h14 : b = 14
  · subst h14; rfl
  by_cases h15 : b = 15
  · subst h15; rfl
  by_cases h16 : b = 16
  · subst h16; rfl
  rw [if_neg h16, if_neg h12, if_neg h15, if_neg h11, if_neg h14, if_neg h10, if_neg h13, if_neg h9]
  repeat rw [if_neg (by omega)]
theorem st_111 (M : ip_H) (f g : Int × Int × Int × Int) : (c_st M f g).2.1 111 = M.2.1 111 := by
  unfold c_st
  rw [uI_o _ _ _ _ _ (by decide), uI_o _ _ _ _ _ (by decide), uI_o _ _ _ _ _ (by decide), uI_o _ _ _ _ _ (by decide), uI_o _ _ _ _ _ (by decide), uI_o _ _ _ _ _ (by decide), uI_o _ _ _ _ _ (by decide), uI_o _ _ _ _ _ (by decide)]
theorem vn_111 (M : ip_H) (p q r : Int32) : (v_n M p q r).2.1 111 = M.2.1 111 := by
  unfold v_n
  rw [uI_o _ _ _ _ _ (by decide), uI_o _ _ _ _ _ (by decide), uI_o _ _ _ _ _ (by decide)]
theorem rN_111 (M : ip_H) (R S : Nat → Int64) (B : Bool) : (c_rN M R S B).2.1 111 = M.2.1 111 := funext fun b => by rw [c_rN_I, if_neg (by omega)]
theorem ft_111 (M : ip_H) (z : Int × Int × Int × Int) : (c_ft M z).2.1 111 = M.2.1 111 := by
  unfold c_ft
  rw [uI_o _ _ _ _ _ (by decide), uI_o _ _ _ _ _ (by decide), uI_o _ _ _ _ _ (by decide), uI_o _ _ _ _ _ (by decide)]
theorem x4_111 (M : ip_H) (z : Int × Int × Int × Int) : (c_x4 M z).2.1 111 = M.2.1 111 := rfl
theorem z2_111 (M : ip_H) (z : Int × Int × Int × Int) : (c_2z M z).2.1 111 = M.2.1 111 := by
  unfold c_2z c_2nd
  rw [uI_o _ _ _ _ _ (by decide), uI_o _ _ _ _ _ (by decide), uI_o _ _ _ _ _ (by decide), uI_o _ _ _ _ _ (by decide)]

set_option maxHeartbeats 40000000 in
set_option maxRecDepth 100000 in
theorem yy_solve (X : ip_X) (M M1 : ip_H) (K : Option Value → ip_H → Prop) (hg : hig M M1) (hG : ip_G M1) (gi : Ri M) (gq : Rq M) (v : Int32) (m : Nat) (hm40 : m ≤ 40) (hm8 : M.2.1 109 8 = Int32.ofNat m) (hx : (m = 0 ∧ v = -4 ∧ refd M M1 (-4) 4) ∨ (¬ m = 0 ∧ ¬ so_ok (M.2.1 109) m ∧ v = -5 ∧ refd M M1 (-5) 5) ∨ (¬ m = 0 ∧ so_ok (M.2.1 109) m ∧ v = so_v (M.2.1 109) m ∧ actd M M1 9 (N_so (M.2.1 109) m))) (h : ∀ M2, vix M1 M2 → Ri M2 → Rq M2 → JJ M2 → K (some (.int v)) M2) : ip_wp X 284 0 [.ref 108, .retAddr 1, .retAddr 1, .retAddr 1, .retAddr 1, .retAddr 1, .retAddr 1, .retAddr 1, .retAddr 1] [] M1 K := by
  have g1 : Ri M1 := Ri_hig hg gi
  have g0 := g1
  obtain ⟨⟨ht, hm, ⟨f, hf, h32⟩, g4, g5, g6, g7⟩, gr, hn⟩ := g0
  have hq := rw_q3 gr
  have hpv := rw_prv gr
  have hpd := rw_prd gr
  obtain ⟨hF, hc, g3, hw, hV, ⟨wm, wm40, w8, wwd⟩, g9⟩ := gr
  have e9 := (hg 109 (by decide) (by decide)).1
  have em : wm = m := by
    have e2 := (w8.symm.trans (congrFun e9 8)).trans hm8
    rw [ip_neq _ _ (by omega) (by omega)] at e2
    exact e2
  subst em
  have no5 : ¬ wm = 0 → ¬ so_ok (M1.2.1 109) wm → v = -5 ∧ refd M M1 (-5) 5 := fun n0 no => by
    rw [e9] at no
    rcases hx with ⟨q, -⟩ | ⟨-, -, q, rd⟩ | ⟨-, q, -⟩
    · exact absurd q n0
    · exact ⟨q, rd⟩
    · exact absurd q no
  refine o_284x X M1 K hG hm ht wm wm40 w8 wwd (fun z0 => ?_) (fun n0 no R S B => ?_) (fun n0 no R S B P Q e z => ?_) (fun n0 no R S B P Q e z z2 => ?_) (fun n0 ok R S B P Q e z z2 eP eQ ee ez1 ez2 hz hv1 hv2 => ?_)
  · rcases hx with ⟨-, rfl, rd⟩ | ⟨n0, -⟩ | ⟨n0, -⟩
    · obtain ⟨f1, f2, f3, f4⟩ := fin_no (k := 4) hg gi gq rd (vis_r M1) rfl rfl rfl
      exact h _ f1 f2 f3 f4
    · exact absurd z0 n0
    · exact absurd z0 n0
  · obtain ⟨rfl, rd⟩ := no5 n0 no
    obtain ⟨f1, f2, f3, f4⟩ := fin_no (k := 5) hg gi gq rd (vis_rN M1 R S B) (c_rN_109 M1 R S B) (rN_110 M1 R S B) (rN_111 M1 R S B)
    exact h _ f1 f2 f3 f4
  · obtain ⟨rfl, rd⟩ := no5 n0 no
    obtain ⟨f1, f2, f3, f4⟩ := fin_no (k := 5) (M3 := v_n (c_x4 (v_n (c_rN M1 R S B) P (-Q) e) z) (M1.2.1 109 0) (M1.2.1 109 1) (M1.2.1 109 2)) hg gi gq rd (vis_t (vis_rN M1 R S B) (vis_t (vis_vn _ _ _ _) (vis_t (vis_x4 _ _) (vis_vn _ _ _ _)))) (vn_back (fun b h0 h1 h2 => by
      show (v_n (c_rN M1 R S B) P (-Q) e).2.1 109 b = _
      rw [vn_out _ _ _ _ _ h0 h1 h2, c_rN_109])) (x4_110 _ _ (vn_110 _ _ _ _ (rN_110 M1 R S B))) (by rw [vn_111, x4_111, vn_111, rN_111])
    exact h _ f1 f2 f3 f4
  · obtain ⟨rfl, rd⟩ := no5 n0 no
    obtain ⟨f1, f2, f3, f4⟩ := fin_no (k := 5) (M3 := v_n (c_x4 (c_ft (c_x4 (v_n (c_rN M1 R S B) P (-Q) e) z) z) z2) (M1.2.1 109 0) (M1.2.1 109 1) (M1.2.1 109 2)) hg gi gq rd (vis_t (vis_rN M1 R S B) (vis_t (vis_vn _ _ _ _) (vis_t (vis_x4 _ _) (vis_t (vis_ft _ _) (vis_t (vis_x4 _ _) (vis_vn _ _ _ _)))))) (vn_back (fun b h0 h1 h2 => by
      show (c_ft (c_x4 (v_n (c_rN M1 R S B) P (-Q) e) z) z).2.1 109 b = _
      rw [ft_row]
      show (v_n (c_rN M1 R S B) P (-Q) e).2.1 109 b = _
      rw [vn_out _ _ _ _ _ h0 h1 h2, c_rN_109])) (x4_110 _ _ (x4_110 _ _ (vn_110 _ _ _ _ (rN_110 M1 R S B)))) (by rw [vn_111, x4_111, ft_111, x4_111, vn_111, rN_111])
    exact h _ f1 f2 f3 f4
  · have vb : vis M1 (v_n (c_2z (c_x4 (c_ft (c_x4 (v_n (c_rN M1 R S B) P (-Q) e) z) z) z2) z2) (M1.2.1 109 0) (M1.2.1 109 1) (M1.2.1 109 2)) := vis_t (vis_rN M1 R S B) (vis_t (vis_vn _ _ _ _) (vis_t (vis_x4 _ _) (vis_t (vis_ft _ _) (vis_t (vis_x4 _ _) (vis_t (vis_2z _ _) (vis_vn _ _ _ _))))))
    have rb : (v_n (c_2z (c_x4 (c_ft (c_x4 (v_n (c_rN M1 R S B) P (-Q) e) z) z) z2) z2) (M1.2.1 109 0) (M1.2.1 109 1) (M1.2.1 109 2)).2.1 109 = M1.2.1 109 := vn_back (fun b h0 h1 h2 => by
      rw [z2_row]
      show (c_ft (c_x4 (v_n (c_rN M1 R S B) P (-Q) e) z) z).2.1 109 b = _
      rw [ft_row]
      show (v_n (c_rN M1 R S B) P (-Q) e).2.1 109 b = _
      rw [vn_out _ _ _ _ _ h0 h1 h2, c_rN_109])
    have lb : (v_n (c_2z (c_x4 (c_ft (c_x4 (v_n (c_rN M1 R S B) P (-Q) e) z) z) z2) z2) (M1.2.1 109 0) (M1.2.1 109 1) (M1.2.1 109 2)).2.2.1 110 = M1.2.2.1 110 := x4_110 _ _ (x4_110 _ _ (vn_110 _ _ _ _ (rN_110 M1 R S B)))
    have b111 : (v_n (c_2z (c_x4 (c_ft (c_x4 (v_n (c_rN M1 R S B) P (-Q) e) z) z) z2) z2) (M1.2.1 109 0) (M1.2.1 109 1) (M1.2.1 109 2)).2.1 111 = M1.2.1 111 := by rw [vn_111, z2_111, x4_111, ft_111, x4_111, vn_111, rN_111]
    have gB : Ri (v_n (c_2z (c_x4 (c_ft (c_x4 (v_n (c_rN M1 R S B) P (-Q) e) z) z) z2) z2) (M1.2.1 109 0) (M1.2.1 109 1) (M1.2.1 109 2)) := Ri_vis vb rb lb g1
    rw [e9] at ok eP eQ ee ez1 ez2
    have ePx : P = Int32.ofInt (e_T (so_R (M.2.1 109) wm)) := by rw [← eP]; exact (Int32.ofInt_toInt P).symm
    have eQx : -Q = Int32.ofInt (-e_U (so_R (M.2.1 109) wm)) := by rw [← eQ]; exact (Int32.ofInt_toInt (-Q)).symm
    rcases hx with ⟨q, -⟩ | ⟨-, q, -⟩ | ⟨-, -, rfl, ac⟩
    · exact absurd q n0
    · exact absurd ok q
    have er : (c_ye (c_so (c_x4 (c_ft (c_x4 (v_n (c_rN M1 R S B) P (-Q) e) z) z) z2) (M1.2.1 109 0) (M1.2.1 109 1) (M1.2.1 109 2) P (-Q) e z z2)).2.1 109 = N_so (M.2.1 109) wm := by
      unfold c_so
      rw [ye_row, st_row, cl_row, ks_row, rb, e9, eQx, ePx, ee, ez1, ez2]
      rfl
    have ri : Ri (c_ye (c_so (c_x4 (c_ft (c_x4 (v_n (c_rN M1 R S B) P (-Q) e) z) z) z2) (M1.2.1 109 0) (M1.2.1 109 1) (M1.2.1 109 2) P (-Q) e z z2)) := Ri_ye (Ri_st2 hv1 hv2 (Ri_cl hz (Ri_ks gB)))
    have wc : rw_ok (c_clf (M.2.1 109) P (-Q) e) := rw_cl hz gi.2.1
    have hv1' := hv1
    rw [ez1] at hv1'
    have hv2' := hv2
    rw [ez2] at hv2'
    have lo1 : z_low (so_z1 (M.2.1 109) wm) := z_low_zl (by
      intro q
      have q2 := hv1'.2.2.2.1
      unfold so_z1 e_z1 zQ4 at q2
      unfold zl at q2
      dsimp only at q2
      rw [q, Int.zero_tdiv] at q2
      exact absurd q2 (by decide))
    have lo2 : z_low (so_z2 (M.2.1 109) wm) := z_low_zl (by
      intro q
      have q2 := hv2'.2.2.2.1
      unfold so_z2 e_z2 zQ4 at q2
      unfold zl at q2
      dsimp only at q2
      rw [q, Int.zero_tdiv] at q2
      exact absurd q2 (by decide))
    have qq : qk (N_so (M.2.1 109) wm) ((c_ye (c_so (c_x4 (c_ft (c_x4 (v_n (c_rN M1 R S B) P (-Q) e) z) z) z2) (M1.2.1 109 0) (M1.2.1 109 1) (M1.2.1 109 2) P (-Q) e z z2)).2.2.1 110) := by
      rw [ePx, eQx, ee] at wc
      unfold N_so
      refine qk_l4 (by decide) hv2' lo2 ?_ (qk_l4 (by decide) hv1' lo1 wc (qk_clf _ _ _))
      have x := (Ri_l4 (M := c_cl M (Int32.ofInt (e_T (so_R (M.2.1 109) wm))) (Int32.ofInt (-e_U (so_R (M.2.1 109) wm))) (so_e (M.2.1 109) wm)) (i := 0) (by decide) hv1' (Ri_cl (by rw [← ePx, ← eQx, ← ee]; exact hz) gi)).2.1
      rw [l4_row, cl_row] at x
      exact x
    obtain ⟨f1, f2, f3, f4⟩ := fin_act (w := 9) (M2 := (c_ye (c_so (c_x4 (c_ft (c_x4 (v_n (c_rN M1 R S B) P (-Q) e) z) z) z2) (M1.2.1 109 0) (M1.2.1 109 1) (M1.2.1 109 2) P (-Q) e z z2))) hg gi gq (by rw [er]; exact ac) (vis_t (vis_ks2 9 vb rb lb) (vis_t (vis_cl _ _ _ _) (vis_t (vis_st _ _ _) (vis_ye _)))) ri (by rw [er]; exact qq) (ye_4 _) (by
      unfold c_so
      rw [ye_111, st_111, cl_111, ks_111]
      exact b111)
    have hh := h _ f1 f2 f3 f4
    unfold so_v at hh
    rw [← eQx, ← ePx, ← ee] at hh
    exact hh
