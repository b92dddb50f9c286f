set_option maxHeartbeats 4000000 in
theorem w6_fin {N : Nat → Int32} {P : Nat → Int64} (w : rw_ok N) (q : q_ok N P) (on : ¬ N 3 = 0) {j : Nat} (hj : r_k N = j + 1) (he : q_e N (j + 1) = true) (g1 : 22501 ≤ (q_P N (j + 1) 2).toInt) (g2 : N 4 = 0 → 1000000000 ≤ (q_P N (j + 1) 0).toInt ∧ 3000000000 ≤ (q_P N (j + 1) 2).toInt) : False := by
  have hF : zF (r_v N 0) (r_v N 1) (r_v N 2) = true := w.1
  have st := q_st_of w q on (j := j + 1) (by omega)
  have st0 := q_st_of w q on (j := j) (by omega)
  have s00 := q_st_of w q on (j := 0) (by omega)
  have nn := q_P_ge w q on (j := j + 1) (by omega)
  have ew := q_e_wh (j := j + 1) w.1 ((q.2 on).1) st.1 st.2.1 st.2.2.1 st.2.2.2.1 st.2.2.2.2.1 st.2.2.2.2.2
  rw [he] at ew
  obtain ⟨wu, wv⟩ := Bool.and_eq_true_iff.mp ew.symm
  have whu : ∀ s, wh N s = true → N (s + 1) = 0 ∧ N (s + 2) = 0 ∧ N (s + 3) = 1 := fun s h => by
    unfold wh at h
    simp only [Bool.and_eq_true, decide_eq_true_eq] at h
    exact h
  obtain ⟨u1, u2, u3⟩ := whu _ wu
  obtain ⟨e, x, y, i1, i2, i3⟩ := w6_inv w q on (j + 1) (by omega)
  obtain ⟨nz, bf, -, -, ev⟩ := w6_s w q on (j := j) (by omega)
  have pv := q_v1 w q on (j := j) (by omega)
  have qu : qi N (153 + 8 * (j + 1)) = ((N (153 + 8 * (j + 1))).toInt, 0, 0, 1) := by
    unfold qi
    rw [u1, u2, u3]
    rfl
  have u0 : 0 ≤ (N (153 + 8 * (j + 1))).toInt := by
    have t3' : 0 ≤ zN (r_v N 0) (r_v N 1) (r_v N 2) (N (153 + 8 * (j + 1))).toInt (N (153 + 8 * (j + 1) + 1)).toInt (N (153 + 8 * (j + 1) + 2)).toInt := st.2.2.1
    rw [u1, u2, show (0 : Int32).toInt = 0 from rfl, zN_00] at t3'
    exact w6_cn t3'
  rw [qu] at i1
  have i1' : ts3 1 x = tm (r_v N 0) (r_v N 1) (r_v N 2) e ((N (153 + 8 * (j + 1))).toInt, 0, 0) := i1
  rw [ts3_1, tm_sn] at i1'
  rw [i1', ← w6_x3] at i3
  have d0 : 1 ≤ (qi N 153).2.2.2 ∧ (qi N 153).2.2.2 ≤ 150 := s00.1.2.2.2
  have d1 : 1 ≤ (qi N 157).2.2.2 ∧ (qi N 157).2.2.2 ≤ 150 := s00.2.1.2.2.2
  have D1 : 1 ≤ (qi N 153).2.2.2 * (qi N 157).2.2.2 := Int.mul_pos d0.1 d1.1
  have D2 : (qi N 153).2.2.2 * (qi N 157).2.2.2 ≤ 22500 := Int.mul_le_mul (c := 150) (d := 150) d0.2 d1.2 (Int.le_trans (by decide) d1.1) (by decide)
  have vv : c_v4 (qi N (153 + 8 * (j + 1) + 4)) := st.2.1
  refine w6_pure hF (f0 := (q_f0 N j).1) (f1 := (q_f0 N j).2.1) (f2 := (q_f0 N j).2.2.1) (fd := (q_f0 N j).2.2.2) (nn 0 (by decide)) (nn 1 (by decide)) (nn 2 (by decide)) u0 D1 D2 vv.2.2.2.1 vv.2.2.2.2 vv.2.2.1 i2 i3 pv g1 ?_
  rcases Bool.or_eq_true_iff.mp wv with a | a
  · have h4 : N 4 = 0 := of_decide_eq_true a
    have nt : q_t N j = false := by
      unfold q_t
      rw [h4]
      rfl
    have ef : q_f N j = q_f0 N j := by
      unfold q_f
      rw [nt, if_neg (by decide)]
    rw [ef] at nz bf ev
    have fne : (q_f0 N j).2.2.2 ≠ 0 := Int.ne_of_gt bf.2.2.2.1
    have cv := w6_cm (g := (1, 0, 0, 1)) hF nz (show (1 : Int) ≠ 0 by decide) fne
    rw [← ev] at cv
    have cv' : ts3 1 (tm (r_v N 0) (r_v N 1) (r_v N 2) (w3 (qi N (153 + 8 * (j + 1) + 4))) (w3 (q_f0 N j))) = ts3 ((q_f0 N j).2.2.2 * (qi N (153 + 8 * (j + 1) + 4)).2.2.2) (1, 0, 0) := cv
    have one : ∀ m : Int, ts3 m (1, 0, 0) = (m, 0, 0) := fun m => by
      unfold ts3
      dsimp only
      rw [Int.mul_one, Int.mul_zero]
    rw [ts3_1, one] at cv'
    have fnn : 0 ≤ zN (r_v N 0) (r_v N 1) (r_v N 2) (q_f0 N j).1 (q_f0 N j).2.1 (q_f0 N j).2.2.1 := by
      obtain ⟨hp, hq, hr⟩ := zF_b hF
      obtain ⟨a0, a1, a2, a3⟩ := st0.1
      exact (z_fl_ge hp hq hr a0 a1 a2 a3 st0.2.2.1).2
    exact Or.inr ⟨(g2 h4).1, (g2 h4).2, cv', st0.1.2.2.1, fnn, bf.2.2.2.1, bf.2.2.2.2⟩
  · obtain ⟨v1, v2, -⟩ := whu _ a
    refine Or.inl ⟨?_, ?_⟩
    · show (N (153 + 8 * (j + 1) + 4 + 1)).toInt = 0
      rw [v1]
      rfl
    · show (N (153 + 8 * (j + 1) + 4 + 2)).toInt = 0
      rw [v2]
      rfl
/-- a COURSE that ENDS has no 60 STEPS -/
theorem w60 {N : Nat → Int32} {P : Nat → Int64} (w : rw_ok N) (q : q_ok N P) (on : ¬ N 3 = 0) (h60 : r_k N = 60) : q_e N (r_k N) = false := by
  rw [h60]
  cases he : q_e N 60
  · rfl
  exfalso
  have d := w6_dbl w q on 19 (by omega)
  have m1 := w6_C w q on (j := 57) (by omega)
  have m2 := w6_C w q on (j := 58) (by omega)
  have n1 := q_P_ge w q on (j := 58) (by omega) 0 (by decide)
  have n2 := q_P_ge w q on (j := 59) (by omega) 0 (by decide)
  have e19 : ((2 ^ 19 : Nat) : Int) = 524288 := by decide
  rw [e19] at d
  have d' : (524288 : Int) ≤ (q_P N (57 + 1) 2).toInt := d
  have n1' : 0 ≤ (q_P N (57 + 1) 0).toInt := n1
  have n2' : 0 ≤ (q_P N (58 + 1) 0).toInt := n2
  have m1' : (q_P N (57 + 1) 0).toInt + (q_P N (57 + 1) 2).toInt ≤ (q_P N (58 + 1) 2).toInt := m1
  have m2' : (q_P N (58 + 1) 0).toInt + (q_P N (58 + 1) 2).toInt ≤ (q_P N (59 + 1) 2).toInt := m2
  refine w6_fin w q on (j := 59) h60 he (by omega) (fun h4 => ?_)
  obtain ⟨g0, -, g2⟩ := w6_grow w q on h4 60 (by omega) (by decide)
  have k0 : w6_l.getD 60 0 = 1773314929 := by decide +kernel
  have k2 : w6_l.getD (60 + 2) 0 = 3808901426 := by decide +kernel
  rw [k0] at g0
  rw [k2] at g2
  have g0' : (1773314929 : Int) ≤ (q_P N (59 + 1) 0).toInt := g0
  have g2' : (3808901426 : Int) ≤ (q_P N (59 + 1) 2).toInt := g2
  omega
