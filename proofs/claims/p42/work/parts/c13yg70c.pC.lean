set_option maxHeartbeats 4000000 in
theorem w6_pC {p q r : Int} (hF : zF p q r = true) {e y : Int × Int × Int} {X C D v0 v1 v2 vd f0 f1 f2 fd : Int} (hX : 0 ≤ X) (n2 : 0 ≤ C) (d0 : 0 < vd) (D0 : 0 < D) (fd0 : 0 < fd) (i2 : ts3 vd y = tm p q r e (v0, v1, v2)) (e3 : ta3 (ts3 X e) (ts3 C y) = (D, 0, 0)) (cw : tm p q r (v0, v1, v2) (f0, f1, f2) = (fd * vd, 0, 0)) (fnn : 0 ≤ zN p q r f0 f1 f2) : nn3 p q r (td3 (fd * C + X * f0, X * f1, X * f2) (fd * C, 0, 0)) ∧ zN p q r (fd * C + X * f0) (X * f1) (X * f2) ≤ fd * D * (fd * D * (fd * D)) := by
  have ey : tm p q r y (f0, f1, f2) = ts3 fd e := by
    refine ts3_inj (n := vd) (Int.ne_of_gt d0) ?_
    rw [← w6_e9, i2, tm_a, cw, tm_sn, ts3_ts, Int.mul_comm]
  have k2 : tm p q r y (fd * C + X * f0, X * f1, X * f2) = (fd * D, 0, 0) := by
    have e4 : (fd * D, (0 : Int), (0 : Int)) = ts3 fd (D, 0, 0) := by
      unfold ts3
      dsimp only
      rw [Int.mul_zero]
    rw [w6_lin, ey, e4, ← e3]
    exact w6_x5 _ _ _ _ _
  have w2 : nn3 p q r (td3 (fd * C + X * f0, X * f1, X * f2) (fd * C, 0, 0)) := by
    rw [w6_x7 X C fd f0 f1 f2]
    exact nn3_s hX fnn
  refine ⟨w2, ?_⟩
  have z2 : 0 ≤ zN p q r (fd * C + X * f0) (X * f1) (X * f2) := by
    have h := nn3_a hF w2 (nn3_i (p := p) (q := q) (r := r) (Int.mul_nonneg (Int.le_of_lt fd0) n2))
    rw [w6_e5] at h
    exact h
  have nm := w6_nm k2
  dsimp only at nm
  exact w6_cub (Int.mul_pos fd0 D0) z2 nm
