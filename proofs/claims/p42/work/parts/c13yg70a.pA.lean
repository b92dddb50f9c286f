set_option maxHeartbeats 4000000 in
theorem w6_pA {p q r : Int} (hF : zF p q r = true) {e y : Int × Int × Int} {X C D v0 v1 v2 vd : Int} (hX : 0 ≤ X) (n2 : 0 ≤ C) (d0 : 0 < vd) (D0 : 0 < D) (i2 : ts3 vd y = tm p q r e (v0, v1, v2)) (e3 : ta3 (ts3 X e) (ts3 C y) = (D, 0, 0)) (pv : 0 ≤ zN p q r (v0 - vd) v1 v2) : nn3 p q r (td3 (vd * X + C * v0, C * v1, C * v2) (C * vd, 0, 0)) ∧ zN p q r (vd * X + C * v0) (C * v1) (C * v2) ≤ vd * D * (vd * D * (vd * D)) := by
  have k1 : tm p q r e (vd * X + C * v0, C * v1, C * v2) = (vd * D, 0, 0) := by
    have e4 : (vd * D, (0 : Int), (0 : Int)) = ts3 vd (D, 0, 0) := by
      unfold ts3
      dsimp only
      rw [Int.mul_zero]
    rw [w6_lin, ← i2, e4, ← e3]
    exact w6_x4 _ _ _ _ _
  have w1 : nn3 p q r (td3 (vd * X + C * v0, C * v1, C * v2) (C * vd, 0, 0)) := by
    rw [w6_x6 X C vd v0 v1 v2]
    exact nn3_a hF (nn3_i (Int.mul_nonneg (Int.le_of_lt d0) hX)) (nn3_s n2 pv)
  refine ⟨w1, ?_⟩
  have z1 : 0 ≤ zN p q r (vd * X + C * v0) (C * v1) (C * v2) := by
    have h := nn3_a hF w1 (nn3_i (p := p) (q := q) (r := r) (Int.mul_nonneg n2 (Int.le_of_lt d0)))
    rw [w6_e5] at h
    exact h
  have nm := w6_nm k1
  dsimp only at nm
  exact w6_cub (Int.mul_pos d0 D0) z1 nm
