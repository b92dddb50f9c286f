theorem w6_pD {p q r : Int} (hF : zF p q r = true) {l M c y1 y2 m : Int} (lb : 3000000000 ≤ l) (hc : 1000000000 ≤ c) (mb : 0 ≤ M ∧ M ≤ 3375000) (w1 : nn3 p q r (td3 (m, c * y1, c * y2) (l, 0, 0))) (c1 : zN p q r m (c * y1) (c * y2) ≤ M * (M * M)) : nn3 p q r (td3 (1, 0, 0) (ts3 301 (w6_pi p y1 y2))) ∧ nn3 p q r (td3 (1, 0, 0) (ts3 301 (w6_pi p (-y1) (-y2)))) := by
  have l0 : 0 ≤ l := Int.le_trans (by decide) lb
  refine ⟨w6_ng fun h => ?_, w6_ng fun h => ?_⟩
  · exact w6_big lb hc mb (w6_L hF (w := (m, c * y1, c * y2)) (c := c) (y1 := y1) (y2 := y2) l0 rfl rfl w1 h) c1
  · have k := w6_L hF (w := (m, c * y1, c * y2)) (c := -c) (y1 := -y1) (y2 := -y2) l0 (Int.neg_mul_neg c y1).symm (Int.neg_mul_neg c y2).symm w1 h
    rw [Int.neg_mul_neg] at k
    exact w6_big lb hc mb k c1
theorem w6_m1 {d D : Int} (h : 1 ≤ d) (h' : d ≤ 150) (D1 : 1 ≤ D) (D2 : D ≤ 22500) : 0 ≤ d * D ∧ d * D ≤ 3375000 := by
  have a : 0 < d * D := Int.mul_pos h D1
  have b : d * D ≤ 150 * 22500 := Int.mul_le_mul h' D2 (Int.le_trans (by decide) D1) (by decide)
  omega
theorem w6_m2 {C d : Int} (hC : 3000000000 ≤ C) (h : 1 ≤ d) : 3000000000 ≤ C * d ∧ 3000000000 ≤ d * C := by
  have a := Int.mul_le_mul_of_nonneg_left h (show 0 ≤ C by omega)
  rw [Int.mul_comm d C]
  omega
theorem w6_m3 {A B n : Int} (n1 : 0 ≤ B) (u0 : 0 ≤ n) : A ≤ A + B * n := by
  have := Int.mul_nonneg n1 u0
  omega
