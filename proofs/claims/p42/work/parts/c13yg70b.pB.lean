theorem w6_pB {p q r W C D vd : Int} (hF : zF p q r = true) (d0 : 0 < vd) (D0 : 0 < D) (w1 : nn3 p q r (td3 (W, 0, 0) (C * vd, 0, 0))) (c1 : zN p q r W 0 0 ≤ vd * D * (vd * D * (vd * D))) : C ≤ D := by
  rw [zN_00] at c1
  have c2 := w6_c3 (Int.le_of_lt (Int.mul_pos d0 D0)) c1
  have ew : td3 (W, 0, 0) (C * vd, 0, 0) = (W - C * vd, 0, 0) := Prod.ext rfl (Prod.ext (Int.sub_self 0) (Int.sub_self 0))
  rw [ew] at w1
  have w2 := Int.sub_nonneg.mp (nn3_z w1)
  have c4 : vd * C ≤ vd * D := by
    rw [Int.mul_comm vd C]
    exact Int.le_trans w2 c2
  exact Int.le_of_mul_le_mul_left c4 d0
