theorem w6_pure {p q r : Int} (hF : zF p q r = true) {e y : Int × Int × Int} {A B C n D v0 v1 v2 vd f0 f1 f2 fd : Int} (n0 : 0 ≤ A) (n1 : 0 ≤ B) (n2 : 0 ≤ C) (u0 : 0 ≤ n) (D1 : 1 ≤ D) (D2 : D ≤ 22500) (b3 : 1 ≤ vd) (b4 : vd ≤ 150) (b2 : zb 150 v2) (i2 : ts3 vd y = tm p q r e (v0, v1, v2)) (e3 : ta3 (ts3 (A + B * n) e) (ts3 C y) = (D, 0, 0)) (pv : 0 ≤ zN p q r (v0 - vd) v1 v2) (g1 : 22501 ≤ C) (wv : (v1 = 0 ∧ v2 = 0) ∨ (1000000000 ≤ A ∧ 3000000000 ≤ C ∧ tm p q r (v0, v1, v2) (f0, f1, f2) = (fd * vd, 0, 0) ∧ zb 150 f2 ∧ 0 ≤ zN p q r f0 f1 f2 ∧ 1 ≤ fd ∧ fd ≤ 150)) : False := by
  have X0 : A ≤ A + B * n := w6_m3 n1 u0
  generalize A + B * n = X at X0 e3
  have hX : 0 ≤ X := Int.le_trans n0 X0
  obtain ⟨w1, c1⟩ := w6_pA hF hX n2 b3 D1 i2 e3 pv
  have rt : v1 = 0 ∧ v2 = 0 → False := fun rat => by
    obtain ⟨r1, r2⟩ := rat
    rw [r1, r2, Int.mul_zero] at w1 c1
    have c5 := w6_pB hF b3 D1 w1 c1
    exact absurd (Int.le_trans g1 (Int.le_trans c5 D2)) (by decide)
  rcases wv with rat | ⟨gA, gC, cw, fb, fnn, fd1, fd2⟩
  · exact rt rat
  obtain ⟨w2, c2⟩ := w6_pC hF hX n2 b3 D1 fd1 i2 e3 cw fnn
  obtain ⟨p1, p2⟩ := w6_pD hF (w6_m2 gC b3).1 (Int.le_trans (by decide) gC) (w6_m1 b3 b4 D1 D2) w1 c1
  obtain ⟨p3, p4⟩ := w6_pD hF (w6_m2 gC fd1).2 (Int.le_trans gA X0) (w6_m1 fd1 fd2 D1 D2) w2 c2
  exact w6_nz hF (V := (v0, v1, v2)) (F := (f0, f1, f2)) (n := fd * vd) (Int.mul_ne_zero (Int.ne_of_gt fd1) (Int.ne_of_gt b3)) cw rt (w6_det hF b2 fb p1 p2 p3 p4)
