-- NUMBERS NOT BELOW 0 ADD UP: by the discriminant, which is below 0
/-- the index form: the discriminant of a number of the field is the field's times its square -/
def zIx (p q r b c : Int) : Int := (b + c * p) * (b + c * p) * (b + c * p) - p * c * ((b + c * p) * (b + c * p)) - q * (c * c) * (b + c * p) - r * (c * c * c)
theorem zN_sh (p q r a b c s : Int) : zN p q r (a + s) b c = zN p q r a b c + s * zS p q r a b c + s * s * zT p q r a b c + s * s * s := by
  unfold zN zS zT
  grind
theorem zN_dc0 (p q r b c : Int) : zT p q r 0 b c * zT p q r 0 b c * (zS p q r 0 b c * zS p q r 0 b c) - 4 * (zS p q r 0 b c * zS p q r 0 b c * zS p q r 0 b c) - 4 * (zT p q r 0 b c * zT p q r 0 b c * zT p q r 0 b c) * zN p q r 0 b c + 18 * zT p q r 0 b c * zS p q r 0 b c * zN p q r 0 b c - 27 * (zN p q r 0 b c * zN p q r 0 b c) = zD p q r * (zIx p q r b c * zIx p q r b c) := by
  unfold zN zS zT zD zIx
  grind
/-- the discriminant of a cubic stays as it is when it is moved -/
theorem dc_sh (T S N s : Int) : (3 * s + T) * (3 * s + T) * ((3 * s * s + 2 * s * T + S) * (3 * s * s + 2 * s * T + S)) - 4 * ((3 * s * s + 2 * s * T + S) * (3 * s * s + 2 * s * T + S) * (3 * s * s + 2 * s * T + S)) - 4 * ((3 * s + T) * (3 * s + T) * (3 * s + T)) * (N + s * S + s * s * T + s * s * s) + 18 * (3 * s + T) * (3 * s * s + 2 * s * T + S) * (N + s * S + s * s * T + s * s * s) - 27 * ((N + s * S + s * s * T + s * s * s) * (N + s * S + s * s * T + s * s * s)) = T * T * (S * S) - 4 * (S * S * S) - 4 * (T * T * T) * N + 18 * T * S * N - 27 * (N * N) := by
  grind
theorem zT_sh (p q r a b c : Int) : zT p q r a b c = 3 * a + zT p q r 0 b c := by
  unfold zT
  grind
theorem zS_sh (p q r a b c : Int) : zS p q r a b c = 3 * a * a + 2 * a * zT p q r 0 b c + zS p q r 0 b c := by
  unfold zS zT
  grind
theorem zN_sh0 (p q r a b c : Int) : zN p q r a b c = zN p q r 0 b c + a * zS p q r 0 b c + a * a * zT p q r 0 b c + a * a * a := by
  unfold zN zS zT
  grind
theorem zN_dc (p q r a b c : Int) : zT p q r a b c * zT p q r a b c * (zS p q r a b c * zS p q r a b c) - 4 * (zS p q r a b c * zS p q r a b c * zS p q r a b c) - 4 * (zT p q r a b c * zT p q r a b c * zT p q r a b c) * zN p q r a b c + 18 * zT p q r a b c * zS p q r a b c * zN p q r a b c - 27 * (zN p q r a b c * zN p q r a b c) = zD p q r * (zIx p q r b c * zIx p q r b c) := by
  rw [← zN_dc0, zT_sh p q r a, zS_sh p q r a, zN_sh0 p q r a]
  exact dc_sh _ _ _ _
/-- a cubic with two changes of sign has a discriminant of squares -/
theorem sos3 (a e c d : Int) : e * e * ((a + e + c + d) * (a + e + c + d)) + 4 * a * ((a + e + c + d) * (a + e + c + d) * (a + e + c + d)) - 4 * (e * e * e) * c - 18 * a * e * (a + e + c + d) * c - 27 * (a * a) * (c * c) = (e * e + (3 * a - c + d) * e + a * (2 * a - c + 2 * d)) * (e * e + (3 * a - c + d) * e + a * (2 * a - c + 2 * d)) + 4 * (a * c * ((e + 2 * a - c) * (e + 2 * a - c))) + 4 * (a * d * ((e + a + d + c) * (e + a + d + c))) + c * d * ((2 * e + a) * (2 * e + a)) + 19 * (c * d * (a * a)) + 8 * (a * c * (c * d)) + 4 * (a * d * (c * d)) := by
  grind
theorem sq_nn (x : Int) : 0 ≤ x * x := by
  rcases Int.le_total 0 x with h | h
  · exact Int.mul_nonneg h h
  · exact Int.mul_nonneg_of_nonpos_of_nonpos h h
theorem zN_up {p q r : Int} (hF : zF p q r = true) {a b c n : Int} (hn : 0 ≤ n) (h : 0 ≤ zN p q r a b c) : 0 ≤ zN p q r (a + n) b c := by
  by_cases h0 : zN p q r a b c = 0
  · have e := zN_0 hF _ a b c (Nat.lt_succ_self _) h0
    rw [e.1, e.2.1, e.2.2, Int.zero_add, zN_00]
    exact Int.mul_nonneg hn (Int.mul_nonneg hn hn)
  by_cases g : 0 ≤ zN p q r (a + n) b c
  · exact g
  exfalso
  have hD : zD p q r < 0 := by
    have h := hF
    unfold zF at h
    simp only [Bool.and_eq_true, decide_eq_true_eq] at h
    exact h.2.2.2.2.2.2.1
  have n1 : n ≠ 0 := fun q' => by
    rw [q', Int.add_zero] at g
    exact g h
  have hn0 : 0 < n := by omega
  have sh := zN_sh p q r a b c n
  have dc := zN_dc p q r a b c
  generalize zN p q r (a + n) b c = m at *
  generalize zN p q r a b c = N at *
  generalize zS p q r a b c = S at *
  generalize zT p q r a b c = T at *
  have key := sos3 (n * n * n) (n * n * T) N (-m)
  have eb : n * n * n + n * n * T + N + -m = -(n * S) := by
    rw [sh]
    grind
  rw [eb] at key
  have lhs : n * n * T * (n * n * T) * (-(n * S) * -(n * S)) + 4 * (n * n * n) * (-(n * S) * -(n * S) * -(n * S)) - 4 * (n * n * T * (n * n * T) * (n * n * T)) * N - 18 * (n * n * n) * (n * n * T) * -(n * S) * N - 27 * (n * n * n * (n * n * n)) * (N * N) = n * n * n * (n * n * n) * (T * T * (S * S) - 4 * (S * S * S) - 4 * (T * T * T) * N + 18 * T * S * N - 27 * (N * N)) := by grind
  rw [lhs, dc] at key
  have n3 : 0 < n * n * n := Int.mul_pos (Int.mul_pos hn0 hn0) hn0
  have L : n * n * n * (n * n * n) * (zD p q r * (zIx p q r b c * zIx p q r b c)) ≤ 0 := by
    have k1 : 0 ≤ n * n * n * (n * n * n) := sq_nn _
    have k2 : zD p q r * (zIx p q r b c * zIx p q r b c) ≤ 0 := Int.mul_nonpos_of_nonpos_of_nonneg (by omega) (sq_nn _)
    exact Int.mul_nonpos_of_nonneg_of_nonpos k1 k2
  have hc : 0 < N := by omega
  have hd : 0 < -m := by omega
  have p1 : 0 < n * n * n * N := Int.mul_pos n3 hc
  have p2 : 0 < n * n * n * -m := Int.mul_pos n3 hd
  have p3 : 0 < N * -m := Int.mul_pos hc hd
  have q1 := sq_nn (n * n * T * (n * n * T) + (3 * (n * n * n) - N + -m) * (n * n * T) + n * n * n * (2 * (n * n * n) - N + 2 * -m))
  have q2 := Int.mul_nonneg (Int.le_of_lt p1) (sq_nn (n * n * T + 2 * (n * n * n) - N))
  have q3 := Int.mul_nonneg (Int.le_of_lt p2) (sq_nn (n * n * T + n * n * n + -m + N))
  have q4 := Int.mul_nonneg (Int.le_of_lt p3) (sq_nn (2 * (n * n * T) + n * n * n))
  have q5 : 0 < N * -m * (n * n * n * (n * n * n)) := Int.mul_pos p3 (Int.mul_pos n3 n3)
  have q6 := Int.mul_pos p1 p3
  have q7 := Int.mul_pos p2 p3
  omega
theorem zN_add {p q r : Int} (hF : zF p q r = true) {a b c f g h : Int} (hx : 0 ≤ zN p q r a b c) (hy : 0 ≤ zN p q r f g h) : 0 ≤ zN p q r (a + f) (b + g) (c + h) := by
  by_cases y0 : zN p q r f g h = 0
  · have e := zN_0 hF _ f g h (Nat.lt_succ_self _) y0
    rw [e.1, e.2.1, e.2.2, Int.add_zero, Int.add_zero, Int.add_zero]
    exact hx
  have eU := zN_U y0
  have m1 := zN_mul p q r a b c (zU p q r f g h) (zV p q r f g h) (zW p q r f g h)
  have m2 := zN_mul p q r (a + f) (b + g) (c + h) (zU p q r f g h) (zV p q r f g h) (zW p q r f g h)
  have lA : zA p q r (a + f) (b + g) (c + h) (zU p q r f g h) (zV p q r f g h) (zW p q r f g h) = zA p q r a b c (zU p q r f g h) (zV p q r f g h) (zW p q r f g h) + zN p q r f g h := by
    rw [← zU_A p q r f g h]
    generalize zU p q r f g h = U
    generalize zV p q r f g h = V
    generalize zW p q r f g h = W
    unfold zA
    grind
  have lB : zB p q r (a + f) (b + g) (c + h) (zU p q r f g h) (zV p q r f g h) (zW p q r f g h) = zB p q r a b c (zU p q r f g h) (zV p q r f g h) (zW p q r f g h) := by
    have k := zU_B p q r f g h
    generalize zU p q r f g h = U at *
    generalize zV p q r f g h = V at *
    generalize zW p q r f g h = W at *
    unfold zB at *
    grind
  have lC : zC p q r (a + f) (b + g) (c + h) (zU p q r f g h) (zV p q r f g h) (zW p q r f g h) = zC p q r a b c (zU p q r f g h) (zV p q r f g h) (zW p q r f g h) := by
    have k := zU_C p q r f g h
    generalize zU p q r f g h = U at *
    generalize zV p q r f g h = V at *
    generalize zW p q r f g h = W at *
    unfold zC at *
    grind
  rw [lA, lB, lC] at m2
  rw [eU] at m1 m2
  have hn : 0 < zN p q r f g h := by omega
  generalize zA p q r a b c (zU p q r f g h) (zV p q r f g h) (zW p q r f g h) = A at *
  generalize zB p q r a b c (zU p q r f g h) (zV p q r f g h) (zW p q r f g h) = B at *
  generalize zC p q r a b c (zU p q r f g h) (zV p q r f g h) (zW p q r f g h) = C at *
  generalize zN p q r f g h = n at *
  have z0 : 0 ≤ zN p q r A B C := by
    rw [m1]
    exact Int.mul_nonneg hx (sq_nn n)
  have z1 := zN_up hF (Int.le_of_lt hn) z0
  rw [m2] at z1
  by_cases k : 0 ≤ zN p q r (a + f) (b + g) (c + h)
  · exact k
  · exfalso
    have := Int.mul_neg_of_neg_of_pos (show zN p q r (a + f) (b + g) (c + h) < 0 by omega) (Int.mul_pos hn hn)
    omega
