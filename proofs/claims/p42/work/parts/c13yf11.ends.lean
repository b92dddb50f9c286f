-- WHEN A COURSE ENDS
theorem z_whl : ((List.range 301).all fun n => decide (z_fl 0 0 0 ((n : Int) - 150) 0 0 1 = Int32.ofInt ((n : Int) - 150))) = true := by decide +kernel
/-- the FLOOR of a whole number is that -/
theorem z_fl_wh {a : Int} (h : zb 150 a) (p q r : Int) : (z_fl p q r a 0 0 1).toInt = a := by
  unfold zb at h
  have e := of_decide_eq_true (List.all_eq_true.mp z_whl (a + 150).toNat (List.mem_range.mpr (by omega)))
  have e2 : (((a + 150).toNat : Nat) : Int) - 150 = a := by omega
  rw [e2] at e
  have e3 : z_fl p q r a 0 0 1 = z_fl 0 0 0 a 0 0 1 := z_flo_00 p q r a 1 13 (-4096) 4096
  rw [e3, e, Int32.toInt_ofInt_of_le (by omega) (by omega)]
/-- in lowest terms -/
def z_low (z : Int × Int × Int × Int) : Prop := Int.gcd (Int.gcd z.1 z.2.1) (Int.gcd z.2.2.1 z.2.2.2) = 1
/-- nothing is left over of just the whole numbers -/
theorem z_rest0 {p q r : Int} {z : Int × Int × Int × Int} (ha : zb 150 z.1) (hd : 1 ≤ z.2.2.2) (hl : z_low z) : (z.1 - (z_fl p q r z.1 z.2.1 z.2.2.1 z.2.2.2).toInt * z.2.2.2 = 0 ∧ z.2.1 = 0 ∧ z.2.2.1 = 0) ↔ (z.2.1 = 0 ∧ z.2.2.1 = 0 ∧ z.2.2.2 = 1) := by
  obtain ⟨a, b, c, d⟩ := z
  dsimp only at *
  constructor
  · rintro ⟨h, rfl, rfl⟩
    refine ⟨rfl, rfl, ?_⟩
    unfold z_low at hl
    dsimp only at hl
    generalize (z_fl p q r a 0 0 d).toInt = F at h
    have e : a = F * d := by omega
    rw [e, Int.gcd_zero_right, Int.gcd_zero_left] at hl
    have hdv : d.natAbs ∣ 1 := by
      rw [← hl]
      refine Nat.dvd_gcd ?_ ?_
      · rw [Int.natAbs_natCast, Int.natAbs_mul]
        exact Nat.dvd_mul_left _ _
      · rw [Int.natAbs_natCast]
        exact Nat.dvd_refl _
    have := Nat.dvd_one.mp hdv
    omega
  · rintro ⟨rfl, rfl, rfl⟩
    refine ⟨?_, rfl, rfl⟩
    rw [z_fl_wh ha]
    omega
/-- what is left over isn't far from 0 -/
theorem z_fl_c {p q r a b c d : Int} (hp : zb 3 p) (hq : zb 3 q) (hr : zb 3 r) (ha : zb 150 a) (hb : zb 150 b) (hc : zb 150 c) (hd : 1 ≤ d ∧ d ≤ 150) (h0 : 0 ≤ zN p q r a b c) : zb 4150 (a - (z_fl p q r a b c d).toInt * d) ∧ 0 ≤ zN p q r (a - (z_fl p q r a b c d).toInt * d) b c := by
  have h := z_flo_b hp hq hr ha hb hc hd 13 (-4096) 4096 (by decide) (by decide) (by decide) (Or.inl rfl) (Or.inl rfl)
  have e : z_flo p q r a b c d 13 (-4096) 4096 = z_fl p q r a b c d := rfl
  rw [e] at h
  obtain ⟨h1, h2, h3, h4⟩ := h
  obtain ⟨k1, k2⟩ := z_fl_ge hp hq hr ha hb hc hd h0
  refine ⟨?_, k2⟩
  generalize (z_fl p q r a b c d).toInt = F at *
  have hmul : (F + 1) * d = F * d + d := by rw [Int.add_mul, Int.one_mul]
  rw [hmul] at h4
  unfold zb at ha ⊢
  constructor
  · rcases Int.lt_or_le (-4000) (a - F * d) with w | w
    · omega
    · have := zN_neg hp hq hr hb hc w
      omega
  · rcases h4 with h4 | h4
    · have e2 : F = 4095 := by omega
      rw [e2]
      omega
    · rcases Int.lt_or_le (a - (F * d + d)) 4000 with w | w
      · omega
      · have := zN_pos hp hq hr hb hc w
        omega
/-- one left over is 0, the other isn't below 0: exchanged just if that is above 0 -/
theorem r_lt_0l {p q r : Int} {f g : Int × Int × Int × Int} (hp : zb 3 p) (hq : zb 3 q) (hr : zb 3 r) (h1 : f.1 = 0) (h2 : f.2.1 = 0) (h3 : f.2.2.1 = 0) (hd : 1 ≤ f.2.2.2 ∧ f.2.2.2 ≤ 150) (b1 : zb 4150 g.1) (b2 : zb 150 g.2.1) (b3 : zb 150 g.2.2.1) : r_lt p q r f g = decide (0 < zN p q r g.1 g.2.1 g.2.2.1) := by
  have e : zN p q r (f.1 * g.2.2.2 - g.1 * f.2.2.2) (f.2.1 * g.2.2.2 - g.2.1 * f.2.2.2) (f.2.2.1 * g.2.2.2 - g.2.2.1 * f.2.2.2) = (-f.2.2.2) * ((-f.2.2.2) * ((-f.2.2.2) * zN p q r g.1 g.2.1 g.2.2.1)) := by
    rw [h1, h2, h3, ← zN_s]
    congr 1
    · grind
    · grind
    · grind
  have bN : zb 200000000000 (zN p q r g.1 g.2.1 g.2.2.1) := zN_bnd hp hq hr b1 b2 b3 _ (by decide) (by decide) (by decide)
  have bd : zb 150 (-f.2.2.2) := ⟨by omega, by omega⟩
  have bE := zb_m bd (zb_m bd (zb_m bd bN (Int.le_refl _)) (Int.le_refl _)) (Int.le_refl _)
  unfold r_lt
  rw [e]
  have hs := z_sg_lt (zb_w bE (by decide))
  have key : ((-f.2.2.2) * ((-f.2.2.2) * ((-f.2.2.2) * zN p q r g.1 g.2.1 g.2.2.1)) < 0) ↔ 0 < zN p q r g.1 g.2.1 g.2.2.1 := by
    generalize zN p q r g.1 g.2.1 g.2.2.1 = n
    generalize f.2.2.2 = d at hd
    have e3 : (-d) * ((-d) * ((-d) * n)) = -(d * (d * (d * n))) := by grind
    rw [e3]
    constructor
    · intro h
      rcases Int.lt_or_le 0 n with w | w
      · exact w
      · exfalso
        have w1 : d * n ≤ 0 := Int.mul_nonpos_of_nonneg_of_nonpos (by omega) w
        have w2 : d * (d * n) ≤ 0 := Int.mul_nonpos_of_nonneg_of_nonpos (by omega) w1
        have w3 : d * (d * (d * n)) ≤ 0 := Int.mul_nonpos_of_nonneg_of_nonpos (by omega) w2
        omega
    · intro h
      have w1 : 0 < d * n := Int.mul_pos (by omega) h
      have w2 : 0 < d * (d * n) := Int.mul_pos (by omega) w1
      have w3 : 0 < d * (d * (d * n)) := Int.mul_pos (by omega) w2
      omega
  exact decide_eq_decide.mpr ((iff_of_eq hs).trans key)
theorem r_lt_0r {p q r : Int} {f g : Int × Int × Int × Int} (hp : zb 3 p) (hq : zb 3 q) (hr : zb 3 r) (h1 : g.1 = 0) (h2 : g.2.1 = 0) (h3 : g.2.2.1 = 0) (hd : 1 ≤ g.2.2.2 ∧ g.2.2.2 ≤ 150) (b1 : zb 4150 f.1) (b2 : zb 150 f.2.1) (b3 : zb 150 f.2.2.1) (h0 : 0 ≤ zN p q r f.1 f.2.1 f.2.2.1) : r_lt p q r f g = false := by
  have e : zN p q r (f.1 * g.2.2.2 - g.1 * f.2.2.2) (f.2.1 * g.2.2.2 - g.2.1 * f.2.2.2) (f.2.2.1 * g.2.2.2 - g.2.2.1 * f.2.2.2) = g.2.2.2 * (g.2.2.2 * (g.2.2.2 * zN p q r f.1 f.2.1 f.2.2.1)) := by
    rw [h1, h2, h3, ← zN_s]
    congr 1
    · grind
    · grind
    · grind
  have bN : zb 200000000000 (zN p q r f.1 f.2.1 f.2.2.1) := zN_bnd hp hq hr b1 b2 b3 _ (by decide) (by decide) (by decide)
  have bd : zb 150 g.2.2.2 := ⟨by omega, by omega⟩
  have bE := zb_m bd (zb_m bd (zb_m bd bN (Int.le_refl _)) (Int.le_refl _)) (Int.le_refl _)
  unfold r_lt
  rw [e]
  have hs := z_sg_lt (zb_w bE (by decide))
  have w1 := Int.mul_nonneg (show 0 ≤ g.2.2.2 by omega) h0
  have w2 := Int.mul_nonneg (show 0 ≤ g.2.2.2 by omega) w1
  have w3 := Int.mul_nonneg (show 0 ≤ g.2.2.2 by omega) w2
  refine decide_eq_false (fun h => ?_)
  rw [hs] at h
  omega
