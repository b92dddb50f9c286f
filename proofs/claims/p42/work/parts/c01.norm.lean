-- NORMS OF QUOTIENTS: THEIR SIGNS
theorem zN_mul (p q r a b c f g h : Int) : zN p q r (zA p q r a b c f g h) (zB p q r a b c f g h) (zC p q r a b c f g h) = zN p q r a b c * zN p q r f g h := by
  unfold zN zA zB zC
  grind
theorem zU_A (p q r f g h : Int) : zA p q r f g h (zU p q r f g h) (zV p q r f g h) (zW p q r f g h) = zN p q r f g h := by
  unfold zA zU zV zW zT zS zN
  grind
theorem zU_B (p q r f g h : Int) : zB p q r f g h (zU p q r f g h) (zV p q r f g h) (zW p q r f g h) = 0 := by
  unfold zB zU zV zW zT zS
  grind
theorem zU_C (p q r f g h : Int) : zC p q r f g h (zU p q r f g h) (zV p q r f g h) (zW p q r f g h) = 0 := by
  unfold zC zU zV zW zT zS
  grind
theorem zN_00 (p q r n : Int) : zN p q r n 0 0 = n * (n * n) := by
  unfold zN
  grind
theorem zN_U {p q r f g h : Int} (h0 : zN p q r f g h ≠ 0) : zN p q r (zU p q r f g h) (zV p q r f g h) (zW p q r f g h) = zN p q r f g h * zN p q r f g h := by
  have e := zN_mul p q r f g h (zU p q r f g h) (zV p q r f g h) (zW p q r f g h)
  rw [zU_A, zU_B, zU_C, zN_00] at e
  exact (Int.eq_of_mul_eq_mul_left h0 e).symm
theorem z_cube {G x B : Int} (hG : 0 < G) (h : G * (G * (G * x)) = B) (hB : 0 ≤ B) : 0 ≤ x := by
  by_cases hx : 0 ≤ x
  · exact hx
  · exfalso
    have h1 : G * x < 0 := Int.mul_neg_of_pos_of_neg hG (by omega)
    have h2 : G * (G * x) < 0 := Int.mul_neg_of_pos_of_neg hG h1
    have h3 : G * (G * (G * x)) < 0 := Int.mul_neg_of_pos_of_neg hG h2
    omega
theorem zg_pos {a b c d : Int} (hd : 0 < d) : 0 < zg a b c d ∧ zg a b c d ∣ a ∧ zg a b c d ∣ b ∧ zg a b c d ∣ c ∧ zg a b c d ∣ d := by
  have h := zgg_pos (a := a) (b := b) (c := c) (d := d) (by omega)
  have e : zg a b c d = ((Int.gcd (Int.gcd a b) (Int.gcd c d) : Nat) : Int) := by
    unfold zg
    rw [if_neg (by omega)]
  rw [e]
  exact ⟨by omega, zgg_dvd a b c d⟩
theorem zl_nn {p q r : Int} {z : Int × Int × Int × Int} (hd : 0 < z.2.2.2) (h : 0 ≤ zN p q r z.1 z.2.1 z.2.2.1) : 0 ≤ zN p q r (zl z).1 (zl z).2.1 (zl z).2.2.1 := by
  obtain ⟨g0, g1, g2, g3, -⟩ := zg_pos (a := z.1) (b := z.2.1) (c := z.2.2.1) hd
  refine z_cube (G := zg z.1 z.2.1 z.2.2.1 z.2.2.2) (B := zN p q r z.1 z.2.1 z.2.2.1) g0 ?_ h
  rw [← zN_s]
  unfold zl
  dsimp only
  rw [Int.mul_comm _ (z.1.tdiv _), Int.mul_comm _ (z.2.1.tdiv _), Int.mul_comm _ (z.2.2.1.tdiv _), Int.tdiv_mul_cancel g1, Int.tdiv_mul_cancel g2, Int.tdiv_mul_cancel g3]
theorem zQ4_nn {p q r : Int} {g f : Int × Int × Int × Int} (hg : 1 ≤ g.2.2.2) (hf : 1 ≤ f.2.2.2) (hn : 0 ≤ zN p q r g.1 g.2.1 g.2.2.1) (hp : 0 < zN p q r f.1 f.2.1 f.2.2.1) : 0 ≤ zN p q r (zQ4 p q r g f).1 (zQ4 p q r g f).2.1 (zQ4 p q r g f).2.2.1 := by
  have hU := zN_U (p := p) (q := q) (r := r) (f := f.1) (g := f.2.1) (h := f.2.2.1) (by omega)
  obtain ⟨g0, g1, g2, g3, g4⟩ := zg_pos (a := zU p q r f.1 f.2.1 f.2.2.1) (b := zV p q r f.1 f.2.1 f.2.2.1) (c := zW p q r f.1 f.2.1 f.2.2.1) hp
  unfold zQ4
  have hx : 0 < (zN p q r f.1 f.2.1 f.2.2.1).tdiv (zg (zU p q r f.1 f.2.1 f.2.2.1) (zV p q r f.1 f.2.1 f.2.2.1) (zW p q r f.1 f.2.1 f.2.2.1) (zN p q r f.1 f.2.1 f.2.2.1)) := Int.tdiv_pos_of_pos_of_dvd hp (Int.le_of_lt g0) g4
  have hk : 0 ≤ zN p q r ((zU p q r f.1 f.2.1 f.2.2.1).tdiv (zg (zU p q r f.1 f.2.1 f.2.2.1) (zV p q r f.1 f.2.1 f.2.2.1) (zW p q r f.1 f.2.1 f.2.2.1) (zN p q r f.1 f.2.1 f.2.2.1))) ((zV p q r f.1 f.2.1 f.2.2.1).tdiv (zg (zU p q r f.1 f.2.1 f.2.2.1) (zV p q r f.1 f.2.1 f.2.2.1) (zW p q r f.1 f.2.1 f.2.2.1) (zN p q r f.1 f.2.1 f.2.2.1))) ((zW p q r f.1 f.2.1 f.2.2.1).tdiv (zg (zU p q r f.1 f.2.1 f.2.2.1) (zV p q r f.1 f.2.1 f.2.2.1) (zW p q r f.1 f.2.1 f.2.2.1) (zN p q r f.1 f.2.1 f.2.2.1))) := by
    refine z_cube (G := zg (zU p q r f.1 f.2.1 f.2.2.1) (zV p q r f.1 f.2.1 f.2.2.1) (zW p q r f.1 f.2.1 f.2.2.1) (zN p q r f.1 f.2.1 f.2.2.1)) (B := zN p q r f.1 f.2.1 f.2.2.1 * zN p q r f.1 f.2.1 f.2.2.1) g0 ?_ (Int.mul_nonneg (Int.le_of_lt hp) (Int.le_of_lt hp))
    rw [← zN_s, Int.mul_comm _ ((zU p q r f.1 f.2.1 f.2.2.1).tdiv _), Int.mul_comm _ ((zV p q r f.1 f.2.1 f.2.2.1).tdiv _), Int.mul_comm _ ((zW p q r f.1 f.2.1 f.2.2.1).tdiv _), Int.tdiv_mul_cancel g1, Int.tdiv_mul_cancel g2, Int.tdiv_mul_cancel g3, hU]
  unfold zQ
  dsimp only
  generalize (zU p q r f.1 f.2.1 f.2.2.1).tdiv (zg (zU p q r f.1 f.2.1 f.2.2.1) (zV p q r f.1 f.2.1 f.2.2.1) (zW p q r f.1 f.2.1 f.2.2.1) (zN p q r f.1 f.2.1 f.2.2.1)) = k at *
  generalize (zV p q r f.1 f.2.1 f.2.2.1).tdiv (zg (zU p q r f.1 f.2.1 f.2.2.1) (zV p q r f.1 f.2.1 f.2.2.1) (zW p q r f.1 f.2.1 f.2.2.1) (zN p q r f.1 f.2.1 f.2.2.1)) = l at *
  generalize (zW p q r f.1 f.2.1 f.2.2.1).tdiv (zg (zU p q r f.1 f.2.1 f.2.2.1) (zV p q r f.1 f.2.1 f.2.2.1) (zW p q r f.1 f.2.1 f.2.2.1) (zN p q r f.1 f.2.1 f.2.2.1)) = m at *
  generalize (zN p q r f.1 f.2.1 f.2.2.1).tdiv (zg (zU p q r f.1 f.2.1 f.2.2.1) (zV p q r f.1 f.2.1 f.2.2.1) (zW p q r f.1 f.2.1 f.2.2.1) (zN p q r f.1 f.2.1 f.2.2.1)) = x at *
  have hgp : 0 < Int.gcd f.2.2.2 x := Int.gcd_pos_of_ne_zero_right _ (by omega)
  have hgl : ((Int.gcd f.2.2.2 x : Nat) : Int) ∣ f.2.2.2 := by first | exact Int.gcd_dvd_left _ _ | exact Int.gcd_dvd_left
  have hgr : ((Int.gcd f.2.2.2 x : Nat) : Int) ∣ x := by first | exact Int.gcd_dvd_right _ _ | exact Int.gcd_dvd_right
  have hy : 0 < f.2.2.2.tdiv (Int.gcd f.2.2.2 x : Nat) := Int.tdiv_pos_of_pos_of_dvd (by omega) (by omega) hgl
  have hz : 0 < x.tdiv (Int.gcd f.2.2.2 x : Nat) := Int.tdiv_pos_of_pos_of_dvd hx (by omega) hgr
  generalize f.2.2.2.tdiv (Int.gcd f.2.2.2 x : Nat) = y at *
  generalize x.tdiv (Int.gcd f.2.2.2 x : Nat) = w at *
  refine zl_nn (z := (_, _, _, _)) (Int.mul_pos (by omega) hz) ?_
  dsimp only
  rw [Int.mul_comm _ y, Int.mul_comm _ y, Int.mul_comm _ y, zN_s, zN_mul]
  have h1 := Int.mul_nonneg hn hk
  exact Int.mul_nonneg (by omega) (Int.mul_nonneg (by omega) (Int.mul_nonneg (by omega) h1))
theorem z_flo_ge {p q r a b c d : Int} (hp : zb 3 p) (hq : zb 3 q) (hr : zb 3 r) (ha : zb 150 a) (hb : zb 150 b) (hc : zb 150 c) (hd : 1 ≤ d ∧ d ≤ 150) : ∀ (n : Nat) (lo hi : Int32), -4096 ≤ lo.toInt → hi.toInt ≤ 4096 → hi.toInt = lo.toInt + 2 ^ n → 0 ≤ zN p q r (a - lo.toInt * d) b c →
    lo.toInt ≤ (z_flo p q r a b c d n lo hi).toInt ∧ 0 ≤ zN p q r (a - (z_flo p q r a b c d n lo hi).toInt * d) b c := by
  intro n
  induction n with
  | zero =>
    intro lo hi h1 h2 h3 h4
    rw [z_flo]
    exact ⟨Int.le_refl _, h4⟩
  | succ n ih =>
    intro lo hi h1 h2 h3 h4
    have hpow : (2 : Int) ^ (n + 1) = 2 ^ n + 2 ^ n := by rw [Int.pow_succ]; omega
    have hpos : (0 : Int) < 2 ^ n := Int.pow_pos (by decide)
    have hm := z_mid h1 h2 (by rw [h3, hpow]) (Int.le_of_lt hpos)
    rw [z_flo]
    have hA : zb 620000 (a - ((lo + hi) / 2).toInt * d) := by
      have w : zb 4096 ((lo + hi) / 2).toInt := by unfold zb; omega
      have hd' : zb 150 d := ⟨by omega, hd.2⟩
      exact zb_s ha (zb_m w hd' (Int.le_refl _)) (by decide)
    have hB : zb 9223372036854775807 (zN p q r (a - ((lo + hi) / 2).toInt * d) b c) := zN_bnd hp hq hr hA hb hc _ (by decide) (by decide) (by decide)
    by_cases hs : z_sg (zN p q r (a - ((lo + hi) / 2).toInt * d) b c) < 0
    · rw [if_pos hs]
      exact ih lo _ h1 (by omega) (by omega) h4
    · rw [if_neg hs]
      rw [z_sg_lt hB] at hs
      have i := ih ((lo + hi) / 2) hi (by omega) h2 (by omega) (by omega)
      exact ⟨by omega, i.2⟩
theorem z_fl_ge {p q r a b c d : Int} (hp : zb 3 p) (hq : zb 3 q) (hr : zb 3 r) (ha : zb 150 a) (hb : zb 150 b) (hc : zb 150 c) (hd : 1 ≤ d ∧ d ≤ 150) (h : 0 ≤ zN p q r a b c) : 0 ≤ (z_fl p q r a b c d).toInt ∧ 0 ≤ zN p q r (a - (z_fl p q r a b c d).toInt * d) b c := by
  have hB : zb 9223372036854775807 (zN p q r a b c) := zN_bnd hp hq hr (zb_w ha (by decide : (150 : Int) ≤ 20000)) hb hc _ (by decide) (by decide) (by decide)
  have e0 : ((-4096 : Int32) + 4096) / 2 = 0 := by decide +kernel
  have e1 : a - (0 : Int32).toInt * d = a := by rw [show (0 : Int32).toInt = 0 from rfl]; omega
  have i := z_flo_ge hp hq hr ha hb hc hd 12 0 4096 (by decide) (by decide) (by decide) (by rw [e1]; exact h)
  have e : z_fl p q r a b c d = z_flo p q r a b c d 12 0 4096 := by
    unfold z_fl
    rw [z_flo, e0, e1, if_neg]
    rw [z_sg_lt hB]
    omega
  rw [e]
  exact ⟨i.1, i.2⟩
