-- LOWEST TERMS of what is the same fraction; the inverse by cofactors
theorem zg_mul (k a b c d : Int) (hk : k ≠ 0) (hd : d ≠ 0) : zg (k * a) (k * b) (k * c) (k * d) = k * zg a b c d := by
  have e : ((Int.gcd (Int.gcd (k * a) (k * b)) (Int.gcd (k * c) (k * d)) : Nat) : Int) = k.natAbs * (Int.gcd (Int.gcd a b) (Int.gcd c d) : Nat) := by
    have h1 : Int.gcd (k * a) (k * b) = k.natAbs * Int.gcd a b := Int.gcd_mul_left k a b
    have h2 : Int.gcd (k * c) (k * d) = k.natAbs * Int.gcd c d := Int.gcd_mul_left k c d
    rw [h1, h2]
    have h3 : Int.gcd ((k.natAbs * Int.gcd a b : Nat) : Int) ((k.natAbs * Int.gcd c d : Nat) : Int) = k.natAbs * Int.gcd (Int.gcd a b) (Int.gcd c d) := by
      rw [Int.natCast_mul, Int.natCast_mul, Int.gcd_mul_left, Int.natAbs_natCast]
    rw [h3, Int.natCast_mul]
  unfold zg
  rw [e]
  generalize ((Int.gcd (Int.gcd a b) (Int.gcd c d) : Nat) : Int) = g
  rcases Int.lt_or_lt_of_ne hk with k0 | k0
  · have ek : (k.natAbs : Int) = -k := by omega
    rcases Int.lt_or_lt_of_ne hd with d0 | d0
    · have h : ¬ k * d < 0 := by have := Int.mul_pos_of_neg_of_neg k0 d0; omega
      rw [if_neg h, if_pos d0, ek]
      grind
    · have h : k * d < 0 := Int.mul_neg_of_neg_of_pos k0 d0
      rw [if_pos h, if_neg (by omega), ek]
      grind
  · have ek : (k.natAbs : Int) = k := by omega
    rcases Int.lt_or_lt_of_ne hd with d0 | d0
    · have h : k * d < 0 := Int.mul_neg_of_pos_of_neg k0 d0
      rw [if_pos h, if_pos d0, ek]
      grind
    · have h : ¬ k * d < 0 := by have := Int.mul_pos k0 d0; omega
      rw [if_neg h, if_neg (by omega), ek]
theorem z_tdiv_mul (k a b : Int) (hk : k ≠ 0) : (k * a).tdiv (k * b) = a.tdiv b := by
  rcases Int.lt_or_lt_of_ne hk with k0 | k0
  · have e1 : k * a = -((-k) * a) := by grind
    have e2 : k * b = -((-k) * b) := by grind
    rw [e1, e2, Int.neg_tdiv, Int.tdiv_neg, Int.neg_neg]
    exact Int.mul_tdiv_mul_of_pos a b (by omega)
  · exact Int.mul_tdiv_mul_of_pos a b k0
theorem zl_mul (k a b c d : Int) (hk : k ≠ 0) (hd : d ≠ 0) : zl (k * a, k * b, k * c, k * d) = zl (a, b, c, d) := by
  unfold zl
  dsimp only
  rw [zg_mul k a b c d hk hd, z_tdiv_mul k a _ hk, z_tdiv_mul k b _ hk, z_tdiv_mul k c _ hk, z_tdiv_mul k d _ hk]
/-- four numbers by what divides them all -/
theorem zl_back (a b c d : Int) (hd : d ≠ 0) : a = zg a b c d * (zl (a, b, c, d)).1 ∧ b = zg a b c d * (zl (a, b, c, d)).2.1 ∧ c = zg a b c d * (zl (a, b, c, d)).2.2.1 ∧ d = zg a b c d * (zl (a, b, c, d)).2.2.2 := by
  have h := zgg_dvd a b c d
  have key : zg a b c d ∣ a ∧ zg a b c d ∣ b ∧ zg a b c d ∣ c ∧ zg a b c d ∣ d := by
    unfold zg
    split
    · exact ⟨Int.neg_dvd.mpr h.1, Int.neg_dvd.mpr h.2.1, Int.neg_dvd.mpr h.2.2.1, Int.neg_dvd.mpr h.2.2.2⟩
    · exact h
  unfold zl
  dsimp only
  exact ⟨(Int.mul_tdiv_cancel' key.1).symm, (Int.mul_tdiv_cancel' key.2.1).symm, (Int.mul_tdiv_cancel' key.2.2.1).symm, (Int.mul_tdiv_cancel' key.2.2.2).symm⟩
theorem zA_s (p q r a b c s f g h : Int) : zA p q r a b c (s * f) (s * g) (s * h) = s * zA p q r a b c f g h := by unfold zA; grind
theorem zB_s (p q r a b c s f g h : Int) : zB p q r a b c (s * f) (s * g) (s * h) = s * zB p q r a b c f g h := by unfold zB; grind
theorem zC_s (p q r a b c s f g h : Int) : zC p q r a b c (s * f) (s * g) (s * h) = s * zC p q r a b c f g h := by unfold zC; grind
/-- what the class lays when it divides -/
def kQ (p q r : Int) (v w : Int × Int × Int × Int) : Int × Int × Int × Int :=
  (w.2.2.2 * zA p q r v.1 v.2.1 v.2.2.1 (zU p q r w.1 w.2.1 w.2.2.1) (zV p q r w.1 w.2.1 w.2.2.1) (zW p q r w.1 w.2.1 w.2.2.1),
   w.2.2.2 * zB p q r v.1 v.2.1 v.2.2.1 (zU p q r w.1 w.2.1 w.2.2.1) (zV p q r w.1 w.2.1 w.2.2.1) (zW p q r w.1 w.2.1 w.2.2.1),
   w.2.2.2 * zC p q r v.1 v.2.1 v.2.2.1 (zU p q r w.1 w.2.1 w.2.2.1) (zV p q r w.1 w.2.1 w.2.2.1) (zW p q r w.1 w.2.1 w.2.2.1),
   v.2.2.2 * zN p q r w.1 w.2.1 w.2.2.1)
/-- both ways of dividing come to the same -/
theorem kQ_Q4 {p q r : Int} {v w : Int × Int × Int × Int} (hF : zF p q r = true) (hw : c_nz w) (hv : v.2.2.2 ≠ 0) (he : w.2.2.2 ≠ 0) : zl (kQ p q r v w) = zQ4 p q r v w := by
  obtain ⟨a, b, c, d⟩ := v
  obtain ⟨f, g, h, e⟩ := w
  dsimp only at hv he
  have hN : zN p q r f g h ≠ 0 := zN_ne hF hw
  unfold kQ zQ4 zQ
  dsimp only
  have hb := zl_back (zU p q r f g h) (zV p q r f g h) (zW p q r f g h) (zN p q r f g h) hN
  have hs := zg_ne (a := zU p q r f g h) (b := zV p q r f g h) (c := zW p q r f g h) hN
  unfold zl at hb
  dsimp only at hb
  generalize zg (zU p q r f g h) (zV p q r f g h) (zW p q r f g h) (zN p q r f g h) = G at *
  generalize (zU p q r f g h).tdiv G = k at *
  generalize (zV p q r f g h).tdiv G = l at *
  generalize (zW p q r f g h).tdiv G = m at *
  generalize (zN p q r f g h).tdiv G = x at *
  obtain ⟨hU, hV, hW, hX⟩ := hb
  have hY : ((Int.gcd e x : Nat) : Int) ≠ 0 := by
    have := Int.gcd_pos_of_ne_zero_left x he
    omega
  have hy := Int.mul_tdiv_cancel' (Int.gcd_dvd_left e x)
  have hx := Int.mul_tdiv_cancel' (Int.gcd_dvd_right e x)
  generalize ((Int.gcd e x : Nat) : Int) = Y at *
  generalize e.tdiv Y = y at *
  generalize x.tdiv Y = x' at *
  have g1 : e * zA p q r a b c (zU p q r f g h) (zV p q r f g h) (zW p q r f g h) = G * Y * (zA p q r a b c k l m * y) := by rw [hU, hV, hW, zA_s, ← hy]; grind
  have g2 : e * zB p q r a b c (zU p q r f g h) (zV p q r f g h) (zW p q r f g h) = G * Y * (zB p q r a b c k l m * y) := by rw [hU, hV, hW, zB_s, ← hy]; grind
  have g3 : e * zC p q r a b c (zU p q r f g h) (zV p q r f g h) (zW p q r f g h) = G * Y * (zC p q r a b c k l m * y) := by rw [hU, hV, hW, zC_s, ← hy]; grind
  have g4 : d * zN p q r f g h = G * Y * (d * x') := by rw [hX, ← hx]; grind
  have hx0 : x' ≠ 0 := by
    rintro rfl
    apply hN
    rw [hX, ← hx, Int.mul_zero, Int.mul_zero]
  rw [g1, g2, g3, g4]
  refine zl_mul _ _ _ _ _ (fun z => ?_) (fun z => ?_)
  · rcases Int.mul_eq_zero.mp z with z | z
    · exact hs z
    · exact hY z
  · rcases Int.mul_eq_zero.mp z with z | z
    · exact hv z
    · exact hx0 z
theorem kQ_b {p q r : Int} {v w : Int × Int × Int × Int} (hF : zF p q r = true) (hv : c_fb v) (hw : c_fb w) (hn : c_nz w) : zb 13500000000000000 (kQ p q r v w).1 ∧ zb 13500000000000000 (kQ p q r v w).2.1 ∧ zb 13500000000000000 (kQ p q r v w).2.2.1 ∧ zb 13500000000000000 (kQ p q r v w).2.2.2 ∧ (kQ p q r v w).2.2.2 ≠ 0 := by
  obtain ⟨hp, hq, hr⟩ := zF_b hF
  have hN0 := zN_ne hF hn
  obtain ⟨a1, a2, a3, a4, a5⟩ := hv
  obtain ⟨b1, b2, b3, b4, b5⟩ := hw
  have bU := zU_b hp hq hr b1 b2 b3
  have bV := zV_b hp hq hr b1 b2 b3
  have bW := zW_b hp hq hr b1 b2 b3
  have bN := zN_b hp hq hr b1 b2 b3
  have he : zb 150 w.2.2.2 := ⟨by omega, by omega⟩
  have hd : zb 150 v.2.2.2 := ⟨by omega, by omega⟩
  unfold kQ
  dsimp only
  refine ⟨zb_m he (zA_b hp hq hr a1 a2 a3 bU bV bW) (by decide), zb_m he (zB_b hp hq hr a1 a2 a3 bU bV bW) (by decide), zb_m he (zC_b hp hq hr a1 a2 a3 bU bV bW) (by decide), zb_m hd bN (by decide), ?_⟩
  intro z
  rcases Int.mul_eq_zero.mp z with z | z
  · omega
  · exact hN0 z
