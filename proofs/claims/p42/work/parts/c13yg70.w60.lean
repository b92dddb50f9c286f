-- UNIT: v of STATE START is 1 or more; so the ROUND is small where what it tells can be a VALUE
theorem zN_pos2 {p q r a b c : Int} (hp : zb 3 p) (hq : zb 3 q) (hr : zb 3 r) (hb : zb 150 b) (hc : zb 150 c) (ha : 3900 ≤ a) : 0 < zN p q r a b c := by
  obtain ⟨h1, h2, h3⟩ := zN_parts hp hq hr hb hc
  rw [zN_a]
  generalize b * p + c * (p * p + 2 * q) = T at h1
  generalize b * b * (-q) + b * c * (-(p * q) - 3 * r) + c * c * (q * q - 2 * p * r) = S at h2
  generalize r * (b * b * b + b * b * c * p - b * c * c * q + c * c * c * r) = N at h3
  unfold zb at *
  have g1 : 3900 * 1200 ≤ a * (a + T) := Int.mul_le_mul ha (by omega) (by decide) (by omega)
  have g2 : 3900 * 3600000 ≤ a * (a * (a + T) + S) := Int.mul_le_mul ha (by omega) (by decide) (by omega)
  omega
theorem zN_neg2 {p q r a b c : Int} (hp : zb 3 p) (hq : zb 3 q) (hr : zb 3 r) (hb : zb 150 b) (hc : zb 150 c) (ha : a ≤ -3900) : zN p q r a b c < 0 := by
  have e : zN p q r a b c = -zN p q r (-a) (-b) (-c) := by unfold zN; grind
  have := zN_pos2 hp hq hr (zb_n hb) (zb_n hc) (show 3900 ≤ -a by omega)
  omega
/-- above the FLOOR by less than 1 -/
theorem z_fl_lt1 {p q r a b c d : Int} (hp : zb 3 p) (hq : zb 3 q) (hr : zb 3 r) (ha : zb 150 a) (hb : zb 150 b) (hc : zb 150 c) (hd : 1 ≤ d ∧ d ≤ 150) (h0 : 0 ≤ zN p q r a b c) : zN p q r (a - ((z_fl p q r a b c d).toInt + 1) * d) b c < 0 := by
  have h := z_flo_b hp hq hr ha hb hc hd 13 (-4096) 4096 (by decide) (by decide) (by decide) (Or.inl rfl) (Or.inl rfl)
  have e : z_flo p q r a b c d 13 (-4096) 4096 = z_fl p q r a b c d := rfl
  rw [e] at h
  obtain ⟨h1, h2, h3, h4⟩ := h
  obtain ⟨k1, k2⟩ := z_fl_ge hp hq hr ha hb hc hd h0
  generalize (z_fl p q r a b c d).toInt = F at *
  rcases h4 with h4 | h4
  · exfalso
    have e2 : F = 4095 := by omega
    rw [e2] at k2
    unfold zb at ha
    have := zN_neg2 hp hq hr hb hc (show a - 4095 * d ≤ -3900 by omega)
    omega
  · exact h4
theorem zA_1 (p q r k l m : Int) : zA p q r 1 0 0 k l m = k ∧ zB p q r 1 0 0 k l m = l ∧ zC p q r 1 0 0 k l m = m := by
  unfold zA zB zC
  refine ⟨?_, ?_, ?_⟩ <;> grind
/-- adj times e - f -/
theorem zU_sh (p q r f g h e : Int) : zA p q r (zU p q r f g h) (zV p q r f g h) (zW p q r f g h) (e - f) (-g) (-h) = zU p q r f g h * e - zN p q r f g h ∧ zB p q r (zU p q r f g h) (zV p q r f g h) (zW p q r f g h) (e - f) (-g) (-h) = zV p q r f g h * e ∧ zC p q r (zU p q r f g h) (zV p q r f g h) (zW p q r f g h) (e - f) (-g) (-h) = zW p q r f g h * e := by
  have a := zU_A p q r f g h
  have b := zU_B p q r f g h
  have c := zU_C p q r f g h
  generalize zU p q r f g h = U at *
  generalize zV p q r f g h = V at *
  generalize zW p q r f g h = W at *
  unfold zA zB zC at *
  refine ⟨?_, ?_, ?_⟩ <;> grind
theorem zN_n (p q r a b c : Int) : zN p q r (-a) (-b) (-c) = -zN p q r a b c := by
  unfold zN
  grind
/-- lowest terms of what is 1 or more -/
theorem zl_sh {p q r : Int} {z : Int × Int × Int × Int} (hd : 0 < z.2.2.2) (h : 0 ≤ zN p q r (z.1 - z.2.2.2) z.2.1 z.2.2.1) : 0 ≤ zN p q r ((zl z).1 - (zl z).2.2.2) (zl z).2.1 (zl z).2.2.1 := by
  obtain ⟨g0, g1, g2, g3, g4⟩ := zg_pos (a := z.1) (b := z.2.1) (c := z.2.2.1) hd
  refine z_cube (G := zg z.1 z.2.1 z.2.2.1 z.2.2.2) (B := zN p q r (z.1 - z.2.2.2) z.2.1 z.2.2.1) g0 ?_ h
  rw [← zN_s]
  unfold zl
  dsimp only
  rw [Int.mul_sub, Int.mul_comm _ (z.1.tdiv _), Int.mul_comm _ (z.2.1.tdiv _), Int.mul_comm _ (z.2.2.1.tdiv _), Int.mul_comm _ (z.2.2.2.tdiv _), Int.tdiv_mul_cancel g1, Int.tdiv_mul_cancel g2, Int.tdiv_mul_cancel g3, Int.tdiv_mul_cancel g4]
/-- 1 by f, for f above 0, 1 at most -/
theorem zQ_ge1 {p q r f g h e : Int} (he : 1 ≤ e) (hp : 0 < zN p q r f g h) (h1 : zN p q r (f - e) g h ≤ 0) : 0 ≤ zN p q r ((zQ4 p q r (1, 0, 0, 1) (f, g, h, e)).1 - (zQ4 p q r (1, 0, 0, 1) (f, g, h, e)).2.2.2) (zQ4 p q r (1, 0, 0, 1) (f, g, h, e)).2.1 (zQ4 p q r (1, 0, 0, 1) (f, g, h, e)).2.2.1 := by
  have hU := zN_U (p := p) (q := q) (r := r) (f := f) (g := g) (h := h) (by omega)
  obtain ⟨g0, g1, g2, g3, g4⟩ := zg_pos (a := zU p q r f g h) (b := zV p q r f g h) (c := zW p q r f g h) hp
  have key : 0 ≤ zN p q r (zU p q r f g h * e - zN p q r f g h) (zV p q r f g h * e) (zW p q r f g h * e) := by
    have em := zN_mul p q r (zU p q r f g h) (zV p q r f g h) (zW p q r f g h) (e - f) (-g) (-h)
    obtain ⟨a, b, c⟩ := zU_sh p q r f g h e
    have en : zN p q r (e - f) (-g) (-h) = -zN p q r (f - e) g h := by
      rw [← zN_n, show -(f - e) = e - f by omega]
    rw [a, b, c, hU, en] at em
    rw [em]
    exact Int.mul_nonneg (sq_nn _) (by omega)
  have hx : 0 < (zN p q r f g h).tdiv (zg (zU p q r f g h) (zV p q r f g h) (zW p q r f g h) (zN p q r f g h)) := Int.tdiv_pos_of_pos_of_dvd hp (Int.le_of_lt g0) g4
  have c1 := Int.tdiv_mul_cancel g1
  have c2 := Int.tdiv_mul_cancel g2
  have c3 := Int.tdiv_mul_cancel g3
  have c4 := Int.tdiv_mul_cancel g4
  unfold zQ4 zQ
  dsimp only
  generalize zg (zU p q r f g h) (zV p q r f g h) (zW p q r f g h) (zN p q r f g h) = G at *
  generalize (zU p q r f g h).tdiv G = k at *
  generalize (zV p q r f g h).tdiv G = l at *
  generalize (zW p q r f g h).tdiv G = m at *
  generalize (zN p q r f g h).tdiv G = x at *
  have hgp : 0 < Int.gcd e x := Int.gcd_pos_of_ne_zero_right _ (by omega)
  have hgl : ((Int.gcd e x : Nat) : Int) ∣ e := by first | exact Int.gcd_dvd_left _ _ | exact Int.gcd_dvd_left
  have hgr : ((Int.gcd e x : Nat) : Int) ∣ x := by first | exact Int.gcd_dvd_right _ _ | exact Int.gcd_dvd_right
  have hz : 0 < x.tdiv (Int.gcd e x : Nat) := Int.tdiv_pos_of_pos_of_dvd hx (by omega) hgr
  have c5 := Int.tdiv_mul_cancel hgl
  have c6 := Int.tdiv_mul_cancel hgr
  generalize hH : ((Int.gcd e x : Nat) : Int) = H at *
  have hH0 : 0 < H := by omega
  generalize e.tdiv H = y at *
  generalize x.tdiv H = w at *
  obtain ⟨z1, z2, z3⟩ := zA_1 p q r k l m
  refine zl_sh (z := (_, _, _, _)) (by dsimp only; omega) ?_
  dsimp only
  rw [z1, z2, z3, Int.one_mul]
  refine z_cube (G := G * H) (B := zN p q r (zU p q r f g h * e - zN p q r f g h) (zV p q r f g h * e) (zW p q r f g h * e)) (Int.mul_pos g0 hH0) ?_ key
  rw [← zN_s, ← c1, ← c2, ← c3, ← c4, ← c5, ← c6]
  congr 1
  · grind
  · grind
  · grind
theorem lbk_alk {N : Nat → Int32} {last : Nat} : ∀ (n k m : Nat), lbk N last n k = some m → alk N m last = true := by
  intro n
  induction n with
  | zero => intro k m h; cases h
  | succ n ih =>
    intro k m h
    unfold lbk at h
    by_cases c : alk N k last = true
    · rw [if_pos c] at h
      cases h
      exact c
    · rw [if_neg c] at h
      exact ih _ _ h
theorem q_pe_alk (N : Nat → Int32) : ∀ (j : Nat) (q : Nat × Nat), q_pe N j = some q → alk N q.1 (q.1 + q.2) = true := by
  intro j
  induction j with
  | zero => intro q h; cases h
  | succ j ih =>
    intro q h
    unfold q_pe at h
    cases e : q_pe N j with
    | some s =>
      rw [e] at h
      cases h
      exact ih _ e
    | none =>
      rw [e] at h
      cases e2 : lbk N (j + 1) (j + 1) 0 with
      | none =>
        rw [e2] at h
        cases h
      | some k =>
        rw [e2] at h
        cases h
        have a := lbk_alk _ _ _ e2
        have b := lbk_lt N (j + 1) _ _ _ e2
        dsimp only
        rw [show k + (j + 1 - k) = j + 1 by omega]
        exact a
/-- v behind a STEP is 1 or more -/
theorem q_v1 {N : Nat → Int32} {P : Nat → Int64} (w : rw_ok N) (q : q_ok N P) (on : ¬ N 3 = 0) {j : Nat} (hj : j < r_k N) : 0 ≤ zN (r_v N 0) (r_v N 1) (r_v N 2) (r_v N (153 + 8 * (j + 1) + 4) - r_v N (153 + 8 * (j + 1) + 7)) (r_v N (153 + 8 * (j + 1) + 5)) (r_v N (153 + 8 * (j + 1) + 6)) := by
  have hF : zF (r_v N 0) (r_v N 1) (r_v N 2) = true := w.1
  obtain ⟨hp, hq, hr⟩ := zF_b hF
  have s := (q.2 on).2.1 j hj
  have st := q_st_of w q on (j := j) (by omega)
  obtain ⟨b1, b2⟩ := q_st_fb w.1 st
  have he : q_e N j = false := s.1
  have nz : c_nz (q_f N j) := k_iz_nz he
  have s6 := s.2.2.2.2.2.1
  have bb := (w.2.1 on).2.2 (j + 1) (by omega)
  obtain ⟨v0, v1, v2, v3⟩ := bb.2
  have pos : 0 < zN (r_v N 0) (r_v N 1) (r_v N 2) (q_f N j).1 (q_f N j).2.1 (q_f N j).2.2.1 ∧ zN (r_v N 0) (r_v N 1) (r_v N 2) ((q_f N j).1 - (q_f N j).2.2.2) (q_f N j).2.1 (q_f N j).2.2.1 ≤ 0 ∧ 1 ≤ (q_f N j).2.2.2 := by
    have ne := zN_ne hF nz
    have f0 : 0 ≤ zN (r_v N 0) (r_v N 1) (r_v N 2) (q_f0 N j).1 (q_f0 N j).2.1 (q_f0 N j).2.2.1 ∧ zN (r_v N 0) (r_v N 1) (r_v N 2) ((q_f0 N j).1 - (q_f0 N j).2.2.2) (q_f0 N j).2.1 (q_f0 N j).2.2.1 ≤ 0 ∧ 1 ≤ (q_f0 N j).2.2.2 := by
      obtain ⟨a0, a1, a2, a3⟩ := st.1
      have l := z_fl_lt1 hp hq hr a0 a1 a2 a3 st.2.2.1
      have g := (z_fl_ge hp hq hr a0 a1 a2 a3 st.2.2.1).2
      refine ⟨g, ?_, b1.2.2.2.1⟩
      have e : (q_f0 N j).1 - (q_f0 N j).2.2.2 = r_v N (153 + 8 * j) - ((q_fu N j).toInt + 1) * r_v N (153 + 8 * j + 3) := by
        unfold q_f0
        dsimp only
        rw [Int.add_mul, Int.one_mul]
        omega
      rw [e]
      exact Int.le_of_lt l
    have g0 : 0 ≤ zN (r_v N 0) (r_v N 1) (r_v N 2) (q_g0 N j).1 (q_g0 N j).2.1 (q_g0 N j).2.2.1 ∧ zN (r_v N 0) (r_v N 1) (r_v N 2) ((q_g0 N j).1 - (q_g0 N j).2.2.2) (q_g0 N j).2.1 (q_g0 N j).2.2.1 ≤ 0 ∧ 1 ≤ (q_g0 N j).2.2.2 := by
      obtain ⟨a0, a1, a2, a3⟩ := st.2.1
      have l := z_fl_lt1 hp hq hr a0 a1 a2 a3 st.2.2.2.1
      have g := (z_fl_ge hp hq hr a0 a1 a2 a3 st.2.2.2.1).2
      refine ⟨g, ?_, b2.2.2.2.1⟩
      have e : (q_g0 N j).1 - (q_g0 N j).2.2.2 = r_v N (153 + 8 * j + 4) - ((q_fv N j).toInt + 1) * r_v N (153 + 8 * j + 7) := by
        unfold q_g0
        dsimp only
        rw [Int.add_mul, Int.one_mul]
        omega
      rw [e]
      exact Int.le_of_lt l
    have c : 0 ≤ zN (r_v N 0) (r_v N 1) (r_v N 2) (q_f N j).1 (q_f N j).2.1 (q_f N j).2.2.1 ∧ zN (r_v N 0) (r_v N 1) (r_v N 2) ((q_f N j).1 - (q_f N j).2.2.2) (q_f N j).2.1 (q_f N j).2.2.1 ≤ 0 ∧ 1 ≤ (q_f N j).2.2.2 := by
      unfold q_f
      split
      · exact g0
      · exact f0
    exact ⟨by omega, c.2⟩
  have k := zQ_ge1 pos.2.2 pos.1 pos.2.1
  have eQ : zQ4 (r_v N 0) (r_v N 1) (r_v N 2) (1, 0, 0, 1) ((q_f N j).1, (q_f N j).2.1, (q_f N j).2.2.1, (q_f N j).2.2.2) = qi N (153 + 8 * (j + 1) + 4) := by
    refine (z4_qi s6 ?_).symm
    have nx := s.2.2.2.2.2.2.2.1
    unfold z_nxt at nx
    rw [Bool.and_eq_true] at nx
    have fb : c_fb (q_f N j) := by
      unfold q_f
      split
      · exact b2
      · exact b1
    obtain ⟨z1, z2, z3, z4', z5⟩ := zQ4_b (g := (1, 0, 0, 1)) hF ⟨⟨by decide, by decide⟩, ⟨by decide, by decide⟩, ⟨by decide, by decide⟩, by decide, by decide⟩ fb nz
    have zc := nx.1
    rw [zcan_z (zb_w z1 (by decide)) (zb_w z2 (by decide)) (zb_w z3 (by decide)) (zb_w z4' (by decide))] at zc
    exact ⟨zc.1, zc.2.1, zc.2.2.1, z5, zc.2.2.2⟩
  rw [eQ] at k
  exact k
-- SUMS THAT ARE NOT BEYOND
theorem q_ti_x {a b : Int64} (ha : 0 ≤ a.toInt) (hb : 0 ≤ b.toInt) (h : (q_ti false a b).2 = false) : (q_ti false a b).1.toInt = a.toInt * b.toInt := by
  rw [(q_ti_f h).2]
  have h' : (false || (!decide (b = 0) && decide (9223372036854775807 / b < a))) = false := h
  by_cases h0 : b = 0
  · subst h0
    rw [Int64.mul_zero, show (0 : Int64).toInt = 0 from rfl, Int.mul_zero]
  · rw [decide_eq_false h0, Bool.not_false, Bool.true_and, Bool.false_or, decide_eq_false_iff_not] at h'
    have hb0 : b.toInt ≠ 0 := fun q => h0 (Int64.toInt_inj.mp q)
    rw [Int64.lt_iff_toInt_lt, Int64.toInt_div, show (9223372036854775807 : Int64).toInt = 9223372036854775807 from rfl] at h'
    have hd : (9223372036854775807 : Int).tdiv b.toInt = 9223372036854775807 / b.toInt := Int.tdiv_eq_ediv_of_nonneg (by decide)
    have hle : (9223372036854775807 : Int) / b.toInt ≤ 9223372036854775807 := Int.ediv_le_self _ (by decide)
    have hge : 0 ≤ (9223372036854775807 : Int) / b.toInt := Int.ediv_nonneg (by decide) hb
    rw [hd, Int.bmod_eq_of_le_mul_two (by omega) (by omega)] at h'
    have h1 : a.toInt ≤ 9223372036854775807 / b.toInt := by omega
    have h2 : a.toInt * b.toInt ≤ 9223372036854775807 := (Int.le_ediv_iff_mul_le (by omega)).mp h1
    have h3 : 0 ≤ a.toInt * b.toInt := Int.mul_nonneg ha hb
    rw [Int64.toInt_mul, Int.bmod_eq_of_le_mul_two (by omega) (by omega)]
theorem q_pl_x {a b : Int64} (ha : 0 ≤ a.toInt) (hb : 0 ≤ b.toInt) (h : (q_pl false a b).2 = false) : (q_pl false a b).1.toInt = a.toInt + b.toInt := by
  rw [(q_pl_f h).2]
  have h' : (false || decide (9223372036854775807 - b < a)) = false := h
  rw [Bool.false_or, decide_eq_false_iff_not, Int64.lt_iff_toInt_lt, Int64.toInt_sub, show (9223372036854775807 : Int64).toInt = 9223372036854775807 from rfl, Int.bmod_eq_of_le_mul_two (by have := b.toInt_lt; omega) (by have := b.toInt_lt; omega)] at h'
  rw [Int64.toInt_add, Int.bmod_eq_of_le_mul_two (by omega) (by omega)]
theorem q_row_x {x y z a b : Int64} (hx : 0 ≤ x.toInt) (hy : 0 ≤ y.toInt) (hz : 0 ≤ z.toInt) (ha : 0 ≤ a.toInt) (hb : 0 ≤ b.toInt) (h : (q_row false x y z a b).2 = false) : (q_row false x y z a b).1.toInt = x.toInt + (y.toInt * a.toInt + z.toInt * b.toInt) := by
  have n1 := q_ti_nn (B := false) hy ha
  have n2 := q_ti_nn (B := false) hz hb
  unfold q_row at h ⊢
  have h1 := (q_pl_f h).1
  have h2 := (q_pl_f h1).1
  have h3 := (q_ti_f h2).1
  have e1 := q_ti_x hy ha h3
  rw [h3] at h h1 h2 ⊢
  have e2 := q_ti_x hz hb h2
  rw [h2] at h h1 ⊢
  have n3 := q_pl_nn (B := false) n1 n2
  have e3 := q_pl_x n1 n2 h1
  rw [h1] at h ⊢
  rw [q_pl_x hx n3 h, e3, e1, e2]
-- THREE NUMBERS TOGETHER
def ta3 (x y : Int × Int × Int) : Int × Int × Int := (x.1 + y.1, x.2.1 + y.2.1, x.2.2 + y.2.2)
def td3 (x y : Int × Int × Int) : Int × Int × Int := (x.1 - y.1, x.2.1 - y.2.1, x.2.2 - y.2.2)
def ts3 (n : Int) (x : Int × Int × Int) : Int × Int × Int := (n * x.1, n * x.2.1, n * x.2.2)
def w3 (z : Int × Int × Int × Int) : Int × Int × Int := (z.1, z.2.1, z.2.2.1)
/-- not below 0 -/
def nn3 (p q r : Int) (x : Int × Int × Int) : Prop := 0 ≤ zN p q r x.1 x.2.1 x.2.2
theorem nn3_a {p q r : Int} (hF : zF p q r = true) {x y : Int × Int × Int} (hx : nn3 p q r x) (hy : nn3 p q r y) : nn3 p q r (ta3 x y) := by
  unfold nn3 at *
  unfold ta3
  exact zN_add hF hx hy
theorem nn3_m {p q r : Int} {x y : Int × Int × Int} (hx : nn3 p q r x) (hy : nn3 p q r y) : nn3 p q r (tm p q r x y) := by
  unfold nn3 at *
  unfold tm
  dsimp only
  rw [zN_mul]
  exact Int.mul_nonneg hx hy
theorem nn3_q {p q r : Int} (x : Int × Int × Int) : nn3 p q r (tm p q r x x) := by
  unfold nn3 tm
  dsimp only
  rw [zN_mul]
  exact sq_nn _
theorem nn3_s {p q r n : Int} {x : Int × Int × Int} (hn : 0 ≤ n) (hx : nn3 p q r x) : nn3 p q r (ts3 n x) := by
  unfold nn3 at *
  unfold ts3
  dsimp only
  rw [zN_s]
  exact Int.mul_nonneg hn (Int.mul_nonneg hn (Int.mul_nonneg hn hx))
theorem nn3_i {p q r n : Int} (hn : 0 ≤ n) : nn3 p q r (n, 0, 0) := by
  unfold nn3
  dsimp only
  rw [zN_00]
  exact Int.mul_nonneg hn (Int.mul_nonneg hn hn)
theorem w6_cn {n : Int} (h : 0 ≤ n * (n * n)) : 0 ≤ n := by
  rcases Int.lt_or_le n 0 with c | c
  · exfalso
    have := Int.mul_neg_of_neg_of_pos c (Int.mul_pos_of_neg_of_neg c c)
    omega
  · exact c
theorem nn3_z {p q r n : Int} (h : nn3 p q r (n, 0, 0)) : 0 ≤ n := by
  unfold nn3 at h
  dsimp only at h
  rw [zN_00] at h
  rcases Int.lt_or_le n 0 with c | c
  · exfalso
    have := Int.mul_neg_of_neg_of_pos c (Int.mul_pos_of_neg_of_neg c c)
    omega
  · exact c
theorem w6_e1 (p q r : Int) (x y : Int × Int × Int) : tm p q r x (td3 y (1, 0, 0)) = td3 (tm p q r x y) x := by
  obtain ⟨x0, x1, x2⟩ := x
  obtain ⟨y0, y1, y2⟩ := y
  unfold td3 tm zA zB zC
  dsimp only
  refine Prod.ext ?_ (Prod.ext ?_ ?_) <;> (try dsimp only) <;> (first | rfl | grind)
theorem w6_e3 (p q r : Int) (x : Int × Int × Int) : tm p q r (td3 x (1, 0, 0)) (ta3 x (1, 0, 0)) = td3 (tm p q r x x) (1, 0, 0) := by
  obtain ⟨x0, x1, x2⟩ := x
  unfold td3 ta3 tm zA zB zC
  dsimp only
  refine Prod.ext ?_ (Prod.ext ?_ ?_) <;> (try dsimp only) <;> (first | rfl | grind)
theorem w6_e4 (p q r a b : Int) (x y : Int × Int × Int) : tm p q r (ts3 a x) (ts3 b y) = ts3 (a * b) (tm p q r x y) := by
  obtain ⟨x0, x1, x2⟩ := x
  obtain ⟨y0, y1, y2⟩ := y
  unfold ts3 tm zA zB zC
  dsimp only
  refine Prod.ext ?_ (Prod.ext ?_ ?_) <;> (try dsimp only) <;> (first | rfl | grind)
theorem w6_e5 (x y : Int × Int × Int) : ta3 (td3 x y) y = x := by
  obtain ⟨x0, x1, x2⟩ := x
  obtain ⟨y0, y1, y2⟩ := y
  unfold ta3 td3
  dsimp only
  refine Prod.ext ?_ (Prod.ext ?_ ?_) <;> (try dsimp only) <;> (first | rfl | grind)
theorem w6_e6 (p q r l : Int) (x y : Int × Int × Int) : td3 (tm p q r x y) (l, 0, 0) = ta3 (tm p q r (td3 x (l, 0, 0)) y) (ts3 l (td3 y (1, 0, 0))) := by
  obtain ⟨x0, x1, x2⟩ := x
  obtain ⟨y0, y1, y2⟩ := y
  unfold td3 ta3 ts3 tm zA zB zC
  dsimp only
  refine Prod.ext ?_ (Prod.ext ?_ ?_) <;> (try dsimp only) <;> (first | rfl | grind)
theorem w6_e7 (p q r b : Int) (x y : Int × Int × Int) : tm p q r x (ts3 b y) = ts3 b (tm p q r x y) := by
  obtain ⟨x0, x1, x2⟩ := x
  obtain ⟨y0, y1, y2⟩ := y
  unfold ts3 tm zA zB zC
  dsimp only
  refine Prod.ext ?_ (Prod.ext ?_ ?_) <;> (try dsimp only) <;> (first | rfl | grind)
theorem w6_e8 (p q r : Int) (x y z : Int × Int × Int) : tm p q r x (ta3 y z) = ta3 (tm p q r x y) (tm p q r x z) := by
  obtain ⟨x0, x1, x2⟩ := x
  obtain ⟨y0, y1, y2⟩ := y
  obtain ⟨z0, z1, z2⟩ := z
  unfold ta3 tm zA zB zC
  dsimp only
  refine Prod.ext ?_ (Prod.ext ?_ ?_) <;> (try dsimp only) <;> (first | rfl | grind)
theorem w6_e9 (p q r b : Int) (x y : Int × Int × Int) : tm p q r (ts3 b x) y = ts3 b (tm p q r x y) := by
  obtain ⟨x0, x1, x2⟩ := x
  obtain ⟨y0, y1, y2⟩ := y
  unfold ts3 tm zA zB zC
  dsimp only
  refine Prod.ext ?_ (Prod.ext ?_ ?_) <;> (try dsimp only) <;> (first | rfl | grind)
theorem w6_e10 (p q r : Int) (x y : Int × Int × Int) : td3 (tm p q r x y) (1, 0, 0) = ta3 (tm p q r x (td3 y (1, 0, 0))) (td3 x (1, 0, 0)) := by
  obtain ⟨x0, x1, x2⟩ := x
  obtain ⟨y0, y1, y2⟩ := y
  unfold td3 ta3 tm zA zB zC
  dsimp only
  refine Prod.ext ?_ (Prod.ext ?_ ?_) <;> (try dsimp only) <;> (first | rfl | grind)
theorem w6_e11 (x : Int × Int × Int) : ta3 x (1, 0, 0) = ta3 (td3 x (1, 0, 0)) (2, 0, 0) := by
  obtain ⟨x0, x1, x2⟩ := x
  unfold ta3 td3
  dsimp only
  refine Prod.ext ?_ (Prod.ext ?_ ?_) <;> (try dsimp only) <;> (first | rfl | grind)
theorem ts3_ts (a b : Int) (x : Int × Int × Int) : ts3 a (ts3 b x) = ts3 (a * b) x := by
  obtain ⟨x0, x1, x2⟩ := x
  unfold ts3
  dsimp only
  refine Prod.ext ?_ (Prod.ext ?_ ?_) <;> (try dsimp only) <;> (first | rfl | grind)
theorem ts3_1 (x : Int × Int × Int) : ts3 1 x = x := by
  obtain ⟨x0, x1, x2⟩ := x
  unfold ts3
  dsimp only
  refine Prod.ext ?_ (Prod.ext ?_ ?_) <;> (try dsimp only) <;> (first | rfl | grind)
theorem ts3_inj {n : Int} (hn : n ≠ 0) {x y : Int × Int × Int} (h : ts3 n x = ts3 n y) : x = y := by
  have h0 := congrArg Prod.fst h
  have h1 := congrArg (fun t => t.2.1) h
  have h2 := congrArg (fun t => t.2.2) h
  unfold ts3 at h0 h1 h2
  dsimp only at h0 h1 h2
  exact Prod.ext (Int.eq_of_mul_eq_mul_left hn h0) (Prod.ext (Int.eq_of_mul_eq_mul_left hn h1) (Int.eq_of_mul_eq_mul_left hn h2))
theorem tm_ns (p q r n : Int) (y : Int × Int × Int) : tm p q r (n, 0, 0) y = ts3 n y := tm_n p q r n y
theorem tm_sn (p q r n : Int) (y : Int × Int × Int) : tm p q r y (n, 0, 0) = ts3 n y := by rw [tm_c, tm_ns]
/-- what is rational but for its place: the number by which all is told -/
def w6_pi (p y1 y2 : Int) : Int × Int × Int := (y1 + p * y2, -y2, 0)
/-- how far the two other roots are apart -/
def w6_dl (p q : Int) : Int × Int × Int := (-4 * q - p * p, -2 * p, 3)
theorem w6_adj (p q r : Int) (w : Int × Int × Int) : ts3 4 (tj p q r w) = ta3 (tm p q r (zT p q r w.1 w.2.1 w.2.2 - w.1, -w.2.1, -w.2.2) (zT p q r w.1 w.2.1 w.2.2 - w.1, -w.2.1, -w.2.2)) (tm p q r (tm p q r (w6_pi p w.2.1 w.2.2) (w6_pi p w.2.1 w.2.2)) (w6_dl p q)) := by
  obtain ⟨w0, w1, w2⟩ := w
  unfold ts3 ta3 tj tm w6_pi w6_dl zA zB zC zU zV zW zT zS
  dsimp only
  refine Prod.ext ?_ (Prod.ext ?_ ?_) <;> (try dsimp only) <;> (first | rfl | grind)
theorem w6_pis (p c y1 y2 : Int) : w6_pi p (c * y1) (c * y2) = ts3 c (w6_pi p y1 y2) := by
  unfold w6_pi ts3
  dsimp only
  refine Prod.ext ?_ (Prod.ext ?_ ?_) <;> (try dsimp only) <;> (first | rfl | grind)
set_option maxRecDepth 100000 in
theorem w6_dl_ok : (z7.all fun p => z7.all fun q => z7.all fun r => !zF p q r || decide (0 ≤ zN p q r (8 * (-4 * q - p * p) - 1) (8 * (-2 * p) - 0) (8 * 3 - 0))) = true := by decide +kernel
theorem w6_dl_nn {p q r : Int} (hF : zF p q r = true) : nn3 p q r (td3 (ts3 8 (w6_dl p q)) (1, 0, 0)) := by
  obtain ⟨⟨a1, a2⟩, ⟨b1, b2⟩, ⟨c1, c2⟩⟩ := zF_b hF
  have h1 := List.all_eq_true.mp w6_dl_ok p (z7m a1 a2)
  have h2 := List.all_eq_true.mp h1 q (z7m b1 b2)
  have h3 := List.all_eq_true.mp h2 r (z7m c1 c2)
  rw [hF, Bool.not_true, Bool.false_or, decide_eq_true_eq] at h3
  exact h3
theorem w6_k1 {a z c l n : Int} (k : a + c * c * z = 4 * n) : 724808 * a + c * c * (301 * 301 * 8 * z - l) = 2899232 * n - l * (c * c) := by grind
theorem w6_k2 {a z c : Int} (k : a + c * c * z = 0) : 724808 * a + c * c * (301 * 301 * 8 * z - 0) = 0 := by grind
/-- a number made of whole parts of a rational plane: its norm tells how near the plane's number is to 0 -/
theorem w6_L {p q r : Int} (hF : zF p q r = true) {w : Int × Int × Int} {c l y1 y2 : Int} (hl : 0 ≤ l) (e1 : w.2.1 = c * y1) (e2 : w.2.2 = c * y2) (hw : nn3 p q r (td3 w (l, 0, 0))) (hp : nn3 p q r (td3 (ts3 301 (w6_pi p y1 y2)) (1, 0, 0))) : l * (c * c) ≤ 2899232 * zN p q r w.1 w.2.1 w.2.2 := by
  have hw0 : nn3 p q r w := by
    have h := nn3_a hF hw (nn3_i (p := p) (q := q) (r := r) hl)
    rw [w6_e5] at h
    exact h
  have hd := w6_dl_nn hF
  have ad := w6_adj p q r w
  have t4 : tm p q r w (ts3 4 (tj p q r w)) = (4 * zN p q r w.1 w.2.1 w.2.2, 0, 0) := by
    rw [w6_e7, tm_j]
    rfl
  rw [ad, w6_e8, e1, e2, w6_pis, w6_e4, w6_e9, w6_e7] at t4
  rw [← e1, ← e2] at t4
  have hp1 : nn3 p q r (ta3 (ts3 301 (w6_pi p y1 y2)) (1, 0, 0)) := by
    rw [w6_e11]
    exact nn3_a hF hp (nn3_i (by decide))
  have qq : nn3 p q r (td3 (tm p q r (ts3 301 (w6_pi p y1 y2)) (ts3 301 (w6_pi p y1 y2))) (1, 0, 0)) := by
    rw [← w6_e3]
    exact nn3_m hp hp1
  have q1 : nn3 p q r (td3 (tm p q r (tm p q r (ts3 301 (w6_pi p y1 y2)) (ts3 301 (w6_pi p y1 y2))) (ts3 8 (w6_dl p q))) (1, 0, 0)) := by
    rw [w6_e10]
    exact nn3_a hF (nn3_m (nn3_q _) hd) qq
  have q0 : nn3 p q r (tm p q r (tm p q r (ts3 301 (w6_pi p y1 y2)) (ts3 301 (w6_pi p y1 y2))) (ts3 8 (w6_dl p q))) := by
    have h := nn3_a hF q1 (nn3_i (p := p) (q := q) (r := r) (n := 1) (by decide))
    rw [w6_e5] at h
    exact h
  have big : nn3 p q r (td3 (tm p q r w (tm p q r (tm p q r (ts3 301 (w6_pi p y1 y2)) (ts3 301 (w6_pi p y1 y2))) (ts3 8 (w6_dl p q)))) (l, 0, 0)) := by
    rw [w6_e6]
    exact nn3_a hF (nn3_m hw q0) (nn3_s hl q1)
  rw [w6_e4, w6_e4, w6_e7] at big
  have fin := nn3_a hF (nn3_s (n := 724808) (by decide) (nn3_m hw0 (nn3_q (zT p q r w.1 w.2.1 w.2.2 - w.1, -w.2.1, -w.2.2)))) (nn3_s (sq_nn c) big)
  generalize tm p q r w (tm p q r (zT p q r w.1 w.2.1 w.2.2 - w.1, -w.2.1, -w.2.2) (zT p q r w.1 w.2.1 w.2.2 - w.1, -w.2.1, -w.2.2)) = a at *
  generalize tm p q r w (tm p q r (tm p q r (w6_pi p y1 y2) (w6_pi p y1 y2)) (w6_dl p q)) = z at *
  generalize zN p q r w.1 w.2.1 w.2.2 = n at *
  obtain ⟨a0, a1, a2⟩ := a
  obtain ⟨z0, z1, z2⟩ := z
  have k0 := congrArg Prod.fst t4
  have k1 := congrArg (fun t => t.2.1) t4
  have k2 := congrArg (fun t => t.2.2) t4
  unfold ta3 ts3 at k0 k1 k2
  dsimp only at k0 k1 k2
  have e : ta3 (ts3 724808 (a0, a1, a2)) (ts3 (c * c) (td3 (ts3 (301 * 301 * 8) (z0, z1, z2)) (l, 0, 0))) = (2899232 * n - l * (c * c), 0, 0) := Prod.ext (w6_k1 k0) (Prod.ext (w6_k2 k1) (w6_k2 k2))
  rw [e] at fin
  have := nn3_z fin
  omega
theorem w6_ng {p q r : Int} {x : Int × Int × Int} (h : ¬ nn3 p q r (td3 x (1, 0, 0))) : nn3 p q r (td3 (1, 0, 0) x) := by
  unfold nn3 td3 at *
  dsimp only at *
  rw [show 1 - x.1 = -(x.1 - 1) by omega, show 0 - x.2.1 = -(x.2.1 - 0) by omega, show 0 - x.2.2 = -(x.2.2 - 0) by omega, zN_n]
  omega
theorem w6_k3 (p y1 y2 s : Int) : (s - 301 * (s * (y1 + p * y2)), 301 * (s * y2), (0 : Int)) = ts3 s (td3 (1, 0, 0) (ts3 301 (w6_pi p y1 y2))) := by
  unfold ts3 td3 w6_pi
  dsimp only
  refine Prod.ext ?_ (Prod.ext ?_ ?_) <;> (try dsimp only) <;> grind
theorem w6_k4 (p y1 y2 s : Int) : (-s - 301 * (s * (y1 + p * y2)), 301 * (s * y2), (0 : Int)) = ts3 (-s) (td3 (1, 0, 0) (ts3 301 (w6_pi p (-y1) (-y2)))) := by
  unfold ts3 td3 w6_pi
  dsimp only
  refine Prod.ext ?_ (Prod.ext ?_ ?_) <;> (try dsimp only) <;> grind
theorem w6_k5 (p y1 y2 z1 z2 m n : Int) : ta3 (n - 301 * (z2 * (y1 + p * y2)), 301 * (z2 * y2), 0) (m - 301 * (-y2 * (z1 + p * z2)), 301 * (-y2 * z2), 0) = (n + m - 301 * (y1 * z2 - z1 * y2), 0, 0) := by
  unfold ta3
  dsimp only
  refine Prod.ext ?_ (Prod.ext ?_ ?_) <;> (try dsimp only) <;> (first | rfl | grind)
theorem w6_k6 (p y1 y2 z1 z2 m n : Int) : ta3 (n - 301 * (-z2 * (y1 + p * y2)), 301 * (-z2 * y2), 0) (m - 301 * (y2 * (z1 + p * z2)), 301 * (y2 * z2), 0) = (n + m + 301 * (y1 * z2 - z1 * y2), 0, 0) := by
  unfold ta3
  dsimp only
  refine Prod.ext ?_ (Prod.ext ?_ ?_) <;> (try dsimp only) <;> (first | rfl | grind)
theorem w6_ab {p q r y1 y2 : Int} (h1 : nn3 p q r (td3 (1, 0, 0) (ts3 301 (w6_pi p y1 y2)))) (h2 : nn3 p q r (td3 (1, 0, 0) (ts3 301 (w6_pi p (-y1) (-y2))))) (s : Int) : nn3 p q r ((s.natAbs : Int) - 301 * (s * (y1 + p * y2)), 301 * (s * y2), 0) := by
  rcases Int.le_total 0 s with c | c
  · have e : ((s.natAbs : Int) - 301 * (s * (y1 + p * y2)), 301 * (s * y2), (0 : Int)) = ts3 s (td3 (1, 0, 0) (ts3 301 (w6_pi p y1 y2))) := by
      rw [show (s.natAbs : Int) = s by omega]
      exact w6_k3 p y1 y2 s
    rw [e]
    exact nn3_s c h1
  · have e : ((s.natAbs : Int) - 301 * (s * (y1 + p * y2)), 301 * (s * y2), (0 : Int)) = ts3 (-s) (td3 (1, 0, 0) (ts3 301 (w6_pi p (-y1) (-y2)))) := by
      rw [show (s.natAbs : Int) = -s by omega]
      exact w6_k4 p y1 y2 s
    rw [e]
    exact nn3_s (by omega) h2
/-- two planes the numbers of which are near 0 are one -/
theorem w6_det {p q r : Int} (hF : zF p q r = true) {y1 y2 z1 z2 : Int} (b : zb 150 y2) (b' : zb 150 z2) (h1 : nn3 p q r (td3 (1, 0, 0) (ts3 301 (w6_pi p y1 y2)))) (h2 : nn3 p q r (td3 (1, 0, 0) (ts3 301 (w6_pi p (-y1) (-y2))))) (h3 : nn3 p q r (td3 (1, 0, 0) (ts3 301 (w6_pi p z1 z2)))) (h4 : nn3 p q r (td3 (1, 0, 0) (ts3 301 (w6_pi p (-z1) (-z2))))) : y1 * z2 - z1 * y2 = 0 := by
  have a1 := nn3_a hF (w6_ab h1 h2 z2) (w6_ab h3 h4 (-y2))
  have a2 := nn3_a hF (w6_ab h1 h2 (-z2)) (w6_ab h3 h4 y2)
  rw [show ((-y2).natAbs : Int) = y2.natAbs by omega] at a1
  rw [show ((-z2).natAbs : Int) = z2.natAbs by omega] at a2
  unfold zb at b b'
  have b1 : (y2.natAbs : Int) ≤ 150 := by omega
  have b2 : (z2.natAbs : Int) ≤ 150 := by omega
  generalize (y2.natAbs : Int) = m at *
  generalize (z2.natAbs : Int) = n at *
  have e1 := w6_k5 p y1 y2 z1 z2 m n
  have e2 := w6_k6 p y1 y2 z1 z2 m n
  rw [e1] at a1
  rw [e2] at a2
  have k1 := nn3_z a1
  have k2 := nn3_z a2
  generalize y1 * z2 - z1 * y2 = d at *
  omega
theorem w6_ix (p q r : Int) (V : Int × Int × Int) : V.2.1 * (tj p q r V).2.2 - V.2.2 * (tj p q r V).2.1 = zN p q r (V.2.1 + p * V.2.2) (-V.2.2) 0 := by
  obtain ⟨a, b, c⟩ := V
  unfold tj zV zW zT zN
  dsimp only
  grind
theorem w6_k7 {n z t1 t2 b c f g : Int} (k1 : z * f = n * t1) (k2 : z * g = n * t2) : n * (b * t2 - c * t1) = z * (b * g - f * c) := by grind
/-- a number and its inverse don't lie in one plane with 1 -/
theorem w6_nz {p q r : Int} (hF : zF p q r = true) {V F : Int × Int × Int} {n : Int} (hn : n ≠ 0) (h : tm p q r V F = (n, 0, 0)) (hv : ¬ (V.2.1 = 0 ∧ V.2.2 = 0)) : V.2.1 * F.2.2 - F.2.1 * V.2.2 ≠ 0 := by
  intro d
  have k : tm p q r F (tm p q r V (tj p q r V)) = tm p q r (n, 0, 0) (tj p q r V) := by rw [← h, tm_c p q r V F, tm_a]
  rw [tm_j, tm_sn, tm_ns] at k
  have ix := w6_ix p q r V
  have k1 := congrArg (fun t => t.2.1) k
  have k2 := congrArg (fun t => t.2.2) k
  unfold ts3 at k1 k2
  dsimp only at k1 k2
  generalize (tj p q r V).2.1 = t1 at *
  generalize (tj p q r V).2.2 = t2 at *
  have e : n * (V.2.1 * t2 - V.2.2 * t1) = zN p q r V.1 V.2.1 V.2.2 * (V.2.1 * F.2.2 - F.2.1 * V.2.2) := w6_k7 k1 k2
  rw [d, Int.mul_zero, ix] at e
  refine zN_ne hF (fun g => hv ?_) ((Int.mul_eq_zero.mp e).resolve_left hn)
  have g2 : V.2.2 = 0 := by have := g.2.1; omega
  have g1 := g.1
  rw [g2, Int.mul_zero, Int.add_zero] at g1
  exact ⟨g1, g2⟩
-- THE STEPS OF A COURSE
theorem w6_k8 {gd fd n Z zd : Int} (h : gd * n = Z * zd) : gd * fd * n = Z * (fd * zd) := by grind
/-- quotients, crosswise -/
theorem w6_cm {p q r : Int} {g f : Int × Int × Int × Int} (hF : zF p q r = true) (nz : c_nz f) (hg : g.2.2.2 ≠ 0) (hf : f.2.2.2 ≠ 0) : ts3 g.2.2.2 (tm p q r (w3 (zQ4 p q r g f)) (w3 f)) = ts3 (f.2.2.2 * (zQ4 p q r g f).2.2.2) (w3 g) := by
  rw [← kQ_Q4 (v := g) (w := f) hF nz hg hf]
  have hN := zN_ne hF nz
  have hd : (kQ p q r g f).2.2.2 ≠ 0 := by
    unfold kQ
    dsimp only
    exact Int.mul_ne_zero hg hN
  obtain ⟨z1, z2, z3, z4⟩ := zl_back (kQ p q r g f).1 (kQ p q r g f).2.1 (kQ p q r g f).2.2.1 (kQ p q r g f).2.2.2 hd
  have ez : zl ((kQ p q r g f).1, (kQ p q r g f).2.1, (kQ p q r g f).2.2.1, (kQ p q r g f).2.2.2) = zl (kQ p q r g f) := rfl
  rw [ez] at z1 z2 z3 z4
  generalize zg (kQ p q r g f).1 (kQ p q r g f).2.1 (kQ p q r g f).2.2.1 (kQ p q r g f).2.2.2 = Z at *
  generalize zl (kQ p q r g f) = z at *
  have hZ : Z ≠ 0 := fun h => hd (by rw [z4, h, Int.zero_mul])
  have a : ts3 Z (w3 z) = ts3 f.2.2.2 (tm p q r (w3 g) (tj p q r (w3 f))) := Prod.ext z1.symm (Prod.ext z2.symm z3.symm)
  have z4' : g.2.2.2 * zN p q r f.1 f.2.1 f.2.2.1 = Z * z.2.2.2 := z4
  refine ts3_inj hZ ?_
  have e1 : ts3 Z (ts3 g.2.2.2 (tm p q r (w3 z) (w3 f))) = ts3 g.2.2.2 (tm p q r (ts3 Z (w3 z)) (w3 f)) := by rw [w6_e9, ts3_ts, ts3_ts, Int.mul_comm]
  have ej : tm p q r (w3 f) (tj p q r (w3 f)) = (zN p q r f.1 f.2.1 f.2.2.1, 0, 0) := tm_j p q r (w3 f)
  rw [e1, a, w6_e9, tm_a, tm_c p q r (tj p q r (w3 f)), ej, tm_sn, ts3_ts, ts3_ts, ts3_ts]
  refine congrArg (fun n => ts3 n (w3 g)) ?_
  exact w6_k8 z4'
theorem w6_s {N : Nat → Int32} {P : Nat → Int64} (w : rw_ok N) (q : q_ok N P) (on : ¬ N 3 = 0) {j : Nat} (hj : j < r_k N) : c_nz (q_f N j) ∧ c_fb (q_f N j) ∧ c_fb (q_g N j) ∧ qi N (153 + 8 * (j + 1)) = zQ4 (r_v N 0) (r_v N 1) (r_v N 2) (q_g N j) (q_f N j) ∧ qi N (153 + 8 * (j + 1) + 4) = zQ4 (r_v N 0) (r_v N 1) (r_v N 2) (1, 0, 0, 1) (q_f N j) := by
  have hF : zF (r_v N 0) (r_v N 1) (r_v N 2) = true := w.1
  have s := (q.2 on).2.1 j hj
  have st := q_st_of w q on (j := j) (by omega)
  obtain ⟨b1, b2⟩ := q_st_fb w.1 st
  have he : q_e N j = false := s.1
  have nz : c_nz (q_f N j) := k_iz_nz he
  have bf : c_fb (q_f N j) := by
    unfold q_f
    split
    · exact b2
    · exact b1
  have bg : c_fb (q_g N j) := by
    unfold q_g
    split
    · exact b1
    · exact b2
  have bo : c_fb (1, 0, 0, 1) := ⟨⟨by decide, by decide⟩, ⟨by decide, by decide⟩, ⟨by decide, by decide⟩, by decide, by decide⟩
  exact ⟨nz, bf, bg, z4_qi s.2.2.2.2.1 (z_nxt_v4 hF bg bf nz s.2.2.2.2.2.2.1), z4_qi s.2.2.2.2.2.1 (z_nxt_v4 hF bo bf nz s.2.2.2.2.2.2.2.1)⟩
theorem w6_P {N : Nat → Int32} {P : Nat → Int64} (w : rw_ok N) (q : q_ok N P) (on : ¬ N 3 = 0) {j : Nat} (hj : j < r_k N) : (q_P N (j + 1) 0).toInt = (if q_t N j = true then (q_P N j 2).toInt else (q_P N j 1).toInt) ∧ (q_P N (j + 1) 1).toInt = (if q_t N j = true then (q_P N j 1).toInt else (q_P N j 2).toInt) ∧ (q_P N (j + 1) 2).toInt = (q_P N j 0).toInt + ((q_P N j 1).toInt * (q_fu N j).toInt + (q_P N j 2).toInt * (q_fv N j).toInt) ∧ 0 ≤ (q_fu N j).toInt ∧ 0 ≤ (q_fv N j).toInt ∧ 0 ≤ (q_P N j 0).toInt ∧ 0 ≤ (q_P N j 1).toInt ∧ 0 ≤ (q_P N j 2).toInt := by
  have s := (q.2 on).2.1 j hj
  have st := q_st_of w q on (j := j) (by omega)
  have nn := q_P_ge w q on (j := j) (by omega)
  have n0 := nn 0 (by decide)
  have n1 := nn 1 (by decide)
  have n2 := nn 2 (by decide)
  have a0 : 0 ≤ (q_fu N j).toInt := q_fl_nn w.1 st.1 st.2.2.1
  have b0 : 0 ≤ (q_fv N j).toInt := q_fl_nn w.1 st.2.1 st.2.2.2.1
  have e : q_P N (j + 1) = q_nx false (q_P N j) (q_fu N j).toInt64 (q_fv N j).toInt64 (q_t N j) := by
    show q_nx false (q_P N j) (N (641 + 3 * j)).toInt64 (N (641 + 3 * j + 1)).toInt64 (b1 (N (641 + 3 * j + 2))) = _
    rw [s.2.1, s.2.2.1, s.2.2.2.1, b1_b]
  have fl := s.2.2.2.2.2.2.2.2
  rw [s.2.1, s.2.2.1] at fl
  generalize q_P N j = g at *
  have ea : (q_fu N j).toInt64.toInt = (q_fu N j).toInt := Int32.toInt_toInt64 _
  have eb : (q_fv N j).toInt64.toInt = (q_fv N j).toInt := Int32.toInt_toInt64 _
  rw [← ea] at a0
  rw [← eb] at b0
  rw [← ea, ← eb]
  generalize (q_fu N j).toInt64 = a at *
  generalize (q_fv N j).toInt64 = b at *
  obtain ⟨h1, -⟩ := q_row_f (show (q_row (q_b false g a b).2 (g 6) (g 7) (g 8) a b).2 = false from fl)
  obtain ⟨h2, -⟩ := q_row_f (show (q_row (q_a false g a b).2 (g 3) (g 4) (g 5) a b).2 = false from h1)
  have c2 := q_row_x n0 n1 n2 a0 b0 (show (q_row false (g 0) (g 1) (g 2) a b).2 = false from h2)
  have e0 : q_nx false g a b (q_t N j) 0 = if q_t N j = true then g 2 else g 1 := rfl
  have e1 : q_nx false g a b (q_t N j) 1 = if q_t N j = true then g 1 else g 2 := rfl
  have e2 : q_nx false g a b (q_t N j) 2 = (q_row false (g 0) (g 1) (g 2) a b).1 := rfl
  rw [e, e0, e1, e2]
  refine ⟨?_, ?_, c2, a0, b0, n0, n1, n2⟩
  · split <;> rfl
  · split <;> rfl
/-- the FLOOR of v is 1 or more behind a STEP -/
theorem w6_b1 {N : Nat → Int32} {P : Nat → Int64} (w : rw_ok N) (q : q_ok N P) (on : ¬ N 3 = 0) {j : Nat} (hj : j + 1 ≤ r_k N) : 1 ≤ (q_fv N (j + 1)).toInt := by
  have hF : zF (r_v N 0) (r_v N 1) (r_v N 2) = true := w.1
  obtain ⟨hp, hq, hr⟩ := zF_b hF
  have v1 := q_v1 w q on (j := j) (by omega)
  have st := q_st_of w q on (j := j + 1) hj
  obtain ⟨a0, a1, a2, a3⟩ := st.2.1
  have l := z_fl_lt1 hp hq hr a0 a1 a2 a3 st.2.2.2.1
  have g := (z_fl_ge hp hq hr a0 a1 a2 a3 st.2.2.2.1).1
  have e : (q_fv N (j + 1)).toInt = (z_fl (r_v N 0) (r_v N 1) (r_v N 2) (N (153 + 8 * (j + 1) + 4)).toInt (N (153 + 8 * (j + 1) + 4 + 1)).toInt (N (153 + 8 * (j + 1) + 4 + 2)).toInt (N (153 + 8 * (j + 1) + 4 + 3)).toInt).toInt := rfl
  rw [e]
  by_cases c : (z_fl (r_v N 0) (r_v N 1) (r_v N 2) (N (153 + 8 * (j + 1) + 4)).toInt (N (153 + 8 * (j + 1) + 4 + 1)).toInt (N (153 + 8 * (j + 1) + 4 + 2)).toInt (N (153 + 8 * (j + 1) + 4 + 3)).toInt).toInt = 0
  · exfalso
    rw [c, Int.zero_add, Int.one_mul] at l
    have v1' : 0 ≤ zN (r_v N 0) (r_v N 1) (r_v N 2) ((N (153 + 8 * (j + 1) + 4)).toInt - (N (153 + 8 * (j + 1) + 4 + 3)).toInt) (N (153 + 8 * (j + 1) + 4 + 1)).toInt (N (153 + 8 * (j + 1) + 4 + 2)).toInt := v1
    omega
  · omega
theorem w6_P0 (N : Nat → Int32) : (q_P N 0 0).toInt = 1 ∧ (q_P N 0 1).toInt = 0 ∧ (q_P N 0 2).toInt = 0 := by
  have a : q_P N 0 0 = 1 := rfl
  have b : q_P N 0 1 = 0 := rfl
  have c : q_P N 0 2 = 0 := rfl
  rw [a, b, c]
  exact ⟨by decide, by decide, by decide⟩
theorem w6_C {N : Nat → Int32} {P : Nat → Int64} (w : rw_ok N) (q : q_ok N P) (on : ¬ N 3 = 0) {j : Nat} (hj : j + 1 < r_k N) : (q_P N (j + 1) 0).toInt + (q_P N (j + 1) 2).toInt ≤ (q_P N (j + 1 + 1) 2).toInt := by
  obtain ⟨-, -, c, a0, b0, n0, n1, n2⟩ := w6_P w q on hj
  have b1 := w6_b1 w q on (j := j) (by omega)
  have m1 := Int.mul_nonneg n1 a0
  have m2 := Int.mul_le_mul_of_nonneg_left b1 n2
  rw [Int.mul_one] at m2
  omega
/-- three STEPS double -/
theorem w6_d3 {N : Nat → Int32} {P : Nat → Int64} (w : rw_ok N) (q : q_ok N P) (on : ¬ N 3 = 0) {j : Nat} (hj : j + 4 ≤ r_k N) : 2 * (q_P N (j + 1) 2).toInt ≤ (q_P N (j + 1 + 1 + 1 + 1) 2).toInt := by
  have c1 := w6_C w q on (j := j) (by omega)
  have c2 := w6_C w q on (j := j + 1) (by omega)
  have c3 := w6_C w q on (j := j + 1 + 1) (by omega)
  obtain ⟨x0, x1, -, -, -, n0, n1, n2⟩ := w6_P w q on (j := j + 1) (by omega)
  obtain ⟨y0, y1, -, -, -, m0, m1, m2⟩ := w6_P w q on (j := j + 1 + 1) (by omega)
  have z0 := (w6_P w q on (j := j + 1 + 1 + 1) (by omega)).2.2.2.2.2.1
  cases t0 : q_t N (j + 1)
  · rw [t0, if_neg (by decide)] at x0 x1
    cases t1 : q_t N (j + 1 + 1)
    · rw [t1, if_neg (by decide)] at y0
      omega
    · rw [t1, if_pos rfl] at y0
      omega
  · rw [t0, if_pos rfl] at x0 x1
    omega
theorem w6_dbl {N : Nat → Int32} {P : Nat → Int64} (w : rw_ok N) (q : q_ok N P) (on : ¬ N 3 = 0) : ∀ i : Nat, 3 * i + 1 ≤ r_k N → ((2 ^ i : Nat) : Int) ≤ (q_P N (3 * i + 1) 2).toInt := by
  intro i
  induction i with
  | zero =>
    intro h
    obtain ⟨-, -, c, a0, b0, n0, n1, n2⟩ := w6_P w q on (j := 0) (by omega)
    have m1 := Int.mul_nonneg n1 a0
    have m2 := Int.mul_nonneg n2 b0
    have e := (w6_P0 N).1
    show (1 : Int) ≤ (q_P N (0 + 1) 2).toInt
    omega
  | succ i ih =>
    intro h
    have d := w6_d3 w q on (j := 3 * i) (by omega)
    have k := ih (by omega)
    have e : 3 * (i + 1) + 1 = 3 * i + 1 + 1 + 1 + 1 := by omega
    rw [e]
    have p2 : ((2 ^ (i + 1) : Nat) : Int) = 2 * ((2 ^ i : Nat) : Int) := by
      rw [Nat.pow_succ]
      omega
    omega
def w6_l : List Nat := [1, 0, 0, 1, 1, 1, 2, 3, 4, 6, 9, 13, 19, 28, 41, 60, 88, 129, 189, 277, 406, 595, 872, 1278, 1873, 2745, 4023, 5896, 8641, 12664, 18560, 27201, 39865, 58425, 85626, 125491, 183916, 269542, 395033, 578949, 848491, 1243524, 1822473, 2670964, 3914488, 5736961, 8407925, 12322413, 18059374, 26467299, 38789712, 56849086, 83316385, 122106097, 178955183, 262271568, 384377665, 563332848, 825604416, 1209982081, 1773314929, 2598919345, 3808901426]
set_option maxRecDepth 100000 in
theorem w6_l_ok : ((List.range 60).all fun j => decide (w6_l.getD (j + 3) 0 ≤ w6_l.getD j 0 + w6_l.getD (j + 2) 0)) = true := by decide +kernel
/-- how PRODUCT grows by WAY 0 -/
theorem w6_grow {N : Nat → Int32} {P : Nat → Int64} (w : rw_ok N) (q : q_ok N P) (on : ¬ N 3 = 0) (h4 : N 4 = 0) : ∀ j : Nat, j ≤ r_k N → j ≤ 60 → ((w6_l.getD j 0 : Nat) : Int) ≤ (q_P N j 0).toInt ∧ ((w6_l.getD (j + 1) 0 : Nat) : Int) ≤ (q_P N j 1).toInt ∧ ((w6_l.getD (j + 2) 0 : Nat) : Int) ≤ (q_P N j 2).toInt := by
  have nt : ∀ j, q_t N j = false := fun j => by
    unfold q_t
    rw [h4]
    rfl
  intro j
  induction j with
  | zero =>
    intro _ _
    obtain ⟨e0, e1, e2⟩ := w6_P0 N
    have l0 : w6_l.getD 0 0 = 1 := rfl
    have l1 : w6_l.getD (0 + 1) 0 = 0 := rfl
    have l2 : w6_l.getD (0 + 2) 0 = 0 := rfl
    rw [e0, e1, e2, l0, l1, l2]
    exact ⟨by decide, by decide, by decide⟩
  | succ j ih =>
    intro h h60
    obtain ⟨i0, i1, i2⟩ := ih (by omega) (by omega)
    obtain ⟨x0, x1, x2, a0, b0, n0, n1, n2⟩ := w6_P w q on (j := j) (by omega)
    rw [nt j, if_neg (by decide)] at x0 x1
    have lk := of_decide_eq_true (List.all_eq_true.mp w6_l_ok j (List.mem_range.mpr (by omega)))
    have e2 : j + 1 + 1 = j + 2 := rfl
    have e3 : j + 1 + 2 = j + 3 := rfl
    rw [e2, e3]
    have m1 := Int.mul_nonneg n1 a0
    refine ⟨by omega, by omega, ?_⟩
    cases j with
    | zero =>
      have m2 := Int.mul_nonneg n2 b0
      have f : w6_l.getD (0 + 2) 0 = 0 := rfl
      omega
    | succ j =>
      have b1 := w6_b1 w q on (j := j) (by omega)
      have m2 := Int.mul_le_mul_of_nonneg_left b1 n2
      rw [Int.mul_one] at m2
      omega
/-- what is left over, over what all is a multiple of -/
theorem w6_r {p q r d a u0 u1 u2 : Int} {e x : Int × Int × Int} (h : ts3 d x = tm p q r e (u0, u1, u2)) : ts3 d (td3 x (ts3 a e)) = tm p q r e (u0 - a * d, u1, u2) := by
  have h0 := congrArg Prod.fst h
  have h1 := congrArg (fun t => t.2.1) h
  have h2 := congrArg (fun t => t.2.2) h
  obtain ⟨e0, e1, e2⟩ := e
  obtain ⟨x0, x1, x2⟩ := x
  unfold ts3 tm zA zB zC at h0 h1 h2
  unfold ts3 td3 tm zA zB zC
  dsimp only at h0 h1 h2 ⊢
  refine Prod.ext ?_ (Prod.ext ?_ ?_)
  · dsimp only
    grind
  · dsimp only
    grind
  · dsimp only
    grind
/-- a STEP, told by whole numbers -/
theorem w6_n {p q r fd gd d d' : Int} {e e' x' F G U V : Int × Int × Int} (hf : fd ≠ 0) (hg : gd ≠ 0) (h1 : ts3 fd e' = tm p q r e F) (h2 : ts3 gd x' = tm p q r e G) (hU : ts3 gd (tm p q r U F) = ts3 (fd * d) G) (hV : ts3 1 (tm p q r V F) = ts3 (fd * d') (1, 0, 0)) : ts3 d x' = tm p q r e' U ∧ ts3 d' e = tm p q r e' V := by
  constructor
  · refine ts3_inj (n := fd * gd) (Int.mul_ne_zero hf hg) ?_
    have e1 : ts3 (fd * gd) (tm p q r e' U) = ts3 gd (tm p q r (ts3 fd e') U) := by rw [w6_e9, ts3_ts, Int.mul_comm]
    have e2 : ts3 (fd * gd) (ts3 d x') = ts3 (fd * d) (ts3 gd x') := by
      rw [ts3_ts, ts3_ts]
      exact congrArg (fun n => ts3 n x') (Int.mul_right_comm fd gd d)
    rw [e1, e2, h1, h2, tm_a, tm_c p q r F U, ← w6_e7 p q r gd e (tm p q r U F), hU, w6_e7]
  · refine ts3_inj hf ?_
    rw [ts3_1] at hV
    have e1 : ts3 fd (tm p q r e' V) = tm p q r (ts3 fd e') V := by rw [w6_e9]
    rw [e1, h1, tm_a, tm_c p q r F V, hV, w6_e7, tm_sn, ts3_ts, ts3_1]
theorem w6_x1 (A B C a b : Int) (e x y : Int × Int × Int) : ta3 (ts3 B (td3 x (ts3 a e))) (ta3 (ts3 C (td3 y (ts3 b e))) (ts3 (A + (B * a + C * b)) e)) = ta3 (ts3 A e) (ta3 (ts3 B x) (ts3 C y)) := by
  unfold ta3 td3 ts3
  dsimp only
  refine Prod.ext ?_ (Prod.ext ?_ ?_) <;> (try dsimp only) <;> grind
theorem w6_x2 (A B C a b : Int) (e x y : Int × Int × Int) : ta3 (ts3 C (td3 y (ts3 b e))) (ta3 (ts3 B (td3 x (ts3 a e))) (ts3 (A + (B * a + C * b)) e)) = ta3 (ts3 A e) (ta3 (ts3 B x) (ts3 C y)) := by
  unfold ta3 td3 ts3
  dsimp only
  refine Prod.ext ?_ (Prod.ext ?_ ?_) <;> (try dsimp only) <;> grind
theorem w6_x3 (A B C n : Int) (e y : Int × Int × Int) : ta3 (ts3 (A + B * n) e) (ts3 C y) = ta3 (ts3 A e) (ta3 (ts3 B (ts3 n e)) (ts3 C y)) := by
  unfold ta3 ts3
  dsimp only
  refine Prod.ext ?_ (Prod.ext ?_ ?_) <;> (try dsimp only) <;> grind
theorem w6_x4 (X C d : Int) (e y : Int × Int × Int) : ta3 (ts3 (d * X) e) (ts3 C (ts3 d y)) = ts3 d (ta3 (ts3 X e) (ts3 C y)) := by
  unfold ta3 ts3
  dsimp only
  refine Prod.ext ?_ (Prod.ext ?_ ?_) <;> (try dsimp only) <;> grind
theorem w6_x5 (X C d : Int) (e y : Int × Int × Int) : ta3 (ts3 (d * C) y) (ts3 X (ts3 d e)) = ts3 d (ta3 (ts3 X e) (ts3 C y)) := by
  unfold ta3 ts3
  dsimp only
  refine Prod.ext ?_ (Prod.ext ?_ ?_) <;> (try dsimp only) <;> grind
theorem w6_x6 (X C d v0 v1 v2 : Int) : td3 (d * X + C * v0, C * v1, C * v2) (C * d, 0, 0) = ta3 (d * X, 0, 0) (ts3 C (v0 - d, v1, v2)) := by
  unfold td3 ta3 ts3
  dsimp only
  refine Prod.ext ?_ (Prod.ext ?_ ?_) <;> (try dsimp only) <;> grind
theorem w6_x7 (X C d f0 f1 f2 : Int) : td3 (d * C + X * f0, X * f1, X * f2) (d * C, 0, 0) = ts3 X (f0, f1, f2) := by
  unfold td3 ts3
  dsimp only
  refine Prod.ext ?_ (Prod.ext ?_ ?_) <;> (try dsimp only) <;> grind
/-- all STATES over one, by whole numbers -/
def w6_I (N : Nat → Int32) (j : Nat) : Prop := ∃ e x y : Int × Int × Int, ts3 (qi N (153 + 8 * j)).2.2.2 x = tm (r_v N 0) (r_v N 1) (r_v N 2) e (w3 (qi N (153 + 8 * j))) ∧ ts3 (qi N (153 + 8 * j + 4)).2.2.2 y = tm (r_v N 0) (r_v N 1) (r_v N 2) e (w3 (qi N (153 + 8 * j + 4))) ∧ ta3 (ts3 (q_P N j 0).toInt e) (ta3 (ts3 (q_P N j 1).toInt x) (ts3 (q_P N j 2).toInt y)) = ((qi N 153).2.2.2 * (qi N 157).2.2.2, 0, 0)
theorem w6_inv {N : Nat → Int32} {P : Nat → Int64} (w : rw_ok N) (q : q_ok N P) (on : ¬ N 3 = 0) : ∀ j : Nat, j ≤ r_k N → w6_I N j := by
  have hF : zF (r_v N 0) (r_v N 1) (r_v N 2) = true := w.1
  intro j
  induction j with
  | zero =>
    intro _
    refine ⟨((qi N 153).2.2.2 * (qi N 157).2.2.2, 0, 0), ts3 (qi N 157).2.2.2 (w3 (qi N 153)), ts3 (qi N 153).2.2.2 (w3 (qi N 157)), ?_, ?_, ?_⟩
    · show ts3 (qi N 153).2.2.2 (ts3 (qi N 157).2.2.2 (w3 (qi N 153))) = tm (r_v N 0) (r_v N 1) (r_v N 2) ((qi N 153).2.2.2 * (qi N 157).2.2.2, 0, 0) (w3 (qi N 153))
      rw [ts3_ts, tm_ns]
    · show ts3 (qi N 157).2.2.2 (ts3 (qi N 153).2.2.2 (w3 (qi N 157))) = tm (r_v N 0) (r_v N 1) (r_v N 2) ((qi N 153).2.2.2 * (qi N 157).2.2.2, 0, 0) (w3 (qi N 157))
      rw [ts3_ts, tm_ns, Int.mul_comm]
    · obtain ⟨e0, e1, e2⟩ := w6_P0 N
      rw [e0, e1, e2]
      unfold ta3 ts3
      dsimp only
      refine Prod.ext ?_ (Prod.ext ?_ ?_) <;> (try dsimp only) <;> simp only [Int.one_mul, Int.zero_mul, Int.add_zero]
  | succ j ih =>
    intro hj
    obtain ⟨e, x, y, i1, i2, i3⟩ := ih (by omega)
    obtain ⟨nz, bf, bg, eu, ev⟩ := w6_s w q on (j := j) (by omega)
    obtain ⟨p0, p1, p2, -⟩ := w6_P w q on (j := j) (by omega)
    have fne : (q_f N j).2.2.2 ≠ 0 := by have := bf.2.2.2.1; omega
    have gne : (q_g N j).2.2.2 ≠ 0 := by have := bg.2.2.2.1; omega
    have cu := w6_cm hF nz gne fne
    have cv := w6_cm (g := (1, 0, 0, 1)) hF nz (show (1 : Int) ≠ 0 by decide) fne
    rw [← eu] at cu
    rw [← ev] at cv
    have cv' : ts3 1 (tm (r_v N 0) (r_v N 1) (r_v N 2) (w3 (qi N (153 + 8 * (j + 1) + 4))) (w3 (q_f N j))) = ts3 ((q_f N j).2.2.2 * (qi N (153 + 8 * (j + 1) + 4)).2.2.2) (1, 0, 0) := cv
    have r1 := w6_r (a := (q_fu N j).toInt) (u0 := (qi N (153 + 8 * j)).1) (u1 := (qi N (153 + 8 * j)).2.1) (u2 := (qi N (153 + 8 * j)).2.2.1) i1
    have r2 := w6_r (a := (q_fv N j).toInt) (u0 := (qi N (153 + 8 * j + 4)).1) (u1 := (qi N (153 + 8 * j + 4)).2.1) (u2 := (qi N (153 + 8 * j + 4)).2.2.1) i2
    have r1' : ts3 (q_f0 N j).2.2.2 (td3 x (ts3 (q_fu N j).toInt e)) = tm (r_v N 0) (r_v N 1) (r_v N 2) e (w3 (q_f0 N j)) := r1
    have r2' : ts3 (q_g0 N j).2.2.2 (td3 y (ts3 (q_fv N j).toInt e)) = tm (r_v N 0) (r_v N 1) (r_v N 2) e (w3 (q_g0 N j)) := r2
    cases ht : q_t N j
    · have ef : q_f N j = q_f0 N j := by unfold q_f; rw [ht, if_neg (by decide)]
      have eg : q_g N j = q_g0 N j := by unfold q_g; rw [ht, if_neg (by decide)]
      rw [ef, eg] at cu
      rw [ef] at cv' fne
      rw [eg] at gne
      rw [ht, if_neg (by decide)] at p0 p1
      obtain ⟨k1, k2⟩ := w6_n fne gne r1' r2' cu cv'
      refine ⟨_, _, _, k1, k2, ?_⟩
      rw [p0, p1, p2, ← i3]
      exact w6_x1 _ _ _ _ _ _ _ _
    · have ef : q_f N j = q_g0 N j := by unfold q_f; rw [ht, if_pos rfl]
      have eg : q_g N j = q_f0 N j := by unfold q_g; rw [ht, if_pos rfl]
      rw [ef, eg] at cu
      rw [ef] at cv' fne
      rw [eg] at gne
      rw [ht, if_pos rfl] at p0 p1
      obtain ⟨k1, k2⟩ := w6_n fne gne r2' r1' cu cv'
      refine ⟨_, _, _, k1, k2, ?_⟩
      rw [p0, p1, p2, ← i3]
      exact w6_x2 _ _ _ _ _ _ _ _
-- THE END
theorem w6_cub {a b M : Int} (hM : 0 < M) (hb : 0 ≤ b) (h : a * b = M * (M * M)) : b ≤ M * (M * M) := by
  have m3 : 0 < M * (M * M) := Int.mul_pos hM (Int.mul_pos hM hM)
  rw [← h] at m3 ⊢
  rcases Int.lt_or_le 0 a with c | c
  · have := Int.mul_le_mul_of_nonneg_right (show 1 ≤ a by omega) hb
    omega
  · exfalso
    have := Int.mul_nonpos_of_nonpos_of_nonneg c hb
    omega
theorem w6_c3 {W M : Int} (hM : 0 ≤ M) (h : W * (W * W) ≤ M * (M * M)) : W ≤ M := by
  rcases Int.lt_or_le M W with c | c
  · exfalso
    have a1 : M * M ≤ W * W := Int.mul_le_mul (by omega) (by omega) hM (by omega)
    have a2 : M * (M * M) ≤ M * (W * W) := Int.mul_le_mul_of_nonneg_left a1 hM
    have a3 : 0 < W * W := Int.mul_pos (by omega) (by omega)
    have a4 := Int.mul_lt_mul_of_pos_right c a3
    omega
  · exact c
theorem w6_big {l c M S : Int} (hl : 3000000000 ≤ l) (hc : 1000000000 ≤ c) (hM : 0 ≤ M ∧ M ≤ 3375000) (h : l * (c * c) ≤ 2899232 * S) (hS : S ≤ M * (M * M)) : False := by
  have c2 : (1000000000 : Int) * 1000000000 ≤ c * c := Int.mul_le_mul hc hc (by decide) (by omega)
  have l3 : (3000000000 : Int) * (1000000000 * 1000000000) ≤ l * (c * c) := Int.mul_le_mul hl c2 (by decide) (by omega)
  have m2 : M * M ≤ 3375000 * 3375000 := Int.mul_le_mul hM.2 hM.2 hM.1 (by decide)
  have m3 : M * (M * M) ≤ 3375000 * (3375000 * 3375000) := Int.mul_le_mul hM.2 m2 (sq_nn M) (by decide)
  omega
/-- m and c times a number, over what that is a multiple of -/
theorem w6_lin {p q r m c v0 v1 v2 : Int} {e : Int × Int × Int} : tm p q r e (m + c * v0, c * v1, c * v2) = ta3 (ts3 m e) (ts3 c (tm p q r e (v0, v1, v2))) := by
  obtain ⟨e0, e1, e2⟩ := e
  unfold tm ta3 ts3 zA zB zC
  dsimp only
  refine Prod.ext ?_ (Prod.ext ?_ ?_) <;> (try dsimp only) <;> grind
theorem w6_nm {p q r M : Int} {e o : Int × Int × Int} (h : tm p q r e o = (M, 0, 0)) : zN p q r e.1 e.2.1 e.2.2 * zN p q r o.1 o.2.1 o.2.2 = M * (M * M) := by
  rw [← zN_mul, ← zN_00 p q r M]
  have h0 := congrArg Prod.fst h
  have h1 := congrArg (fun t => t.2.1) h
  have h2 := congrArg (fun t => t.2.2) h
  unfold tm at h0 h1 h2
  dsimp only at h0 h1 h2
  rw [h0, h1, h2]
