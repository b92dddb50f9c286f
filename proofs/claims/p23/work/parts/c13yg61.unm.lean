-- UNIT: v of STATE START is 1 or more; so the ROUND is small where what it tells can be a VALUE
theorem zN_pos2 {p q r a b c : Int} (hp : zb 3 p) (hq : zb 3 q) (hr : zb 3 r) (hb : zb 150 b) (hc : zb 150 c) (ha : 3900 ≤ a) : 0 < zN p q r a b c := by
  obtain ⟨h1, h2, h3⟩ := zN_parts hp hq hr hb hc
  rw [zN_a]
  generalize b * p + c * (p * p + 2 * q) = T at h1
  generalize b * b * (-q) + b * c * (-(p * q) - 3 * r) + c * c * (q * q - 2 * p * r) = S at h2
  generalize r * (b * b * b + b * b * c * p - b * c * c * q + c * c * c * r) = N at h3
  unfold zb at *
  have g1 : 3900 * 1200 ≤ a * (a + T) := Int.mul_le_mul ha (by omega) (by decide) (by omega)
  have g2 : 3900 * 3600000 ≤ a * (a * (a + T) + S) := Int.mul_le_mul ha (by omega) (by decide) (by omega)
  omega
theorem zN_neg2 {p q r a b c : Int} (hp : zb 3 p) (hq : zb 3 q) (hr : zb 3 r) (hb : zb 150 b) (hc : zb 150 c) (ha : a ≤ -3900) : zN p q r a b c < 0 := by
  have e : zN p q r a b c = -zN p q r (-a) (-b) (-c) := by unfold zN; grind
  have := zN_pos2 hp hq hr (zb_n hb) (zb_n hc) (show 3900 ≤ -a by omega)
  omega
/-- above the FLOOR by less than 1 -/
theorem z_fl_lt1 {p q r a b c d : Int} (hp : zb 3 p) (hq : zb 3 q) (hr : zb 3 r) (ha : zb 150 a) (hb : zb 150 b) (hc : zb 150 c) (hd : 1 ≤ d ∧ d ≤ 150) (h0 : 0 ≤ zN p q r a b c) : zN p q r (a - ((z_fl p q r a b c d).toInt + 1) * d) b c < 0 := by
  have h := z_flo_b hp hq hr ha hb hc hd 13 (-4096) 4096 (by decide) (by decide) (by decide) (Or.inl rfl) (Or.inl rfl)
  have e : z_flo p q r a b c d 13 (-4096) 4096 = z_fl p q r a b c d := rfl
  rw [e] at h
  obtain ⟨h1, h2, h3, h4⟩ := h
  obtain ⟨k1, k2⟩ := z_fl_ge hp hq hr ha hb hc hd h0
  generalize (z_fl p q r a b c d).toInt = F at *
  rcases h4 with h4 | h4
  · exfalso
    have e2 : F = 4095 := by omega
    rw [e2] at k2
    unfold zb at ha
    have := zN_neg2 hp hq hr hb hc (show a - 4095 * d ≤ -3900 by omega)
    omega
  · exact h4
theorem zA_1 (p q r k l m : Int) : zA p q r 1 0 0 k l m = k ∧ zB p q r 1 0 0 k l m = l ∧ zC p q r 1 0 0 k l m = m := by
  unfold zA zB zC
  refine ⟨?_, ?_, ?_⟩ <;> grind
/-- adj times e - f -/
theorem zU_sh (p q r f g h e : Int) : zA p q r (zU p q r f g h) (zV p q r f g h) (zW p q r f g h) (e - f) (-g) (-h) = zU p q r f g h * e - zN p q r f g h ∧ zB p q r (zU p q r f g h) (zV p q r f g h) (zW p q r f g h) (e - f) (-g) (-h) = zV p q r f g h * e ∧ zC p q r (zU p q r f g h) (zV p q r f g h) (zW p q r f g h) (e - f) (-g) (-h) = zW p q r f g h * e := by
  have a := zU_A p q r f g h
  have b := zU_B p q r f g h
  have c := zU_C p q r f g h
  generalize zU p q r f g h = U at *
  generalize zV p q r f g h = V at *
  generalize zW p q r f g h = W at *
  unfold zA zB zC at *
  refine ⟨?_, ?_, ?_⟩ <;> grind
theorem zN_n (p q r a b c : Int) : zN p q r (-a) (-b) (-c) = -zN p q r a b c := by
  unfold zN
  grind
/-- lowest terms of what is 1 or more -/
theorem zl_sh {p q r : Int} {z : Int × Int × Int × Int} (hd : 0 < z.2.2.2) (h : 0 ≤ zN p q r (z.1 - z.2.2.2) z.2.1 z.2.2.1) : 0 ≤ zN p q r ((zl z).1 - (zl z).2.2.2) (zl z).2.1 (zl z).2.2.1 := by
  obtain ⟨g0, g1, g2, g3, g4⟩ := zg_pos (a := z.1) (b := z.2.1) (c := z.2.2.1) hd
  refine z_cube (G := zg z.1 z.2.1 z.2.2.1 z.2.2.2) (B := zN p q r (z.1 - z.2.2.2) z.2.1 z.2.2.1) g0 ?_ h
  rw [← zN_s]
  unfold zl
  dsimp only
  rw [Int.mul_sub, Int.mul_comm _ (z.1.tdiv _), Int.mul_comm _ (z.2.1.tdiv _), Int.mul_comm _ (z.2.2.1.tdiv _), Int.mul_comm _ (z.2.2.2.tdiv _), Int.tdiv_mul_cancel g1, Int.tdiv_mul_cancel g2, Int.tdiv_mul_cancel g3, Int.tdiv_mul_cancel g4]
/-- 1 by f, for f above 0, 1 at most -/
theorem zQ_ge1 {p q r f g h e : Int} (he : 1 ≤ e) (hp : 0 < zN p q r f g h) (h1 : zN p q r (f - e) g h ≤ 0) : 0 ≤ zN p q r ((zQ4 p q r (1, 0, 0, 1) (f, g, h, e)).1 - (zQ4 p q r (1, 0, 0, 1) (f, g, h, e)).2.2.2) (zQ4 p q r (1, 0, 0, 1) (f, g, h, e)).2.1 (zQ4 p q r (1, 0, 0, 1) (f, g, h, e)).2.2.1 := by
  have hU := zN_U (p := p) (q := q) (r := r) (f := f) (g := g) (h := h) (by omega)
  obtain ⟨g0, g1, g2, g3, g4⟩ := zg_pos (a := zU p q r f g h) (b := zV p q r f g h) (c := zW p q r f g h) hp
  have key : 0 ≤ zN p q r (zU p q r f g h * e - zN p q r f g h) (zV p q r f g h * e) (zW p q r f g h * e) := by
    have em := zN_mul p q r (zU p q r f g h) (zV p q r f g h) (zW p q r f g h) (e - f) (-g) (-h)
    obtain ⟨a, b, c⟩ := zU_sh p q r f g h e
    have en : zN p q r (e - f) (-g) (-h) = -zN p q r (f - e) g h := by
      rw [← zN_n, show -(f - e) = e - f by omega]
    rw [a, b, c, hU, en] at em
    rw [em]
    exact Int.mul_nonneg (sq_nn _) (by omega)
  have hx : 0 < (zN p q r f g h).tdiv (zg (zU p q r f g h) (zV p q r f g h) (zW p q r f g h) (zN p q r f g h)) := Int.tdiv_pos_of_pos_of_dvd hp (Int.le_of_lt g0) g4
  have c1 := Int.tdiv_mul_cancel g1
  have c2 := Int.tdiv_mul_cancel g2
  have c3 := Int.tdiv_mul_cancel g3
  have c4 := Int.tdiv_mul_cancel g4
  unfold zQ4 zQ
  dsimp only
  generalize zg (zU p q r f g h) (zV p q r f g h) (zW p q r f g h) (zN p q r f g h) = G at *
  generalize (zU p q r f g h).tdiv G = k at *
  generalize (zV p q r f g h).tdiv G = l at *
  generalize (zW p q r f g h).tdiv G = m at *
  generalize (zN p q r f g h).tdiv G = x at *
  have hgp : 0 < Int.gcd e x := Int.gcd_pos_of_ne_zero_right _ (by omega)
  have hgl : ((Int.gcd e x : Nat) : Int) ∣ e := by first | exact Int.gcd_dvd_left _ _ | exact Int.gcd_dvd_left
  have hgr : ((Int.gcd e x : Nat) : Int) ∣ x := by first | exact Int.gcd_dvd_right _ _ | exact Int.gcd_dvd_right
  have hz : 0 < x.tdiv (Int.gcd e x : Nat) := Int.tdiv_pos_of_pos_of_dvd hx (by omega) hgr
  have c5 := Int.tdiv_mul_cancel hgl
  have c6 := Int.tdiv_mul_cancel hgr
  generalize hH : ((Int.gcd e x : Nat) : Int) = H at *
  have hH0 : 0 < H := by omega
  generalize e.tdiv H = y at *
  generalize x.tdiv H = w at *
  obtain ⟨z1, z2, z3⟩ := zA_1 p q r k l m
  refine zl_sh (z := (_, _, _, _)) (by dsimp only; omega) ?_
  dsimp only
  rw [z1, z2, z3, Int.one_mul]
  refine z_cube (G := G * H) (B := zN p q r (zU p q r f g h * e - zN p q r f g h) (zV p q r f g h * e) (zW p q r f g h * e)) (Int.mul_pos g0 hH0) ?_ key
  rw [← zN_s, ← c1, ← c2, ← c3, ← c4, ← c5, ← c6]
  congr 1
  · grind
  · grind
  · grind
theorem lbk_alk {N : Nat → Int32} {last : Nat} : ∀ (n k m : Nat), lbk N last n k = some m → alk N m last = true := by
  intro n
  induction n with
  | zero => intro k m h; cases h
  | succ n ih =>
    intro k m h
    unfold lbk at h
    by_cases c : alk N k last = true
    · rw [if_pos c] at h
      cases h
      exact c
    · rw [if_neg c] at h
      exact ih _ _ h
theorem q_pe_alk (N : Nat → Int32) : ∀ (j : Nat) (q : Nat × Nat), q_pe N j = some q → alk N q.1 (q.1 + q.2) = true := by
  intro j
  induction j with
  | zero => intro q h; cases h
  | succ j ih =>
    intro q h
    unfold q_pe at h
    cases e : q_pe N j with
    | some s =>
      rw [e] at h
      cases h
      exact ih _ e
    | none =>
      rw [e] at h
      cases e2 : lbk N (j + 1) (j + 1) 0 with
      | none =>
        rw [e2] at h
        cases h
      | some k =>
        rw [e2] at h
        cases h
        have a := lbk_alk _ _ _ e2
        have b := lbk_lt N (j + 1) _ _ _ e2
        dsimp only
        rw [show k + (j + 1 - k) = j + 1 by omega]
        exact a
/-- v behind a STEP is 1 or more -/
theorem q_v1 {N : Nat → Int32} {P : Nat → Int64} (w : rw_ok N) (q : q_ok N P) (on : ¬ N 3 = 0) {j : Nat} (hj : j < r_k N) : 0 ≤ zN (r_v N 0) (r_v N 1) (r_v N 2) (r_v N (153 + 8 * (j + 1) + 4) - r_v N (153 + 8 * (j + 1) + 7)) (r_v N (153 + 8 * (j + 1) + 5)) (r_v N (153 + 8 * (j + 1) + 6)) := by
  have hF : zF (r_v N 0) (r_v N 1) (r_v N 2) = true := w.1
  obtain ⟨hp, hq, hr⟩ := zF_b hF
  have s := (q.2 on).2.1 j hj
  have st := q_st_of w q on (j := j) (by omega)
  obtain ⟨b1, b2⟩ := q_st_fb w.1 st
  have he : q_e N j = false := s.1
  have nz : c_nz (q_f N j) := k_iz_nz he
  have s6 := s.2.2.2.2.2.1
  have bb := (w.2.1 on).2.2 (j + 1) (by omega)
  obtain ⟨v0, v1, v2, v3⟩ := bb.2
  have pos : 0 < zN (r_v N 0) (r_v N 1) (r_v N 2) (q_f N j).1 (q_f N j).2.1 (q_f N j).2.2.1 ∧ zN (r_v N 0) (r_v N 1) (r_v N 2) ((q_f N j).1 - (q_f N j).2.2.2) (q_f N j).2.1 (q_f N j).2.2.1 ≤ 0 ∧ 1 ≤ (q_f N j).2.2.2 := by
    have ne := zN_ne hF nz
    have f0 : 0 ≤ zN (r_v N 0) (r_v N 1) (r_v N 2) (q_f0 N j).1 (q_f0 N j).2.1 (q_f0 N j).2.2.1 ∧ zN (r_v N 0) (r_v N 1) (r_v N 2) ((q_f0 N j).1 - (q_f0 N j).2.2.2) (q_f0 N j).2.1 (q_f0 N j).2.2.1 ≤ 0 ∧ 1 ≤ (q_f0 N j).2.2.2 := by
      obtain ⟨a0, a1, a2, a3⟩ := st.1
      have l := z_fl_lt1 hp hq hr a0 a1 a2 a3 st.2.2.1
      have g := (z_fl_ge hp hq hr a0 a1 a2 a3 st.2.2.1).2
      refine ⟨g, ?_, b1.2.2.2.1⟩
      have e : (q_f0 N j).1 - (q_f0 N j).2.2.2 = r_v N (153 + 8 * j) - ((q_fu N j).toInt + 1) * r_v N (153 + 8 * j + 3) := by
        unfold q_f0
        dsimp only
        rw [Int.add_mul, Int.one_mul]
        omega
      rw [e]
      exact Int.le_of_lt l
    have g0 : 0 ≤ zN (r_v N 0) (r_v N 1) (r_v N 2) (q_g0 N j).1 (q_g0 N j).2.1 (q_g0 N j).2.2.1 ∧ zN (r_v N 0) (r_v N 1) (r_v N 2) ((q_g0 N j).1 - (q_g0 N j).2.2.2) (q_g0 N j).2.1 (q_g0 N j).2.2.1 ≤ 0 ∧ 1 ≤ (q_g0 N j).2.2.2 := by
      obtain ⟨a0, a1, a2, a3⟩ := st.2.1
      have l := z_fl_lt1 hp hq hr a0 a1 a2 a3 st.2.2.2.1
      have g := (z_fl_ge hp hq hr a0 a1 a2 a3 st.2.2.2.1).2
      refine ⟨g, ?_, b2.2.2.2.1⟩
      have e : (q_g0 N j).1 - (q_g0 N j).2.2.2 = r_v N (153 + 8 * j + 4) - ((q_fv N j).toInt + 1) * r_v N (153 + 8 * j + 7) := by
        unfold q_g0
        dsimp only
        rw [Int.add_mul, Int.one_mul]
        omega
      rw [e]
      exact Int.le_of_lt l
    have c : 0 ≤ zN (r_v N 0) (r_v N 1) (r_v N 2) (q_f N j).1 (q_f N j).2.1 (q_f N j).2.2.1 ∧ zN (r_v N 0) (r_v N 1) (r_v N 2) ((q_f N j).1 - (q_f N j).2.2.2) (q_f N j).2.1 (q_f N j).2.2.1 ≤ 0 ∧ 1 ≤ (q_f N j).2.2.2 := by
      unfold q_f
      split
      · exact g0
      · exact f0
    exact ⟨by omega, c.2⟩
  have k := zQ_ge1 pos.2.2 pos.1 pos.2.1
  have eQ : zQ4 (r_v N 0) (r_v N 1) (r_v N 2) (1, 0, 0, 1) ((q_f N j).1, (q_f N j).2.1, (q_f N j).2.2.1, (q_f N j).2.2.2) = qi N (153 + 8 * (j + 1) + 4) := by
    refine (z4_qi s6 ?_).symm
    have nx := s.2.2.2.2.2.2.2.1
    unfold z_nxt at nx
    rw [Bool.and_eq_true] at nx
    have fb : c_fb (q_f N j) := by
      unfold q_f
      split
      · exact b2
      · exact b1
    obtain ⟨z1, z2, z3, z4', z5⟩ := zQ4_b (g := (1, 0, 0, 1)) hF ⟨⟨by decide, by decide⟩, ⟨by decide, by decide⟩, ⟨by decide, by decide⟩, by decide, by decide⟩ fb nz
    have zc := nx.1
    rw [zcan_z (zb_w z1 (by decide)) (zb_w z2 (by decide)) (zb_w z3 (by decide)) (zb_w z4' (by decide))] at zc
    exact ⟨zc.1, zc.2.1, zc.2.2.1, z5, zc.2.2.2⟩
  rw [eQ] at k
  exact k
/-- and so is v of STATE START -/
theorem q_vs {N : Nat → Int32} {P : Nat → Int64} (w : rw_ok N) (q : qk N P) (h : isP N = true) : 0 ≤ zN (r_v N 0) (r_v N 1) (r_v N 2) (r_v N (153 + 8 * pd_s N + 4) - r_v N (153 + 8 * pd_s N + 7)) (r_v N (153 + 8 * pd_s N + 5)) (r_v N (153 + 8 * pd_s N + 6)) := by
  obtain ⟨on, p6, p7, b1, b2⟩ := isP_of q h
  have po := (q.1.2 on).2.2.2.1
  have r60 : r_k N < 2147483648 := Int32.toNatClampNeg_lt _
  have ha : alk N (pd_s N) (pd_s N + pd_l N) = true := by
    revert po
    cases e : q_pe N (r_k N) with
    | none =>
      intro po
      have p6' : N 6 = -1 := po
      rw [p6] at p6'
      have q2 := congrArg Int32.toInt p6'
      rw [Int32.toInt_ofNat_of_lt (by omega)] at q2
      have z : (-1 : Int32).toInt = -1 := rfl
      omega
    | some x =>
      intro po
      have a := q_pe_alk N _ _ e
      have e6 : N 6 = Int32.ofNat x.1 := po.1
      have e7 : N 7 = Int32.ofNat x.2 := po.2
      have hb := q_pe_b N (r_k N) x e
      have s1 : pd_s N = x.1 := by unfold pd_s; rw [e6, ip_nc _ (by omega)]
      have s2 : pd_l N = x.2 := by unfold pd_l; rw [e7, ip_nc _ (by omega)]
      rw [s1, s2]
      exact a
  obtain ⟨j, hj⟩ : ∃ j, pd_s N + pd_l N = j + 1 := ⟨pd_s N + pd_l N - 1, by omega⟩
  have v := q_v1 w q.1 on (j := j) (by omega)
  rw [hj] at ha
  unfold alk at ha
  simp only [Bool.and_eq_true, decide_eq_true_eq] at ha
  obtain ⟨-, -, -, -, h4, h5, h6, h7⟩ := ha
  unfold r_v at v ⊢
  rw [h4, h5, h6, h7]
  exact v
