-- ROWS DETERMINED, through all that the reference does
theorem z_low_zl {z : Int × Int × Int × Int} (hd : z.2.2.2 ≠ 0) : z_low (zl z) := by
  obtain ⟨a, b, c, d⟩ := z
  dsimp only at hd
  obtain ⟨h1, h2, h3, h4⟩ := zl_back a b c d hd
  unfold z_low
  have hp := zgg_pos (a := a) (b := b) (c := c) hd
  have eg : (zg a b c d).natAbs = Int.gcd (Int.gcd a b) (Int.gcd c d) := by
    unfold zg
    split <;> omega
  generalize (zl (a, b, c, d)).1 = a' at *
  generalize (zl (a, b, c, d)).2.1 = b' at *
  generalize (zl (a, b, c, d)).2.2.1 = c' at *
  generalize (zl (a, b, c, d)).2.2.2 = d' at *
  generalize zg a b c d = g at *
  have e : Int.gcd (Int.gcd a b) (Int.gcd c d) = g.natAbs * Int.gcd (Int.gcd a' b') (Int.gcd c' d') := by
    have k1 : Int.gcd a b = g.natAbs * Int.gcd a' b' := by rw [h1, h2]; exact Int.gcd_mul_left g a' b'
    have k2 : Int.gcd c d = g.natAbs * Int.gcd c' d' := by rw [h3, h4]; exact Int.gcd_mul_left g c' d'
    rw [k1, k2, Int.natCast_mul, Int.natCast_mul, Int.gcd_mul_left, Int.natAbs_natCast]
  rw [← eg] at e hp
  have e2 : g.natAbs * Int.gcd (Int.gcd a' b') (Int.gcd c' d') = g.natAbs * 1 := by omega
  exact Nat.eq_of_mul_eq_mul_left hp e2
theorem q_c9 {g h : Nat → Int64} (e : ∀ i, i < 9 → g i = h i) (B : Bool) (a b : Int64) : q_c B g a b = q_c B h a b := by
  unfold q_c q_b q_a
  rw [e 0 (by decide), e 1 (by decide), e 2 (by decide), e 3 (by decide), e 4 (by decide), e 5 (by decide), e 6 (by decide), e 7 (by decide), e 8 (by decide)]
theorem q_nx9 {g h : Nat → Int64} (e : ∀ i, i < 9 → g i = h i) (B : Bool) (a b : Int64) (t : Bool) (i : Nat) (hi : i < 9) : q_nx B g a b t i = q_nx B h a b t i := by
  unfold q_nx q_c q_b q_a
  rw [e 0 (by decide), e 1 (by decide), e 2 (by decide), e 3 (by decide), e 4 (by decide), e 5 (by decide), e 6 (by decide), e 7 (by decide), e 8 (by decide)]
/-- a value within bounds, laid into a row, told back -/
theorem q_lw_put {N : Nat → Int32} {s : Nat} {z : Int × Int × Int × Int} (h : z4 N s z) (hb : c_v4 z) (hl : z_low z) : q_lw N s := by
  obtain ⟨h0, h1, h2, h3⟩ := h
  obtain ⟨b0, b1, b2, b3, b4⟩ := hb
  unfold q_lw qi z_low
  dsimp only
  rw [h0, h1, h2, h3, z_i32 b0 (by decide), z_i32 b1 (by decide), z_i32 b2 (by decide), z_i32 (n := 150) ⟨by omega, by omega⟩ (by decide)]
  exact hl
/-- another store, all else as it was -/
theorem q_ok_st {N N' : Nat → Int32} {P : Nat → Int64} (h : ∀ j, j < 821 → (j < 9 ∨ 33 ≤ j) → N' j = N j) (hs : ∀ i, i < 6 → q_lw N' (9 + 4 * i)) (hk : ¬ N 3 = 0 → r_k N ≤ 60) (g : q_ok N P) : q_ok N' P := by
  refine ⟨hs, fun h3 => ?_⟩
  rw [h 3 (by decide) (by decide)] at h3
  have h60 := hk h3
  obtain ⟨a1, a2, a3, a4, a5⟩ := g.2 h3
  have ek : r_k N' = r_k N := by unfold r_k; rw [h 5 (by decide) (by decide)]
  rw [ek]
  refine ⟨by rw [h 4 (by decide) (by decide)]; exact a1, fun j hj => q_s_c (fun b hb => h b (by omega) (by omega)) (fun i hi => h _ (by omega) (by omega)) (fun i hi => h _ (by omega) (by omega)) (a2 j hj), fun i hi => ?_, ?_, fun j hj => ?_⟩
  · rw [q_P_c (r_k N) (fun i hi => h _ (by omega) (by omega))]
    exact a3 i hi
  · rw [q_pe_c (r_k N) (fun i hi => h _ (by omega) (by omega))]
    generalize q_pe N (r_k N) = o at a4 ⊢
    cases o with
    | none => exact (h 6 (by decide) (by decide)).trans a4
    | some q => exact ⟨(h 6 (by decide) (by decide)).trans a4.1, (h 7 (by decide) (by decide)).trans a4.2⟩
  · exact ⟨q_lw_c (fun i hi => h _ (by omega) (by omega)) (a5 j hj).1, q_lw_c (fun i hi => h _ (by omega) (by omega)) (a5 j hj).2⟩
-- A STEP
theorem q_ok_dn (L : ip_H) (t : Bool) (hg : rw_ok (L.2.1 109)) (hq : q_ok (L.2.1 109) (L.2.2.1 110)) (h3 : ¬ L.2.1 109 3 = 0) (he : r_e (L.2.1 109) = false) (ht : tried L L) (h27 : L.2.1 108 27 = ip_b t) : q_ok ((c_dn1 L t).2.1 109) ((c_dn1 L t).2.2.1 110) ∧ q_s ((c_dn1 L t).2.1 109) (r_k (L.2.1 109)) := by
  obtain ⟨hF, hc, -⟩ := hg
  have hcr := hc h3
  have hbf := crs_fg hF hcr
  obtain ⟨hk5, hk60, -⟩ := hcr
  obtain ⟨n60, hB, u, v, eu, ev, zu, zv, e17, e18, e27, e118, y0, y1, y2, y3, y4, y5, y6, y7⟩ := ht
  have hk : r_k (L.2.1 109) < 60 := by omega
  obtain ⟨s0, s1⟩ := hq
  obtain ⟨a1, a2, a3, a4, a5⟩ := s1 h3
  have et : t = r_t (L.2.1 109) := by
    rw [e27] at h27
    have := congrArg b1 h27
    rw [b1_b, b1_b] at this
    exact this.symm
  have nz := r_e_nz hbf.1 he
  have b1' : c_fb (1, 0, 0, 1) := ⟨⟨by decide, by decide⟩, ⟨by decide, by decide⟩, ⟨by decide, by decide⟩, by decide, by decide⟩
  have bu : c_v4 u ∧ z_low u := by
    have q := zQ4_b hF hbf.2 hbf.1 nz
    have c := z_nxt_c zu
    rw [eu] at c ⊢
    obtain ⟨q1, q2, q3', q4, q5⟩ := q
    have w : ∀ x, zb 13500000000000000 x → zb 9223372036854775807 x := fun x h => zb_w h (by decide)
    have zc := zcan_z (w _ q1) (w _ q2) (w _ q3') (w _ q4)
    have c := Eq.mp zc c
    exact ⟨⟨c.1, c.2.1, c.2.2.1, q5, c.2.2.2⟩, z_low_zl (zQ_b hF hbf.2.1 hbf.2.2.1 hbf.2.2.2.1 ⟨hbf.2.2.2.2.1, hbf.2.2.2.2.2⟩ ⟨hbf.1.2.2.2.1, hbf.1.2.2.2.2⟩ hbf.1.1 hbf.1.2.1 hbf.1.2.2.1 nz).2.2.2.2⟩
  have bv : c_v4 v ∧ z_low v := by
    have q := zQ4_b hF b1' hbf.1 nz
    have c := z_nxt_c zv
    rw [ev] at c ⊢
    obtain ⟨q1, q2, q3', q4, q5⟩ := q
    have w : ∀ x, zb 13500000000000000 x → zb 9223372036854775807 x := fun x h => zb_w h (by decide)
    have zc := zcan_z (w _ q1) (w _ q2) (w _ q3') (w _ q4)
    have c := Eq.mp zc c
    exact ⟨⟨c.1, c.2.1, c.2.2.1, q5, c.2.2.2⟩, z_low_zl (zQ_b hF b1'.1 b1'.2.1 b1'.2.2.1 ⟨by decide, by decide⟩ ⟨hbf.1.2.2.2.1, hbf.1.2.2.2.2⟩ hbf.1.1 hbf.1.2.1 hbf.1.2.2.1 nz).2.2.2.2⟩
  have I := fun j h => c_dn1_I L t j h
  have LL := fun j h => c_dn1_L L t j h
  have lb : (c_dn1 L t).2.1 109 6 = (if L.2.1 109 6 = -1 then (match lbk ((c_do L (r_k (L.2.1 109)) t).2.1 109) (r_k (L.2.1 109) + 1) (r_k (L.2.1 109) + 1) 0 with | none => L.2.1 109 6 | some m => Int32.ofNat m) else L.2.1 109 6) ∧ (c_dn1 L t).2.1 109 7 = (if L.2.1 109 6 = -1 then (match lbk ((c_do L (r_k (L.2.1 109)) t).2.1 109) (r_k (L.2.1 109) + 1) (r_k (L.2.1 109) + 1) 0 with | none => L.2.1 109 7 | some m => Int32.ofNat (r_k (L.2.1 109) + 1 - m)) else L.2.1 109 7) := by
    have d6 : (c_do L (r_k (L.2.1 109)) t).2.1 109 6 = L.2.1 109 6 := by
      unfold c_do
      rw [ip_sL_I, ip_sI_I, if_pos rfl, c_dof_out _ _ _ _ _ _ _ (by omega) (by omega) (by omega)]
    have d7 : (c_do L (r_k (L.2.1 109)) t).2.1 109 7 = L.2.1 109 7 := by
      unfold c_do
      rw [ip_sL_I, ip_sI_I, if_pos rfl, c_dof_out _ _ _ _ _ _ _ (by omega) (by omega) (by omega)]
    unfold c_dn1 c_lb
    rw [d6]
    by_cases h6 : L.2.1 109 6 = -1
    · rw [if_pos h6, if_pos h6, if_pos h6]
      generalize lbk ((c_do L (r_k (L.2.1 109)) t).2.1 109) (r_k (L.2.1 109) + 1) (r_k (L.2.1 109) + 1) 0 = o
      cases o with
      | none => exact ⟨d6, d7⟩
      | some m =>
        unfold c_lbm
        constructor
        · rw [ip_uI_I, if_neg (by omega), ip_uI_I, if_pos ⟨rfl, rfl⟩]
        · rw [ip_uI_I, if_pos ⟨rfl, rfl⟩]
    · rw [if_neg h6, if_neg h6, if_neg h6]
      exact ⟨d6, d7⟩
  have lk : lbk ((c_do L (r_k (L.2.1 109)) t).2.1 109) (r_k (L.2.1 109) + 1) (r_k (L.2.1 109) + 1) 0 = lbk ((c_dn1 L t).2.1 109) (r_k (L.2.1 109) + 1) (r_k (L.2.1 109) + 1) 0 := lbk_c _ 0 (by omega) (fun i hi => by
    unfold c_dn1
    rw [c_lb_I _ _ _ _ (by omega)])
  rw [lk] at lb
  obtain ⟨l6, l7⟩ := lb
  clear lk
  have rk' : r_k ((c_dn1 L t).2.1 109) = r_k (L.2.1 109) + 1 := by
    unfold r_k
    rw [c_dn1_5, ip_nc _ (by omega)]
    rfl
  obtain ⟨r1, r2, -, -, r5, r6, r7, r8⟩ := q_r (L.2.1 109)
  generalize hN' : (c_dn1 L t).2.1 109 = N' at *
  generalize hP' : (c_dn1 L t).2.2.1 110 = P' at *
  generalize hN : L.2.1 109 = N at *
  generalize hP : L.2.2.1 110 = P at *
  generalize hk' : r_k N = k at *
  have out : ∀ j, ¬ j = 5 → ¬ (j = 6 ∨ j = 7) → (j < 153 + 8 * (k + 1) ∨ 153 + 8 * (k + 1) + 8 ≤ j) → (j < 641 + 3 * k ∨ 641 + 3 * k + 3 ≤ j) → N' j = N j := fun j q1 q2 q3 q4 => by
    rw [I j q2, c_dof_out _ _ _ _ _ _ _ q1 q3 q4]
  have st : ∀ i, i < 8 → N' (153 + 8 * (k + 1) + i) = L.2.1 119 i := fun i hi => by
    rw [I _ (by omega)]
    exact c_dof_s _ _ _ _ _ _ _ hk hi
  have dg0 : N' (641 + 3 * k) = r_fu N := by
    rw [I _ (by omega), ← e17]
    unfold c_dof
    rw [if_neg (by omega), if_neg (by omega), if_neg (by omega), if_pos rfl]
  have dg1 : N' (641 + 3 * k + 1) = r_fv N := by
    rw [I _ (by omega), ← e18]
    unfold c_dof
    rw [if_neg (by omega), if_neg (by omega), if_pos rfl]
  have dg2 : N' (641 + 3 * k + 2) = ip_b t := by
    rw [I _ (by omega)]
    exact c_dof_t _ _ _ _ _ _
  obtain ⟨cu, cv, ct, cf, cg, ce⟩ := q_cg (N := N) (N' := N') (j := k) (fun b hb => out b (by omega) (by omega) (by omega) (by omega)) (fun i hi => out _ (by omega) (by omega) (by omega) (by omega))
  have p0 : r_v N' 0 = r_v N 0 := by unfold r_v; rw [out 0 (by omega) (by omega) (by omega) (by omega)]
  have p1 : r_v N' 1 = r_v N 1 := by unfold r_v; rw [out 1 (by omega) (by omega) (by omega) (by omega)]
  have p2 : r_v N' 2 = r_v N 2 := by unfold r_v; rw [out 2 (by omega) (by omega) (by omega) (by omega)]
  have ePk : q_P N' k = q_P N k := q_P_c k (fun i hi => out _ (by omega) (by omega) (by omega) (by omega))
  have zz1 : z4 N' (153 + 8 * (k + 1)) u := ⟨(st 0 (by decide)).trans y0, (st 1 (by decide)).trans y1, (st 2 (by decide)).trans y2, (st 3 (by decide)).trans y3⟩
  have zz2 : z4 N' (153 + 8 * (k + 1) + 4) v := ⟨(st 4 (by decide)).trans y4, (st 5 (by decide)).trans y5, (st 6 (by decide)).trans y6, (st 7 (by decide)).trans y7⟩
  rw [r6, r7] at eu
  rw [r6] at ev
  rw [eu] at zu
  rw [ev] at zv
  have sk : q_s N' k := by
    unfold q_s
    rw [cu, cv, ct, cf, cg, ce, p0, p1, p2, ePk, dg0, dg1, dg2]
    refine ⟨by rw [← r8]; exact he, r1, r2, by rw [et, r5], by rw [← eu]; exact zz1, by rw [← ev]; exact zz2, zu, zv, ?_⟩
    rw [q_c9 (fun i hi => (a3 i hi).symm)]
    exact hB
  refine ⟨⟨fun i hi => q_lw_c (fun j hj => out _ (by omega) (by omega) (by omega) (by omega)) (s0 i hi), fun _ => ?_⟩, sk⟩
  rw [rk']
  refine ⟨by rw [out 4 (by omega) (by omega) (by omega) (by omega)]; exact a1, fun j hj => ?_, fun i hi => ?_, ?_, fun j hj => ?_⟩
  · by_cases hjk : j = k
    · rw [hjk]
      exact sk
    · exact q_s_c (fun b hb => out b (by omega) (by omega) (by omega) (by omega)) (fun i hi => out _ (by omega) (by omega) (by omega) (by omega)) (fun i hi => out _ (by omega) (by omega) (by omega) (by omega)) (a2 j (by omega))
  · rw [LL i hi, e118 i hi, q_nx9 a3 _ _ _ _ i hi, show q_P N' (k + 1) = q_nx false (q_P N' k) (N' (641 + 3 * k)).toInt64 (N' (641 + 3 * k + 1)).toInt64 (b1 (N' (641 + 3 * k + 2))) from rfl, ePk, dg0, dg1, dg2, b1_b, et]
  · have pk : q_pe N' k = q_pe N k := q_pe_c k (fun i hi => out _ (by omega) (by omega) (by omega) (by omega))
    unfold q_pe
    rw [pk]
    cases hpe : q_pe N k with
    | some q =>
      rw [hpe] at a4
      have n6 : ¬ N 6 = -1 := by
        rw [a4.1]
        intro e
        have hb := q_pe_b N k q hpe
        have h1 := congrArg Int32.toInt e
        rw [ip_nt _ (by omega), show (-1 : Int32).toInt = -1 from rfl] at h1
        omega
      rw [if_neg n6] at l6 l7
      exact ⟨l6.trans a4.1, l7.trans a4.2⟩
    | none =>
      rw [hpe] at a4
      have a4' : N 6 = -1 := a4
      rw [if_pos a4'] at l6 l7
      generalize lbk N' (k + 1) (k + 1) 0 = o at *
      cases o with
      | none => exact l6.trans a4'
      | some m => exact ⟨l6, l7⟩
  · by_cases hjk : j = k + 1
    · rw [hjk]
      exact ⟨q_lw_put zz1 bu.1 bu.2, q_lw_put zz2 bv.1 bv.2⟩
    · exact ⟨q_lw_c (fun i hi => out _ (by omega) (by omega) (by omega) (by omega)) (a5 j (by omega)).1, q_lw_c (fun i hi => out _ (by omega) (by omega) (by omega) (by omega)) (a5 j (by omega)).2⟩
