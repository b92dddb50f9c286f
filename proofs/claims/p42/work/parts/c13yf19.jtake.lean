-- TAKE of the class, over a row
theorem q_P_s (N : Nat → Int32) (j : Nat) : q_P N (j + 1) = q_nx false (q_P N j) (N (641 + 3 * j)).toInt64 (N (641 + 3 * j + 1)).toInt64 (b1 (N (641 + 3 * j + 2))) := rfl
theorem k_li_iff (f : Nat → Int32) (k m : Nat) : ∀ (n w : Nat), k_li f k m n w = true ↔ ∀ x, w ≤ x → x < w + n → f (10 * k + x) = f (10 * m + x) := by
  intro n
  induction n with
  | zero =>
    intro w
    exact ⟨fun _ x h1 h2 => by omega, fun _ => rfl⟩
  | succ n ih =>
    intro w
    have e : k_li f k m (n + 1) w = (decide (f (10 * k + w) = f (10 * m + w)) && k_li f k m n (w + 1)) := rfl
    rw [e, Bool.and_eq_true, decide_eq_true_eq, ih (w + 1)]
    constructor
    · rintro ⟨a, b⟩ x h1 h2
      by_cases hx : x = w
      · rw [hx]; exact a
      · exact b x (by omega) (by omega)
    · intro h
      exact ⟨h w (Nat.le_refl _) (by omega), fun x h1 h2 => h x (by omega) (by omega)⟩
theorem alk_iff (N : Nat → Int32) (k l : Nat) : alk N k l = true ↔ ∀ x, x < 8 → N (153 + 8 * k + x) = N (153 + 8 * l + x) := by
  unfold alk
  simp only [Bool.and_eq_true, decide_eq_true_eq]
  constructor
  · rintro ⟨h0, h1, h2, h3, h4, h5, h6, h7⟩ x hx
    have hc : x = 0 ∨ x = 1 ∨ x = 2 ∨ x = 3 ∨ x = 4 ∨ x = 5 ∨ x = 6 ∨ x = 7 := by omega
    rcases hc with rfl | rfl | rfl | rfl | rfl | rfl | rfl | rfl
    · exact h0
    · exact h1
    · exact h2
    · exact h3
    · exact h4
    · exact h5
    · exact h6
    · exact h7
  · intro h
    exact ⟨h 0 (by decide), h 1 (by decide), h 2 (by decide), h 3 (by decide), h 4 (by decide), h 5 (by decide), h 6 (by decide), h 7 (by decide)⟩
theorem q_fu_e {N : Nat → Int32} {k m : Nat} (h : ∀ x, x < 4 → N (153 + 8 * k + x) = N (153 + 8 * m + x)) : q_fu N k = q_fu N m := by
  unfold q_fu
  rw [c_fl_f4, c_fl_f4, qi_of h]
theorem q_fv_e {N : Nat → Int32} {k m : Nat} (h : ∀ x, x < 4 → N (153 + 8 * k + 4 + x) = N (153 + 8 * m + 4 + x)) : q_fv N k = q_fv N m := by
  unfold q_fv
  rw [c_fl_f4, c_fl_f4, qi_of h]
/-- what taking a STEP may change -/
def tf (c : Nat) (M M1 : ip_H) : Prop := M1.1 = M.1 ∧ M1.2.2.2 = M.2.2.2 ∧ (∀ a b, ¬ (a = c ∧ (b = 3 ∨ b = 4 ∨ b = 5 ∨ b = 6 ∨ b = 12 ∨ b = 13 ∨ b = 14)) → ¬ a = c + 1 → ¬ a = c + 2 → M1.2.1 a b = M.2.1 a b) ∧ ∀ a, ¬ (a = 3 ∨ (c + 4 ≤ a ∧ a ≤ c + 10)) → M1.2.2.1 a = M.2.2.1 a
theorem tf_r (c : Nat) (M : ip_H) : tf c M M := ⟨rfl, rfl, fun _ _ _ _ _ => rfl, fun _ _ => rfl⟩
theorem tf_t {c : Nat} {M M1 M2 : ip_H} (h : tf c M M1) (g : tf c M1 M2) : tf c M M2 := ⟨g.1.trans h.1, g.2.1.trans h.2.1, fun a b q1 q2 q3 => (g.2.2.1 a b q1 q2 q3).trans (h.2.2.1 a b q1 q2 q3), fun a q => (g.2.2.2 a q).trans (h.2.2.2 a q)⟩
theorem tf_pf {c : Nat} {M M1 : ip_H} (h : pf c M M1) : tf c M M1 := ⟨h.1, h.2.1, fun a b q1 _ _ => h.2.2.1 a b (by omega), fun a q => h.2.2.2 a (by omega)⟩
theorem tf_G {c : Nat} {M M1 : ip_H} (h : tf c M M1) (hG : ip_G M) : ip_G M1 := ⟨h.1.trans hG.1, fun k j a b => by rw [h.2.1]; exact hG.2 k j a b⟩
theorem z_nxt_v4 {p q r : Int} {g f : Int × Int × Int × Int} (hF : zF p q r = true) (bg : c_fb g) (bf : c_fb f) (nz : c_nz f) (h : z_nxt p q r (zQ4 p q r g f) = true) : c_v4 (zQ4 p q r g f) := by
  have q := zQ4_b hF bg bf nz
  have c := z_nxt_c h
  have w : ∀ x, zb 13500000000000000 x → zb 9223372036854775807 x := fun x h => zb_w h (by decide)
  rw [zcan_z (w _ q.1) (w _ q.2.1) (w _ q.2.2.1) (w _ q.2.2.2.1)] at c
  exact ⟨c.1, c.2.1, c.2.2.1, q.2.2.2.2, c.2.2.2⟩

theorem k_fp6_l {M : ip_H} {N : Nat → Int32} {m : Nat} (h : ∀ i, i ≤ m → cst6 M N i) : ∀ (n k : Nat), k + n ≤ m → k_fp (M.2.1 7) m n k = lbk N m n k := by
  have key : ∀ k, k ≤ m → k_li (M.2.1 7) k m 10 0 = alk N k m := fun k hk => by
    obtain ⟨a1, a2, a3, a4⟩ := h k hk
    obtain ⟨b1, b2, b3, b4⟩ := h m (Nat.le_refl _)
    rw [Bool.eq_iff_iff, k_li_iff, alk_iff]
    constructor
    · intro q x hx
      by_cases h4 : x < 4
      · have e := q x (by omega) (by omega)
        rw [a1 x h4, b1 x h4] at e
        exact e
      · have e := q (x + 1) (by omega) (by omega)
        have ea := a2 (x - 4) (by omega)
        have eb := b2 (x - 4) (by omega)
        have i1 : 10 * k + 5 + (x - 4) = 10 * k + (x + 1) := by omega
        have i2 : 10 * m + 5 + (x - 4) = 10 * m + (x + 1) := by omega
        have i3 : 153 + 8 * k + 4 + (x - 4) = 153 + 8 * k + x := by omega
        have i4 : 153 + 8 * m + 4 + (x - 4) = 153 + 8 * m + x := by omega
        rw [i1, i3] at ea
        rw [i2, i4] at eb
        rw [ea, eb] at e
        exact e
    · intro q x _ hx
      by_cases h4 : x < 4
      · rw [a1 x h4, b1 x h4]
        exact q x (by omega)
      · by_cases h5 : x = 4
        · rw [h5, a3, b3]
          exact q_fu_e (fun y hy => q y (by omega))
        · by_cases h9 : x = 9
          · rw [h9, a4, b4]
            refine q_fv_e (fun y hy => ?_)
            have := q (4 + y) (by omega)
            simp only [← Nat.add_assoc] at this
            exact this
          · have ea := a2 (x - 5) (by omega)
            have eb := b2 (x - 5) (by omega)
            have i1 : 10 * k + 5 + (x - 5) = 10 * k + x := by omega
            have i2 : 10 * m + 5 + (x - 5) = 10 * m + x := by omega
            have i3 : 153 + 8 * k + 4 + (x - 5) = 153 + 8 * k + (x - 1) := by omega
            have i4 : 153 + 8 * m + 4 + (x - 5) = 153 + 8 * m + (x - 1) := by omega
            rw [i1, i3] at ea
            rw [i2, i4] at eb
            rw [ea, eb]
            exact q (x - 1) (by omega)
  intro n
  induction n with
  | zero => intro k _; rfl
  | succ n ih =>
    intro k hk
    rw [k_fp, lbk, key k (by omega), ih (k + 1) (by omega)]
theorem k_tk6_S (M : ip_H) (j : Nat) (t : Bool) (y z : Int × Int × Int × Int) (b : Nat) : (k_tk6 M j t y z).2.1 7 b = if b = 10 * (j + 1) + 9 then M.2.1 6 13 else if b = 10 * (j + 1) + 5 + 3 then Int32.ofInt z.2.2.2 else if b = 10 * (j + 1) + 5 + 2 then Int32.ofInt z.2.2.1 else if b = 10 * (j + 1) + 5 + 1 then Int32.ofInt z.2.1 else if b = 10 * (j + 1) + 5 then Int32.ofInt z.1 else if b = 10 * (j + 1) + 4 then M.2.1 6 12 else if b = 10 * (j + 1) + 3 then Int32.ofInt y.2.2.2 else if b = 10 * (j + 1) + 2 then Int32.ofInt y.2.2.1 else if b = 10 * (j + 1) + 1 then Int32.ofInt y.2.1 else if b = 10 * (j + 1) then Int32.ofInt y.1 else M.2.1 7 b := by
  unfold k_tk6
  simp (decide := true) only [ip_cpL_I, ip_uI_I, k_sv_I, true_and, false_and, ↓reduceIte]
theorem k_tk6_T (M : ip_H) (j : Nat) (t : Bool) (y z : Int × Int × Int × Int) (b : Nat) : (k_tk6 M j t y z).2.1 8 b = if b = j + 1 then ip_b t else M.2.1 8 b := by
  unfold k_tk6
  simp (decide := true) only [ip_cpL_I, ip_uI_I, k_sv_I, true_and, false_and, ↓reduceIte]
theorem k_tk6_c (M : ip_H) (j : Nat) (t : Bool) (y z : Int × Int × Int × Int) (b : Nat) : (k_tk6 M j t y z).2.1 6 b = if b = 4 then Int32.ofNat (j + 1) else M.2.1 6 b := by
  unfold k_tk6
  simp (decide := true) only [ip_cpL_I, ip_uI_I, k_sv_I, true_and, false_and, ↓reduceIte]
theorem k_tk6_o (M : ip_H) (j : Nat) (t : Bool) (y z : Int × Int × Int × Int) (a b : Nat) (h1 : ¬ a = 6) (h2 : ¬ a = 7) (h3 : ¬ a = 8) : (k_tk6 M j t y z).2.1 a b = M.2.1 a b := by
  unfold k_tk6
  simp only [ip_cpL_I, ip_uI_I, k_sv_I, h1, h2, h3, false_and, ↓reduceIte]
theorem k_tk6_P (M : ip_H) (j : Nat) (t : Bool) (y z : Int × Int × Int × Int) (x : Nat) (hx : x < 9) : (k_tk6 M j t y z).2.2.1 10 x = M.2.2.1 12 x := by
  unfold k_tk6
  rw [ip_cpL_L, if_pos rfl]
  unfold va_cpy
  rw [if_pos (by omega)]
  exact congrArg (M.2.2.1 12) (by omega)
theorem k_tk6_l (M : ip_H) (j : Nat) (t : Bool) (y z : Int × Int × Int × Int) (a : Nat) (h : ¬ a = 10) : (k_tk6 M j t y z).2.2.1 a = M.2.2.1 a := by
  unfold k_tk6
  funext b
  rw [ip_cpL_L, if_neg h]
  rfl
theorem tf_tk6 (M : ip_H) (j : Nat) (t : Bool) (y z : Int × Int × Int × Int) : tf 6 M (k_tk6 M j t y z) := by
  refine ⟨rfl, rfl, fun a b q1 q2 q3 => ?_, fun a q => k_tk6_l _ _ _ _ _ _ (by omega)⟩
  by_cases ha : a = 6
  · subst ha
    rw [k_tk6_c, if_neg (by omega)]
  · exact k_tk6_o _ _ _ _ _ _ _ ha q2 q3
theorem j_take6 (X : ip_X) (M M1 : ip_H) (K : Option Value → ip_H → Prop) (N : Nat → Int32) (j : Nat) (hj : j < 60) (hG : ip_G M) (h : coj6 M N j) (pM : pf 6 M M1) (hF : zF (N 0).toInt (N 1).toInt (N 2).toInt = true) (hs : q_st N j) (hq : q_s N j)
  (cu : cv M1 15 (zQ4 (r_v N 0) (r_v N 1) (r_v N 2) (q_g N j) (q_f N j))) (cw : cv M1 16 (zQ4 (r_v N 0) (r_v N 1) (r_v N 2) (1, 0, 0, 1) (q_f N j))) (d12 : M1.2.1 6 12 = c_f4 (r_v N 0) (r_v N 1) (r_v N 2) (zQ4 (r_v N 0) (r_v N 1) (r_v N 2) (q_g N j) (q_f N j))) (d13 : M1.2.1 6 13 = c_f4 (r_v N 0) (r_v N 1) (r_v N 2) (zQ4 (r_v N 0) (r_v N 1) (r_v N 2) (1, 0, 0, 1) (q_f N j))) (d14 : M1.2.1 6 14 = ip_b (q_t N j)) (d9 : ∀ x, x < 9 → M1.2.2.1 12 x = q_nx false (q_P N j) (q_fu N j).toInt64 (q_fv N j).toInt64 (q_t N j) x)
  (hK : ∀ M2, tf 6 M M2 → coj6 M2 N (j + 1) → K none M2) : ip_wp X 27 0 [.ref 6] [] M1 K := by
  obtain ⟨c1, c2, c3, c4, c5, c6⟩ := h
  obtain ⟨s1, s2, s3, s4, s5, s6, s7, s8, s9⟩ := hq
  obtain ⟨b1, b2⟩ := q_st_fb hF hs
  have bfg : c_fb (q_f N j) ∧ c_fb (q_g N j) := by
    unfold q_f q_g
    split
    · exact ⟨b2, b1⟩
    · exact ⟨b1, b2⟩
  have nz : c_nz (q_f N j) := k_iz_nz s1
  have bb : c_fb (1, 0, 0, 1) := ⟨⟨by decide, by decide⟩, ⟨by decide, by decide⟩, ⟨by decide, by decide⟩, by decide, by decide⟩
  have v4u : c_v4 (zQ4 (r_v N 0) (r_v N 1) (r_v N 2) (q_g N j) (q_f N j)) := z_nxt_v4 hF bfg.2 bfg.1 nz s7
  have v4v : c_v4 (zQ4 (r_v N 0) (r_v N 1) (r_v N 2) (1, 0, 0, 1) (q_f N j)) := z_nxt_v4 hF bb bfg.1 nz s8
  have qu := z4_qi s5 v4u
  have qv := z4_qi s6 v4v
  obtain ⟨u0, u1, u2, u3⟩ := s5
  obtain ⟨v0, v1, v2, v3⟩ := s6
  have hG1 := pf_G pM hG
  have m4 : M1.2.1 6 4 = Int32.ofNat j := (pM.2.2.1 _ _ (by omega)).trans c1
  have m5 : M1.2.1 6 5 = M.2.1 6 5 := pM.2.2.1 _ _ (by omega)
  have m6 : M1.2.1 6 6 = M.2.1 6 6 := pM.2.2.1 _ _ (by omega)
  have mS : ∀ b, M1.2.1 7 b = M.2.1 7 b := fun b => pM.2.2.1 _ _ (by omega)
  have mT : ∀ b, M1.2.1 8 b = M.2.1 8 b := fun b => pM.2.2.1 _ _ (by omega)
  have m3 : M1.2.1 6 3 = M.2.1 6 3 := pM.2.2.1 _ _ (by omega)
  generalize hu : (zQ4 (r_v N 0) (r_v N 1) (r_v N 2) (q_g N j) (q_f N j)) = u at *
  generalize hv : (zQ4 (r_v N 0) (r_v N 1) (r_v N 2) (1, 0, 0, 1) (q_f N j)) = v at *
  -- all but the PERIOD
  have hst : ∀ i, i ≤ j + 1 → cst6 (k_tk6 M1 j (q_t N j) u v) N i := by
    intro i hi
    by_cases hij : i = j + 1
    · subst hij
      refine ⟨fun x hx => ?_, fun x hx => ?_, ?_, ?_⟩
      · have hc : x = 0 ∨ x = 1 ∨ x = 2 ∨ x = 3 := by omega
        rcases hc with rfl | rfl | rfl | rfl
        · rw [k_tk6_S, if_neg (by omega), if_neg (by omega), if_neg (by omega), if_neg (by omega), if_neg (by omega), if_neg (by omega), if_neg (by omega), if_neg (by omega), if_neg (by omega), if_pos (by omega)]
          exact u0.symm
        · rw [k_tk6_S, if_neg (by omega), if_neg (by omega), if_neg (by omega), if_neg (by omega), if_neg (by omega), if_neg (by omega), if_neg (by omega), if_neg (by omega), if_pos (by omega)]
          exact u1.symm
        · rw [k_tk6_S, if_neg (by omega), if_neg (by omega), if_neg (by omega), if_neg (by omega), if_neg (by omega), if_neg (by omega), if_neg (by omega), if_pos (by omega)]
          exact u2.symm
        · rw [k_tk6_S, if_neg (by omega), if_neg (by omega), if_neg (by omega), if_neg (by omega), if_neg (by omega), if_neg (by omega), if_pos (by omega)]
          exact u3.symm
      · have hc : x = 0 ∨ x = 1 ∨ x = 2 ∨ x = 3 := by omega
        rcases hc with rfl | rfl | rfl | rfl
        · rw [k_tk6_S, if_neg (by omega), if_neg (by omega), if_neg (by omega), if_neg (by omega), if_pos (by omega)]
          exact v0.symm
        · rw [k_tk6_S, if_neg (by omega), if_neg (by omega), if_neg (by omega), if_pos (by omega)]
          exact v1.symm
        · rw [k_tk6_S, if_neg (by omega), if_neg (by omega), if_pos (by omega)]
          exact v2.symm
        · rw [k_tk6_S, if_neg (by omega), if_pos (by omega)]
          exact v3.symm
      · rw [k_tk6_S, if_neg (by omega), if_neg (by omega), if_neg (by omega), if_neg (by omega), if_neg (by omega), if_pos (by omega), d12]
        unfold q_fu
        rw [c_fl_f4, qu]
      · rw [k_tk6_S, if_pos (by omega), d13]
        unfold q_fv
        rw [c_fl_f4, qv]
    · have old : ∀ b, b < 10 * (j + 1) → (k_tk6 M1 j (q_t N j) u v).2.1 7 b = M.2.1 7 b := fun b hb => by
        rw [k_tk6_S, if_neg (by omega), if_neg (by omega), if_neg (by omega), if_neg (by omega), if_neg (by omega), if_neg (by omega), if_neg (by omega), if_neg (by omega), if_neg (by omega), if_neg (by omega), mS]
      obtain ⟨w1, w2, w3, w4⟩ := c3 i (by omega)
      exact ⟨fun x hx => (old _ (by omega)).trans (w1 x hx), fun x hx => (old _ (by omega)).trans (w2 x hx), (old _ (by omega)).trans w3, (old _ (by omega)).trans w4⟩
  have htn : ∀ i, i < j + 1 → (k_tk6 M1 j (q_t N j) u v).2.1 8 (i + 1) = N (641 + 3 * i + 2) := by
    intro i hi
    rw [k_tk6_T]
    by_cases hij : i = j
    · subst hij
      rw [if_pos rfl]
      exact s4.symm
    · rw [if_neg (by omega), mT]
      exact c4 i (by omega)
  have hpr : ∀ x, x < 9 → (k_tk6 M1 j (q_t N j) u v).2.2.1 10 x = q_P N (j + 1) x := by
    intro x hx
    rw [k_tk6_P _ _ _ _ _ _ hx, d9 x hx]
    rw [q_P_s, s2, s3, s4, b1_b]
  have t0 : tf 6 M (k_tk6 M1 j (q_t N j) u v) := tf_t (tf_pf pM) (tf_tk6 _ _ _ _ _)
  have w5 : (k_tk6 M1 j (q_t N j) u v).2.1 6 5 = M.2.1 6 5 := by rw [k_tk6_c, if_neg (by decide)]; exact m5
  have w6 : (k_tk6 M1 j (q_t N j) u v).2.1 6 6 = M.2.1 6 6 := by rw [k_tk6_c, if_neg (by decide)]; exact m6
  have w3 : (k_tk6 M1 j (q_t N j) u v).2.1 6 3 = N 4 := by rw [k_tk6_c, if_neg (by decide), m3]; exact c2
  have w4 : (k_tk6 M1 j (q_t N j) u v).2.1 6 4 = Int32.ofNat (j + 1) := by rw [k_tk6_c, if_pos rfl]
  have hl := k_fp6_l hst (j + 1) 0 (by omega)
  refine o_27_6 X M1 K j hj m4 (q_t N j) d14 u v cu cw hG1 (fun q => ?_) (fun q1 q2 => ?_) (fun q1 m q2 => ?_)
  · refine hK _ t0 ⟨w4, w3, hst, htn, hpr, ?_⟩
    unfold q_pe
    cases e : q_pe N j with
    | none =>
      rw [e] at c6
      exact absurd (m5.trans c6) q
    | some s =>
      rw [e] at c6
      exact ⟨w5.trans c6.1, w6.trans c6.2⟩
  · refine hK _ t0 ⟨w4, w3, hst, htn, hpr, ?_⟩
    rw [hl] at q2
    unfold q_pe
    cases e : q_pe N j with
    | none =>
      rw [q2]
      exact w5.trans (m5.symm.trans q1)
    | some s =>
      rw [e] at c6
      have hb := q_pe_b N j s e
      have x := c6.1.symm.trans (m5.symm.trans q1)
      have h1 := congrArg Int32.toInt x
      rw [ip_nt _ (by omega), show (-1 : Int32).toInt = -1 from rfl] at h1
      omega
  · rw [hl] at q2
    refine hK _ (tf_t t0 ⟨rfl, rfl, fun a b x1 x2 x3 => by rw [ip_uI_I, if_neg (by omega), ip_uI_I, if_neg (by omega)], fun a x => rfl⟩) ⟨?_, ?_, ?_, ?_, hpr, ?_⟩
    · rw [ip_uI_I, if_neg (by omega), ip_uI_I, if_neg (by omega)]
      exact w4
    · rw [ip_uI_I, if_neg (by omega), ip_uI_I, if_neg (by omega)]
      exact w3
    · intro i hi
      obtain ⟨x1, x2, x3, x4⟩ := hst i hi
      refine ⟨fun x hx => ?_, fun x hx => ?_, ?_, ?_⟩
      · rw [ip_uI_I, if_neg (by omega), ip_uI_I, if_neg (by omega)]
        exact x1 x hx
      · rw [ip_uI_I, if_neg (by omega), ip_uI_I, if_neg (by omega)]
        exact x2 x hx
      · rw [ip_uI_I, if_neg (by omega), ip_uI_I, if_neg (by omega)]
        exact x3
      · rw [ip_uI_I, if_neg (by omega), ip_uI_I, if_neg (by omega)]
        exact x4
    · intro i hi
      rw [ip_uI_I, if_neg (by omega), ip_uI_I, if_neg (by omega)]
      exact htn i hi
    · unfold q_pe
      cases e : q_pe N j with
      | none =>
        rw [q2]
        refine ⟨?_, ?_⟩
        · rw [ip_uI_I, if_neg (by omega), ip_uI_I, if_pos ⟨rfl, rfl⟩]
        · rw [ip_uI_I, if_pos ⟨rfl, rfl⟩]
      | some s =>
        rw [e] at c6
        have hb := q_pe_b N j s e
        have x := c6.1.symm.trans (m5.symm.trans q1)
        have h1 := congrArg Int32.toInt x
        rw [ip_nt _ (by omega), show (-1 : Int32).toInt = -1 from rfl] at h1
        omega

theorem k_fp80_l {M : ip_H} {N : Nat → Int32} {m : Nat} (h : ∀ i, i ≤ m → cst80 M N i) : ∀ (n k : Nat), k + n ≤ m → k_fp (M.2.1 81) m n k = lbk N m n k := by
  have key : ∀ k, k ≤ m → k_li (M.2.1 81) k m 10 0 = alk N k m := fun k hk => by
    obtain ⟨a1, a2, a3, a4⟩ := h k hk
    obtain ⟨b1, b2, b3, b4⟩ := h m (Nat.le_refl _)
    rw [Bool.eq_iff_iff, k_li_iff, alk_iff]
    constructor
    · intro q x hx
      by_cases h4 : x < 4
      · have e := q x (by omega) (by omega)
        rw [a1 x h4, b1 x h4] at e
        exact e
      · have e := q (x + 1) (by omega) (by omega)
        have ea := a2 (x - 4) (by omega)
        have eb := b2 (x - 4) (by omega)
        have i1 : 10 * k + 5 + (x - 4) = 10 * k + (x + 1) := by omega
        have i2 : 10 * m + 5 + (x - 4) = 10 * m + (x + 1) := by omega
        have i3 : 153 + 8 * k + 4 + (x - 4) = 153 + 8 * k + x := by omega
        have i4 : 153 + 8 * m + 4 + (x - 4) = 153 + 8 * m + x := by omega
        rw [i1, i3] at ea
        rw [i2, i4] at eb
        rw [ea, eb] at e
        exact e
    · intro q x _ hx
      by_cases h4 : x < 4
      · rw [a1 x h4, b1 x h4]
        exact q x (by omega)
      · by_cases h5 : x = 4
        · rw [h5, a3, b3]
          exact q_fu_e (fun y hy => q y (by omega))
        · by_cases h9 : x = 9
          · rw [h9, a4, b4]
            refine q_fv_e (fun y hy => ?_)
            have := q (4 + y) (by omega)
            simp only [← Nat.add_assoc] at this
            exact this
          · have ea := a2 (x - 5) (by omega)
            have eb := b2 (x - 5) (by omega)
            have i1 : 10 * k + 5 + (x - 5) = 10 * k + x := by omega
            have i2 : 10 * m + 5 + (x - 5) = 10 * m + x := by omega
            have i3 : 153 + 8 * k + 4 + (x - 5) = 153 + 8 * k + (x - 1) := by omega
            have i4 : 153 + 8 * m + 4 + (x - 5) = 153 + 8 * m + (x - 1) := by omega
            rw [i1, i3] at ea
            rw [i2, i4] at eb
            rw [ea, eb]
            exact q (x - 1) (by omega)
  intro n
  induction n with
  | zero => intro k _; rfl
  | succ n ih =>
    intro k hk
    rw [k_fp, lbk, key k (by omega), ih (k + 1) (by omega)]
theorem k_tk80_S (M : ip_H) (j : Nat) (t : Bool) (y z : Int × Int × Int × Int) (b : Nat) : (k_tk80 M j t y z).2.1 81 b = if b = 10 * (j + 1) + 9 then M.2.1 80 13 else if b = 10 * (j + 1) + 5 + 3 then Int32.ofInt z.2.2.2 else if b = 10 * (j + 1) + 5 + 2 then Int32.ofInt z.2.2.1 else if b = 10 * (j + 1) + 5 + 1 then Int32.ofInt z.2.1 else if b = 10 * (j + 1) + 5 then Int32.ofInt z.1 else if b = 10 * (j + 1) + 4 then M.2.1 80 12 else if b = 10 * (j + 1) + 3 then Int32.ofInt y.2.2.2 else if b = 10 * (j + 1) + 2 then Int32.ofInt y.2.2.1 else if b = 10 * (j + 1) + 1 then Int32.ofInt y.2.1 else if b = 10 * (j + 1) then Int32.ofInt y.1 else M.2.1 81 b := by
  unfold k_tk80
  simp (decide := true) only [ip_cpL_I, ip_uI_I, k_sv_I, true_and, false_and, ↓reduceIte]
theorem k_tk80_T (M : ip_H) (j : Nat) (t : Bool) (y z : Int × Int × Int × Int) (b : Nat) : (k_tk80 M j t y z).2.1 82 b = if b = j + 1 then ip_b t else M.2.1 82 b := by
  unfold k_tk80
  simp (decide := true) only [ip_cpL_I, ip_uI_I, k_sv_I, true_and, false_and, ↓reduceIte]
theorem k_tk80_c (M : ip_H) (j : Nat) (t : Bool) (y z : Int × Int × Int × Int) (b : Nat) : (k_tk80 M j t y z).2.1 80 b = if b = 4 then Int32.ofNat (j + 1) else M.2.1 80 b := by
  unfold k_tk80
  simp (decide := true) only [ip_cpL_I, ip_uI_I, k_sv_I, true_and, false_and, ↓reduceIte]
theorem k_tk80_o (M : ip_H) (j : Nat) (t : Bool) (y z : Int × Int × Int × Int) (a b : Nat) (h1 : ¬ a = 80) (h2 : ¬ a = 81) (h3 : ¬ a = 82) : (k_tk80 M j t y z).2.1 a b = M.2.1 a b := by
  unfold k_tk80
  simp only [ip_cpL_I, ip_uI_I, k_sv_I, h1, h2, h3, false_and, ↓reduceIte]
theorem k_tk80_P (M : ip_H) (j : Nat) (t : Bool) (y z : Int × Int × Int × Int) (x : Nat) (hx : x < 9) : (k_tk80 M j t y z).2.2.1 84 x = M.2.2.1 86 x := by
  unfold k_tk80
  rw [ip_cpL_L, if_pos rfl]
  unfold va_cpy
  rw [if_pos (by omega)]
  exact congrArg (M.2.2.1 86) (by omega)
theorem k_tk80_l (M : ip_H) (j : Nat) (t : Bool) (y z : Int × Int × Int × Int) (a : Nat) (h : ¬ a = 84) : (k_tk80 M j t y z).2.2.1 a = M.2.2.1 a := by
  unfold k_tk80
  funext b
  rw [ip_cpL_L, if_neg h]
  rfl
theorem tf_tk80 (M : ip_H) (j : Nat) (t : Bool) (y z : Int × Int × Int × Int) : tf 80 M (k_tk80 M j t y z) := by
  refine ⟨rfl, rfl, fun a b q1 q2 q3 => ?_, fun a q => k_tk80_l _ _ _ _ _ _ (by omega)⟩
  by_cases ha : a = 80
  · subst ha
    rw [k_tk80_c, if_neg (by omega)]
  · exact k_tk80_o _ _ _ _ _ _ _ ha q2 q3
