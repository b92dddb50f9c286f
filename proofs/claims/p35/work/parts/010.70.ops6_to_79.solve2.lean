noncomputable section
-- PART 70.ops6
-- FLOORS are near; the reference: looking back, a step done
theorem z_sg_lt {z : Int} (h : zb 9223372036854775807 z) : (z_sg z < 0) = (z < 0) := by
  have e1 : (0 < Int64.ofInt z) = (0 < z) := z_lt (a := 0) ⟨by decide, by decide⟩ h
  have e2 : (Int64.ofInt z < 0) = (z < 0) := z_lt (b := 0) h ⟨by decide, by decide⟩
  apply propext
  unfold z_sg
  by_cases h1 : 0 < z
  · rw [if_pos (by rw [e1]; exact h1)]
    exact ⟨fun q => absurd q (by decide), fun q => by omega⟩
  · rw [if_neg (by rw [e1]; exact h1)]
    by_cases h2 : z < 0
    · rw [if_pos (by rw [e2]; exact h2)]
      exact ⟨fun _ => h2, fun _ => by decide⟩
    · rw [if_neg (by rw [e2]; exact h2)]
      exact ⟨fun q => absurd q (by decide), fun q => absurd q h2⟩
theorem z_mid {lo hi : Int32} {m : Int} (h1 : -4096 ≤ lo.toInt) (h2 : hi.toInt ≤ 4096) (h3 : hi.toInt = lo.toInt + (m + m)) (h0 : 0 ≤ m) : ((lo + hi) / 2).toInt = lo.toInt + m := by
  have e1 : (lo + hi).toInt = 2 * (lo.toInt + m) := by
    rw [Int32.toInt_add, Int.bmod_eq_of_le_mul_two (by omega) (by omega)]
    omega
  rw [Int32.toInt_div_of_ne_right _ _ (by decide), e1]
  have e2 : (2 : Int32).toInt = 2 := rfl
  rw [e2]
  exact Int.mul_tdiv_cancel_left _ (by decide)
theorem z_flo_b {p q r a b c d : Int} (hp : zb 3 p) (hq : zb 3 q) (hr : zb 3 r) (ha : zb 150 a) (hb : zb 150 b) (hc : zb 150 c) (hd : 1 ≤ d ∧ d ≤ 150) : ∀ (n : Nat) (lo hi : Int32), -4096 ≤ lo.toInt → hi.toInt ≤ 4096 → hi.toInt = lo.toInt + 2 ^ n → (lo.toInt = -4096 ∨ 0 ≤ zN p q r (a - lo.toInt * d) b c) → (hi.toInt = 4096 ∨ zN p q r (a - hi.toInt * d) b c < 0) →
    -4096 ≤ (z_flo p q r a b c d n lo hi).toInt ∧ (z_flo p q r a b c d n lo hi).toInt ≤ 4095 ∧ ((z_flo p q r a b c d n lo hi).toInt = -4096 ∨ 0 ≤ zN p q r (a - (z_flo p q r a b c d n lo hi).toInt * d) b c) ∧ ((z_flo p q r a b c d n lo hi).toInt + 1 = 4096 ∨ zN p q r (a - ((z_flo p q r a b c d n lo hi).toInt + 1) * d) b c < 0) := by
  intro n
  induction n with
  | zero =>
    intro lo hi h1 h2 h3 h4 h5
    rw [z_flo]
    simp only [Int.pow_zero] at h3
    rw [h3] at h5
    exact ⟨h1, by omega, h4, h5⟩
  | succ n ih =>
    intro lo hi h1 h2 h3 h4 h5
    have hpow : (2 : Int) ^ (n + 1) = 2 ^ n + 2 ^ n := by rw [Int.pow_succ]; omega
    have hpos : (0 : Int) < 2 ^ n := Int.pow_pos (by decide)
    have hm := z_mid h1 h2 (by rw [h3, hpow]) (Int.le_of_lt hpos)
    rw [z_flo]
    have hA : zb 620000 (a - ((lo + hi) / 2).toInt * d) := by
      have w : zb 4096 ((lo + hi) / 2).toInt := by unfold zb; omega
      have hd' : zb 150 d := ⟨by omega, hd.2⟩
      exact zb_s ha (zb_m w hd' (Int.le_refl _)) (by decide)
    have hB : zb 9223372036854775807 (zN p q r (a - ((lo + hi) / 2).toInt * d) b c) := zN_bnd hp hq hr hA hb hc _ (by decide) (by decide) (by decide)
    by_cases hs : z_sg (zN p q r (a - ((lo + hi) / 2).toInt * d) b c) < 0
    · rw [if_pos hs]
      rw [z_sg_lt hB] at hs
      exact ih lo _ h1 (by omega) (by omega) h4 (Or.inr hs)
    · rw [if_neg hs]
      rw [z_sg_lt hB] at hs
      exact ih _ hi (by omega) h2 (by omega) (Or.inr (by omega)) h5
theorem z_fl_b {p q r a b c d : Int} (hp : zb 3 p) (hq : zb 3 q) (hr : zb 3 r) (ha : zb 150 a) (hb : zb 150 b) (hc : zb 150 c) (hd : 1 ≤ d ∧ d ≤ 150) : zb 20000 (a - (z_fl p q r a b c d).toInt * d) ∧ zb 4096 (z_fl p q r a b c d).toInt := by
  have h := z_flo_b hp hq hr ha hb hc hd 13 (-4096) 4096 (by decide) (by decide) (by decide) (Or.inl rfl) (Or.inl rfl)
  have e : z_flo p q r a b c d 13 (-4096) 4096 = z_fl p q r a b c d := rfl
  rw [e] at h
  obtain ⟨h1, h2, h3, h4⟩ := h
  generalize (z_fl p q r a b c d).toInt = F at *
  unfold zb at ha ⊢
  have hmul : (F + 1) * d = F * d + d := by rw [Int.add_mul, Int.one_mul]
  rw [hmul] at h4
  refine ⟨⟨?_, ?_⟩, by omega, by omega⟩
  · rcases h3 with h3 | h3
    · rw [h3]; omega
    · rcases Int.lt_or_le (-4000) (a - F * d) with w | w
      · omega
      · have := zN_neg hp hq hr hb hc w
        omega
  · rcases h4 with h4 | h4
    · have : F = 4095 := by omega
      rw [this]; omega
    · rcases Int.lt_or_le (a - (F * d + d)) 4000 with w | w
      · omega
      · have := zN_pos hp hq hr hb hc w
        omega
/-- a course's row: how many steps, its states -/
def crs (N : Nat → Int32) : Prop := N 5 = Int32.ofNat (r_k N) ∧ r_k N ≤ 60 ∧ ∀ k, k ≤ r_k N → c_vo N (153 + 8 * k) ∧ c_vo N (153 + 8 * k + 4)
theorem crs_fb {N : Nat → Int32} (hF : zF (N 0).toInt (N 1).toInt (N 2).toInt = true) (h : crs N) : c_fb (r_f0 N) ∧ c_fb (r_g0 N) := by
  obtain ⟨hp, hq, hr⟩ := zF_b hF
  obtain ⟨-, h6, h⟩ := h
  obtain ⟨⟨a1, a2, a3, a4⟩, ⟨b1, b2, b3, b4⟩⟩ := h _ (Nat.le_refl _)
  have fu := z_fl_b hp hq hr a1 a2 a3 a4
  have fv := z_fl_b hp hq hr b1 b2 b3 b4
  exact ⟨⟨fu.1, zb_w a2 (by decide), zb_w a3 (by decide), a4⟩, ⟨fv.1, zb_w b2 (by decide), zb_w b3 (by decide), b4⟩⟩
theorem crs_fg {N : Nat → Int32} (hF : zF (N 0).toInt (N 1).toInt (N 2).toInt = true) (h : crs N) : c_fb (r_f N) ∧ c_fb (r_g N) := by
  obtain ⟨h1, h2⟩ := crs_fb hF h
  unfold r_f r_g
  split
  · exact ⟨h2, h1⟩
  · exact ⟨h1, h2⟩
theorem r_e_nz {N : Nat → Int32} (hf : c_fb (r_f N)) (h : r_e N = false) : c_nz (r_f N) := by
  obtain ⟨h1, h2, h3, -⟩ := hf
  rintro ⟨e1, e2, e3⟩
  unfold r_e at h
  rw [e1, e2, e3] at h
  exact absurd h (by decide)
/-- two states alike -/
def alk (N : Nat → Int32) (k l : Nat) : Bool := decide (N (153 + 8 * k) = N (153 + 8 * l)) && (decide (N (153 + 8 * k + 1) = N (153 + 8 * l + 1)) && (decide (N (153 + 8 * k + 2) = N (153 + 8 * l + 2)) && (decide (N (153 + 8 * k + 3) = N (153 + 8 * l + 3)) && (decide (N (153 + 8 * k + 4) = N (153 + 8 * l + 4)) && (decide (N (153 + 8 * k + 5) = N (153 + 8 * l + 5)) && (decide (N (153 + 8 * k + 6) = N (153 + 8 * l + 6)) && decide (N (153 + 8 * k + 7) = N (153 + 8 * l + 7))))))))
/-- the first state like the last one, from k on -/
def lbk (N : Nat → Int32) (last : Nat) : Nat → Nat → Option Nat
  | 0, _ => none
  | n + 1, k => if alk N k last = true then some k else lbk N last n (k + 1)
def c_lbm (M : ip_H) (last : Nat) (o : Option Nat) : ip_H := match o with
  | none => M
  | some k => ip_uI (ip_uI M 109 6 (Int32.ofNat k)) 109 7 (Int32.ofNat (last - k))
def c_lb (M : ip_H) (last : Nat) : ip_H := if M.2.1 109 6 = -1 then c_lbm M last (lbk (M.2.1 109) last last 0) else M

set_option maxHeartbeats 40000000 in
set_option maxRecDepth 100000 in
theorem s_221 (X : ip_X) (M : ip_H) (K : Option Value → ip_H → Prop) (k l : Nat) (hk : k ≤ 60) (hl : l ≤ 60) (hG : ip_G M) : ip_wp X 221 0 [.ref 108, .int (Int32.ofNat k), .int (Int32.ofNat l), .retAddr 1] [] M K = K (some (.int (ip_b (alk (M.2.1 109) k l)))) M := by
  unfold alk
  by_cases h0 : M.2.1 109 (153 + 8 * k) = M.2.1 109 (153 + 8 * l)
  case neg =>
    simp (config := { maxSteps := 10000000, maxDischargeDepth := 30, decide := true }) only [w221_0, w221_1, w221_2, w221_3, w221_5, w221_8, w221_9, w221_10, w221_11, w221_14, w221_15, w221_16, w221_17, w221_20, w221_23, w221_24, w221_25, w221_28, w221_31, w221_32, ↓ip_ka0, ↓ip_ki1, ↓ip_ki2, ↓ip_ki3, ip_get_0, ip_get_s, ip_set1, ip_clr_s, ip_cat_i, List.set_cons_zero, List.set_cons_succ, Option.toList_some, List.nil_append, List.cons_append, List.length_nil, List.length_cons, ↓reduceIte, Nat.reduceLeDiff, Nat.reduceEqDiff, Nat.zero_add, Nat.zero_le, or_false, ip_b_f, hG, hk, hl, gS_108 hG, s_208_0, s_208_1, s_208_2, s_208_3, s_208_4, s_208_5, s_208_6, s_208_7, h0, decide_false, Bool.false_and]
  by_cases h1 : M.2.1 109 (153 + 8 * k + 1) = M.2.1 109 (153 + 8 * l + 1)
  case neg =>
    simp (config := { maxSteps := 10000000, maxDischargeDepth := 30, decide := true }) only [w221_0, w221_1, w221_2, w221_3, w221_5, w221_8, w221_9, w221_10, w221_11, w221_14, w221_15, w221_16, w221_17, w221_20, w221_23, w221_24, w221_25, w221_28, w221_31, w221_32, ↓ip_ka0, ↓ip_ki1, ↓ip_ki2, ↓ip_ki3, ip_get_0, ip_get_s, ip_set1, ip_clr_s, ip_cat_i, List.set_cons_zero, List.set_cons_succ, Option.toList_some, List.nil_append, List.cons_append, List.length_nil, List.length_cons, ↓reduceIte, Nat.reduceLeDiff, Nat.reduceEqDiff, Nat.zero_add, Nat.zero_le, or_false, ip_b_f, Int32.reduceAdd, hG, hk, hl, gS_108 hG, s_208_0, s_208_1, s_208_2, s_208_3, s_208_4, s_208_5, s_208_6, s_208_7, h0, h1, decide_true, decide_false, Bool.and_false, Bool.false_and]
  by_cases h2 : M.2.1 109 (153 + 8 * k + 2) = M.2.1 109 (153 + 8 * l + 2)
  case neg =>
    simp (config := { maxSteps := 10000000, maxDischargeDepth := 30, decide := true }) only [w221_0, w221_1, w221_2, w221_3, w221_5, w221_8, w221_9, w221_10, w221_11, w221_14, w221_15, w221_16, w221_17, w221_20, w221_23, w221_24, w221_25, w221_28, w221_31, w221_32, ↓ip_ka0, ↓ip_ki1, ↓ip_ki2, ↓ip_ki3, ip_get_0, ip_get_s, ip_set1, ip_clr_s, ip_cat_i, List.set_cons_zero, List.set_cons_succ, Option.toList_some, List.nil_append, List.cons_append, List.length_nil, List.length_cons, ↓reduceIte, Nat.reduceLeDiff, Nat.reduceEqDiff, Nat.zero_add, Nat.zero_le, or_false, ip_b_f, Int32.reduceAdd, hG, hk, hl, gS_108 hG, s_208_0, s_208_1, s_208_2, s_208_3, s_208_4, s_208_5, s_208_6, s_208_7, h0, h1, h2, decide_true, decide_false, Bool.and_false, Bool.false_and]
  by_cases h3 : M.2.1 109 (153 + 8 * k + 3) = M.2.1 109 (153 + 8 * l + 3)
  case neg =>
    simp (config := { maxSteps := 10000000, maxDischargeDepth := 30, decide := true }) only [w221_0, w221_1, w221_2, w221_3, w221_5, w221_8, w221_9, w221_10, w221_11, w221_14, w221_15, w221_16, w221_17, w221_20, w221_23, w221_24, w221_25, w221_28, w221_31, w221_32, ↓ip_ka0, ↓ip_ki1, ↓ip_ki2, ↓ip_ki3, ip_get_0, ip_get_s, ip_set1, ip_clr_s, ip_cat_i, List.set_cons_zero, List.set_cons_succ, Option.toList_some, List.nil_append, List.cons_append, List.length_nil, List.length_cons, ↓reduceIte, Nat.reduceLeDiff, Nat.reduceEqDiff, Nat.zero_add, Nat.zero_le, or_false, ip_b_f, Int32.reduceAdd, hG, hk, hl, gS_108 hG, s_208_0, s_208_1, s_208_2, s_208_3, s_208_4, s_208_5, s_208_6, s_208_7, h0, h1, h2, h3, decide_true, decide_false, Bool.and_false, Bool.false_and]
  by_cases h4 : M.2.1 109 (153 + 8 * k + 4) = M.2.1 109 (153 + 8 * l + 4)
  case neg =>
    simp (config := { maxSteps := 10000000, maxDischargeDepth := 30, decide := true }) only [w221_0, w221_1, w221_2, w221_3, w221_5, w221_8, w221_9, w221_10, w221_11, w221_14, w221_15, w221_16, w221_17, w221_20, w221_23, w221_24, w221_25, w221_28, w221_31, w221_32, ↓ip_ka0, ↓ip_ki1, ↓ip_ki2, ↓ip_ki3, ip_get_0, ip_get_s, ip_set1, ip_clr_s, ip_cat_i, List.set_cons_zero, List.set_cons_succ, Option.toList_some, List.nil_append, List.cons_append, List.length_nil, List.length_cons, ↓reduceIte, Nat.reduceLeDiff, Nat.reduceEqDiff, Nat.zero_add, Nat.zero_le, or_false, ip_b_f, Int32.reduceAdd, hG, hk, hl, gS_108 hG, s_208_0, s_208_1, s_208_2, s_208_3, s_208_4, s_208_5, s_208_6, s_208_7, h0, h1, h2, h3, h4, decide_true, decide_false, Bool.and_false, Bool.false_and]
  by_cases h5 : M.2.1 109 (153 + 8 * k + 5) = M.2.1 109 (153 + 8 * l + 5)
  case neg =>
    simp (config := { maxSteps := 10000000, maxDischargeDepth := 30, decide := true }) only [w221_0, w221_1, w221_2, w221_3, w221_5, w221_8, w221_9, w221_10, w221_11, w221_14, w221_15, w221_16, w221_17, w221_20, w221_23, w221_24, w221_25, w221_28, w221_31, w221_32, ↓ip_ka0, ↓ip_ki1, ↓ip_ki2, ↓ip_ki3, ip_get_0, ip_get_s, ip_set1, ip_clr_s, ip_cat_i, List.set_cons_zero, List.set_cons_succ, Option.toList_some, List.nil_append, List.cons_append, List.length_nil, List.length_cons, ↓reduceIte, Nat.reduceLeDiff, Nat.reduceEqDiff, Nat.zero_add, Nat.zero_le, or_false, ip_b_f, Int32.reduceAdd, hG, hk, hl, gS_108 hG, s_208_0, s_208_1, s_208_2, s_208_3, s_208_4, s_208_5, s_208_6, s_208_7, h0, h1, h2, h3, h4, h5, decide_true, decide_false, Bool.and_false, Bool.false_and]
  by_cases h6 : M.2.1 109 (153 + 8 * k + 6) = M.2.1 109 (153 + 8 * l + 6)
  case neg =>
    simp (config := { maxSteps := 10000000, maxDischargeDepth := 30, decide := true }) only [w221_0, w221_1, w221_2, w221_3, w221_5, w221_8, w221_9, w221_10, w221_11, w221_14, w221_15, w221_16, w221_17, w221_20, w221_23, w221_24, w221_25, w221_28, w221_31, w221_32, ↓ip_ka0, ↓ip_ki1, ↓ip_ki2, ↓ip_ki3, ip_get_0, ip_get_s, ip_set1, ip_clr_s, ip_cat_i, List.set_cons_zero, List.set_cons_succ, Option.toList_some, List.nil_append, List.cons_append, List.length_nil, List.length_cons, ↓reduceIte, Nat.reduceLeDiff, Nat.reduceEqDiff, Nat.zero_add, Nat.zero_le, or_false, ip_b_f, Int32.reduceAdd, hG, hk, hl, gS_108 hG, s_208_0, s_208_1, s_208_2, s_208_3, s_208_4, s_208_5, s_208_6, s_208_7, h0, h1, h2, h3, h4, h5, h6, decide_true, decide_false, Bool.and_false, Bool.false_and]
  by_cases h7 : M.2.1 109 (153 + 8 * k + 7) = M.2.1 109 (153 + 8 * l + 7)
  case neg =>
    simp (config := { maxSteps := 10000000, maxDischargeDepth := 30, decide := true }) only [w221_0, w221_1, w221_2, w221_3, w221_5, w221_8, w221_9, w221_10, w221_11, w221_14, w221_15, w221_16, w221_17, w221_20, w221_23, w221_24, w221_25, w221_28, w221_31, w221_32, ↓ip_ka0, ↓ip_ki1, ↓ip_ki2, ↓ip_ki3, ip_get_0, ip_get_s, ip_set1, ip_clr_s, ip_cat_i, List.set_cons_zero, List.set_cons_succ, Option.toList_some, List.nil_append, List.cons_append, List.length_nil, List.length_cons, ↓reduceIte, Nat.reduceLeDiff, Nat.reduceEqDiff, Nat.zero_add, Nat.zero_le, or_false, ip_b_f, Int32.reduceAdd, hG, hk, hl, gS_108 hG, s_208_0, s_208_1, s_208_2, s_208_3, s_208_4, s_208_5, s_208_6, s_208_7, h0, h1, h2, h3, h4, h5, h6, h7, decide_true, decide_false, Bool.and_false]
  simp (config := { maxSteps := 10000000, maxDischargeDepth := 30, decide := true }) only [w221_0, w221_1, w221_2, w221_3, w221_5, w221_8, w221_9, w221_10, w221_11, w221_14, w221_15, w221_16, w221_17, w221_20, w221_23, w221_24, w221_25, w221_28, w221_31, w221_32, ↓ip_ka0, ↓ip_ki1, ↓ip_ki2, ↓ip_ki3, ip_get_0, ip_get_s, ip_set1, ip_clr_s, ip_cat_i, List.set_cons_zero, List.set_cons_succ, Option.toList_some, List.nil_append, List.cons_append, List.length_nil, List.length_cons, ↓reduceIte, Nat.reduceLeDiff, Nat.reduceEqDiff, Nat.zero_add, Nat.zero_le, or_true, ip_b_t, Int32.reduceAdd, hG, hk, hl, gS_108 hG, s_208_0, s_208_1, s_208_2, s_208_3, s_208_4, s_208_5, s_208_6, s_208_7, h0, h1, h2, h3, h4, h5, h6, h7, decide_true, Bool.and_true]

set_option maxHeartbeats 40000000 in
set_option maxRecDepth 100000 in
theorem s_222l (X : ip_X) (M : ip_H) (K : Option Value → ip_H → Prop) (last : Nat) (hl : last ≤ 60) (hG : ip_G M) (h6 : M.2.1 109 6 = -1) : ∀ (n k : Nat), k + n = last → ip_wp X 222 9 [.ref 108, .int (Int32.ofNat last), .int (Int32.ofNat k)] [] M K = K none (c_lbm M last (lbk (M.2.1 109) last n k)) := by
  intro n
  induction n with
  | zero =>
    intro k h
    have hk : (Int32.ofNat k < Int32.ofNat last) = False := by rw [ip_nlt _ _ (by omega) (by omega)]; exact eq_false (by omega)
    rw [lbk, c_lbm]
    simp (config := { maxSteps := 10000000, maxDischargeDepth := 30, decide := true }) only [w222_9, w222_10, w222_11, w222_14, w222_15, w222_18, w222_20, w222_21, w222_22, w222_25, w222_26, w222_27, w222_28, w222_31, w222_34, w222_37, w222_38, w222_41, w222_43, w222_44, w222_45, w222_46, w222_49, w222_51, w222_52, w222_53, w222_54, w222_55, w222_61, ↓ip_ki1, ↓ip_ki2, ↓reduceIte, hk]
  | succ n ih =>
    intro k h
    have hk : (Int32.ofNat k < Int32.ofNat last) = True := by rw [ip_nlt _ _ (by omega) (by omega)]; exact eq_true (by omega)
    have hk6 : k ≤ 60 := by omega
    have ei : Int32.ofNat k + 1 = Int32.ofNat (k + 1) := ip_oa k 1
    rw [lbk]
    cases ha : alk (M.2.1 109) k last
    · rw [if_neg (by decide)]
      have step : ∀ Z : Prop, ip_wp X 222 9 [.ref 108, .int (Int32.ofNat last), .int (Int32.ofNat (k + 1))] [] M K = Z → ip_wp X 222 9 [.ref 108, .int (Int32.ofNat last), .int (Int32.ofNat k)] [] M K = Z := by
        intro Z hZ
        simp (config := { maxSteps := 10000000, maxDischargeDepth := 30, decide := true }) only [w222_9, w222_10, w222_11, w222_14, w222_15, w222_18, w222_20, w222_21, w222_22, w222_25, w222_26, w222_27, w222_28, w222_31, w222_34, w222_37, w222_38, w222_41, w222_43, w222_44, w222_45, w222_46, w222_49, w222_51, w222_52, w222_53, w222_54, w222_55, w222_61, ↓ip_ka0, ↓ip_ki1, ↓ip_ki2, ip_get_0, ip_get_s, ip_set1, ip_clr_s, ip_cat_i, List.set_cons_zero, List.set_cons_succ, ip_vr_some, Option.toList_some, List.nil_append, List.cons_append, List.length_nil, ↓reduceIte, Nat.reduceEqDiff, Nat.zero_le, ip_b_f, Int32.reduceToNatClampNeg, ip_ix_eq, gS_108 hG, gS_109 hG, gR_108_1 hG, hG, hk, hl, hk6, ei, h6, ha, s_221]
        rw [w222_58]
        exact hZ
      exact step _ (ih (k + 1) (by omega))
    · rw [if_pos rfl, c_lbm]
      have hn1 : (Int32.ofNat k = -1) = False := by
        refine eq_false (fun q => ?_)
        have := congrArg Int32.toInt q
        rw [ip_nt _ (by omega)] at this
        have e : (-1 : Int32).toInt = -1 := rfl
        omega
      have es : Int32.ofNat last - Int32.ofNat k = Int32.ofNat (last - k) := ip_osb _ _ (by omega)
      have step : ∀ Z : Prop, ip_wp X 222 9 [.ref 108, .int (Int32.ofNat last), .int (Int32.ofNat (k + 1))] [] (ip_uI (ip_uI M 109 6 (Int32.ofNat k)) 109 7 (Int32.ofNat (last - k))) K = Z → ip_wp X 222 9 [.ref 108, .int (Int32.ofNat last), .int (Int32.ofNat k)] [] M K = Z := by
        intro Z hZ
        simp (config := { maxSteps := 10000000, maxDischargeDepth := 30, decide := true }) only [w222_9, w222_10, w222_11, w222_14, w222_15, w222_18, w222_20, w222_21, w222_22, w222_25, w222_26, w222_27, w222_28, w222_31, w222_34, w222_37, w222_38, w222_41, w222_43, w222_44, w222_45, w222_46, w222_49, w222_51, w222_52, w222_53, w222_54, w222_55, w222_61, ↓ip_ka0, ↓ip_ki1, ↓ip_ki2, ip_get_0, ip_get_s, ip_set1, ip_clr_s, ip_cat_i, List.set_cons_zero, List.set_cons_succ, ip_uI_R, ip_uI_sh, ip_vr_some, Option.toList_some, List.nil_append, List.cons_append, List.length_nil, ↓reduceIte, Nat.reduceEqDiff, Nat.zero_le, ip_b_t, Int32.reduceToNatClampNeg, ip_ix_eq, gS_108 hG, gS_109 hG, gR_108_1 hG, hG, hk, hl, hk6, ei, es, h6, ha, s_221]
        rw [w222_58]
        exact hZ
      refine step _ ?_
      by_cases hq : k + 1 < last
      · have hk2 : (Int32.ofNat (k + 1) < Int32.ofNat last) = True := by rw [ip_nlt _ _ (by omega) (by omega)]; exact eq_true hq
        simp (config := { maxSteps := 10000000, maxDischargeDepth := 30, decide := true }) only [w222_9, w222_10, w222_11, w222_14, w222_15, w222_18, w222_20, w222_21, w222_22, w222_25, w222_26, w222_27, w222_28, w222_31, w222_34, w222_37, w222_38, w222_41, w222_43, w222_44, w222_45, w222_46, w222_49, w222_51, w222_52, w222_53, w222_54, w222_55, w222_61, ↓ip_ka0, ↓ip_ki1, ↓ip_ki2, ip_uI_I, ip_uI_R, ip_uI_sh, ip_vr_some, ↓reduceIte, Int32.reduceToNatClampNeg, ip_ix_eq, gS_108 hG, gS_109 hG, gR_108_1 hG, hk2, hn1]
      · have hk2 : (Int32.ofNat (k + 1) < Int32.ofNat last) = False := by rw [ip_nlt _ _ (by omega) (by omega)]; exact eq_false hq
        simp (config := { maxSteps := 10000000, maxDischargeDepth := 30, decide := true }) only [w222_9, w222_10, w222_11, w222_14, w222_15, w222_18, w222_20, w222_21, w222_22, w222_25, w222_26, w222_27, w222_28, w222_31, w222_34, w222_37, w222_38, w222_41, w222_43, w222_44, w222_45, w222_46, w222_49, w222_51, w222_52, w222_53, w222_54, w222_55, w222_61, ↓ip_ki1, ↓ip_ki2, ↓reduceIte, hk2, hn1]

set_option maxHeartbeats 40000000 in
set_option maxRecDepth 100000 in
theorem s_222 (X : ip_X) (M : ip_H) (K : Option Value → ip_H → Prop) (last : Nat) (hl : last ≤ 60) (h5 : M.2.1 109 5 = Int32.ofNat last) (hG : ip_G M) : ip_wp X 222 0 [.ref 108, .retAddr 1, .retAddr 1] [] M K = K none (c_lb M last) := by
  unfold c_lb
  by_cases h6 : M.2.1 109 6 = -1
  · rw [if_pos h6]
    simp (config := { maxSteps := 10000000, maxDischargeDepth := 30, decide := true }) only [w222_0, w222_1, w222_4, w222_5, w222_6, w222_7, w222_8, ↓ip_ka0, ip_get_0, ip_get_s, ip_set1, ip_clr_s, ip_cat_i, List.set_cons_zero, List.set_cons_succ, ip_vr_some, ↓reduceIte, Nat.reduceEqDiff, Int32.reduceToNatClampNeg, ip_ix_eq, gS_108 hG, gS_109 hG, gR_108_1 hG, h5]
    exact s_222l X M K last hl hG h6 last 0 (by omega)
  · rw [if_neg h6]
    by_cases hl0 : Int32.ofNat 0 < Int32.ofNat last
    · have hl0 : (0 : Int32) < Int32.ofNat last := hl0
      simp (config := { maxSteps := 10000000, maxDischargeDepth := 30, decide := true }) only [w222_0, w222_1, w222_4, w222_5, w222_6, w222_7, w222_8, w222_9, w222_10, w222_11, w222_14, w222_15, w222_18, w222_20, w222_21, w222_22, w222_25, w222_26, w222_27, w222_28, w222_31, w222_34, w222_37, w222_38, w222_41, w222_43, w222_44, w222_45, w222_46, w222_49, w222_51, w222_52, w222_53, w222_54, w222_55, w222_61, ↓ip_ka0, ↓ip_ki1, ↓ip_ki2, ip_get_0, ip_get_s, ip_set1, ip_clr_s, ip_cat_i, List.set_cons_zero, List.set_cons_succ, ip_vr_some, ↓reduceIte, Nat.reduceEqDiff, Int32.reduceToNatClampNeg, ip_ix_eq, gS_108 hG, gS_109 hG, gR_108_1 hG, h5, h6, hl0]
    · have hl0 : ¬ (0 : Int32) < Int32.ofNat last := hl0
      simp (config := { maxSteps := 10000000, maxDischargeDepth := 30, decide := true }) only [w222_0, w222_1, w222_4, w222_5, w222_6, w222_7, w222_8, w222_9, w222_10, w222_11, w222_14, w222_15, w222_18, w222_20, w222_21, w222_22, w222_25, w222_26, w222_27, w222_28, w222_31, w222_34, w222_37, w222_38, w222_41, w222_43, w222_44, w222_45, w222_46, w222_49, w222_51, w222_52, w222_53, w222_54, w222_55, w222_61, ↓ip_ka0, ↓ip_ki1, ↓ip_ki2, ip_get_0, ip_get_s, ip_set1, ip_clr_s, ip_cat_i, List.set_cons_zero, List.set_cons_succ, ip_vr_some, ↓reduceIte, Nat.reduceEqDiff, Int32.reduceToNatClampNeg, ip_ix_eq, gS_108 hG, gS_109 hG, gR_108_1 hG, h5, hl0]

def c_dof (N cm : Nat → Int32) (fu fv t : Int32) (k : Nat) : Nat → Int32 := fun b => if b = 5 then (Int32.ofNat (k + 1)) else if b = 641 + 3 * k + 2 then t else if b = 641 + 3 * k + 1 then fv else if b = 641 + 3 * k then fu else if b = 153 + 8 * (k + 1) + 7 then (cm 7) else if b = 153 + 8 * (k + 1) + 6 then (cm 6) else if b = 153 + 8 * (k + 1) + 5 then (cm 5) else if b = 153 + 8 * (k + 1) + 4 then (cm 4) else if b = 153 + 8 * (k + 1) + 3 then (cm 3) else if b = 153 + 8 * (k + 1) + 2 then (cm 2) else if b = 153 + 8 * (k + 1) + 1 then (cm 1) else if b = 153 + 8 * (k + 1) then (cm 0) else N b
/-- nine of h in place of g's -/
def c_nine (g h : Nat → Int64) : Nat → Int64 := fun b => if b < 9 then h b else g b
def c_do (M : ip_H) (k : Nat) (t : Bool) : ip_H := ip_sL (ip_sI M 109 (c_dof (M.2.1 109) (M.2.1 119) (M.2.1 108 17) (M.2.1 108 18) (ip_b t) k)) 110 (c_nine (M.2.2.1 110) (M.2.2.1 118))
set_option maxHeartbeats 40000000 in
set_option maxRecDepth 100000 in
theorem s_220 (X : ip_X) (M : ip_H) (K : Option Value → ip_H → Prop) (k : Nat) (hk : k < 60) (h5 : M.2.1 109 5 = Int32.ofNat k) (t : Bool) (ht : M.2.1 108 27 = ip_b t) (hG : ip_G M) : ip_wp X 220 0 [.ref 108, .retAddr 1, .retAddr 1] [] M K = K none (c_lb (c_do M k t) (k + 1)) := by
  have e1 : Int32.ofNat k + 1 = Int32.ofNat (k + 1) := ip_oa k 1
  have e80 : 153 + 8 * Int32.ofNat (k + 1) + 0 = Int32.ofNat (153 + 8 * (k + 1)) := by rw [show (153 : Int32) = Int32.ofNat 153 from rfl, show (8 : Int32) = Int32.ofNat 8 from rfl, show (0 : Int32) = Int32.ofNat 0 from rfl, ip_om, ip_oa, ip_oa] <;> rfl
  have n80 := eq_false (ip_nn (153 + 8 * (k + 1)) (by omega))
  have c80 := ip_nc (153 + 8 * (k + 1)) (by omega)
  have l80 : (153 + 8 * (k + 1) < 821) = True := eq_true (by omega)
  have e81 : 153 + 8 * Int32.ofNat (k + 1) + 1 = Int32.ofNat (153 + 8 * (k + 1) + 1) := by rw [show (153 : Int32) = Int32.ofNat 153 from rfl, show (8 : Int32) = Int32.ofNat 8 from rfl, show (1 : Int32) = Int32.ofNat 1 from rfl, ip_om, ip_oa, ip_oa] <;> rfl
  have n81 := eq_false (ip_nn (153 + 8 * (k + 1) + 1) (by omega))
  have c81 := ip_nc (153 + 8 * (k + 1) + 1) (by omega)
  have l81 : (153 + 8 * (k + 1) + 1 < 821) = True := eq_true (by omega)
  have e82 : 153 + 8 * Int32.ofNat (k + 1) + 2 = Int32.ofNat (153 + 8 * (k + 1) + 2) := by rw [show (153 : Int32) = Int32.ofNat 153 from rfl, show (8 : Int32) = Int32.ofNat 8 from rfl, show (2 : Int32) = Int32.ofNat 2 from rfl, ip_om, ip_oa, ip_oa] <;> rfl
  have n82 := eq_false (ip_nn (153 + 8 * (k + 1) + 2) (by omega))
  have c82 := ip_nc (153 + 8 * (k + 1) + 2) (by omega)
  have l82 : (153 + 8 * (k + 1) + 2 < 821) = True := eq_true (by omega)
  have e83 : 153 + 8 * Int32.ofNat (k + 1) + 3 = Int32.ofNat (153 + 8 * (k + 1) + 3) := by rw [show (153 : Int32) = Int32.ofNat 153 from rfl, show (8 : Int32) = Int32.ofNat 8 from rfl, show (3 : Int32) = Int32.ofNat 3 from rfl, ip_om, ip_oa, ip_oa] <;> rfl
  have n83 := eq_false (ip_nn (153 + 8 * (k + 1) + 3) (by omega))
  have c83 := ip_nc (153 + 8 * (k + 1) + 3) (by omega)
  have l83 : (153 + 8 * (k + 1) + 3 < 821) = True := eq_true (by omega)
  have e84 : 153 + 8 * Int32.ofNat (k + 1) + 4 = Int32.ofNat (153 + 8 * (k + 1) + 4) := by rw [show (153 : Int32) = Int32.ofNat 153 from rfl, show (8 : Int32) = Int32.ofNat 8 from rfl, show (4 : Int32) = Int32.ofNat 4 from rfl, ip_om, ip_oa, ip_oa] <;> rfl
  have n84 := eq_false (ip_nn (153 + 8 * (k + 1) + 4) (by omega))
  have c84 := ip_nc (153 + 8 * (k + 1) + 4) (by omega)
  have l84 : (153 + 8 * (k + 1) + 4 < 821) = True := eq_true (by omega)
  have e85 : 153 + 8 * Int32.ofNat (k + 1) + 5 = Int32.ofNat (153 + 8 * (k + 1) + 5) := by rw [show (153 : Int32) = Int32.ofNat 153 from rfl, show (8 : Int32) = Int32.ofNat 8 from rfl, show (5 : Int32) = Int32.ofNat 5 from rfl, ip_om, ip_oa, ip_oa] <;> rfl
  have n85 := eq_false (ip_nn (153 + 8 * (k + 1) + 5) (by omega))
  have c85 := ip_nc (153 + 8 * (k + 1) + 5) (by omega)
  have l85 : (153 + 8 * (k + 1) + 5 < 821) = True := eq_true (by omega)
  have e86 : 153 + 8 * Int32.ofNat (k + 1) + 6 = Int32.ofNat (153 + 8 * (k + 1) + 6) := by rw [show (153 : Int32) = Int32.ofNat 153 from rfl, show (8 : Int32) = Int32.ofNat 8 from rfl, show (6 : Int32) = Int32.ofNat 6 from rfl, ip_om, ip_oa, ip_oa] <;> rfl
  have n86 := eq_false (ip_nn (153 + 8 * (k + 1) + 6) (by omega))
  have c86 := ip_nc (153 + 8 * (k + 1) + 6) (by omega)
  have l86 : (153 + 8 * (k + 1) + 6 < 821) = True := eq_true (by omega)
  have e87 : 153 + 8 * Int32.ofNat (k + 1) + 7 = Int32.ofNat (153 + 8 * (k + 1) + 7) := by rw [show (153 : Int32) = Int32.ofNat 153 from rfl, show (8 : Int32) = Int32.ofNat 8 from rfl, show (7 : Int32) = Int32.ofNat 7 from rfl, ip_om, ip_oa, ip_oa] <;> rfl
  have n87 := eq_false (ip_nn (153 + 8 * (k + 1) + 7) (by omega))
  have c87 := ip_nc (153 + 8 * (k + 1) + 7) (by omega)
  have l87 : (153 + 8 * (k + 1) + 7 < 821) = True := eq_true (by omega)
  have e30 : 641 + 3 * Int32.ofNat k = Int32.ofNat (641 + 3 * k) := by rw [show (641 : Int32) = Int32.ofNat 641 from rfl, show (3 : Int32) = Int32.ofNat 3 from rfl, ip_om, ip_oa]
  have n30 := eq_false (ip_nn (641 + 3 * k) (by omega))
  have c30 := ip_nc (641 + 3 * k) (by omega)
  have l30 : (641 + 3 * k < 821) = True := eq_true (by omega)
  have e31 : Int32.ofNat (641 + 3 * k) + 1 = Int32.ofNat (641 + 3 * k + 1) := ip_oa _ 1
  have n31 := eq_false (ip_nn (641 + 3 * k + 1) (by omega))
  have c31 := ip_nc (641 + 3 * k + 1) (by omega)
  have l31 : (641 + 3 * k + 1 < 821) = True := eq_true (by omega)
  have e32 : Int32.ofNat (641 + 3 * k) + 2 = Int32.ofNat (641 + 3 * k + 2) := ip_oa _ 2
  have n32 := eq_false (ip_nn (641 + 3 * k + 2) (by omega))
  have c32 := ip_nc (641 + 3 * k + 2) (by omega)
  have l32 : (641 + 3 * k + 2 < 821) = True := eq_true (by omega)
  have hk1 : k + 1 ≤ 60 := hk
  have hD : ip_wp X 220 0 [.ref 108, .retAddr 1, .retAddr 1] [] M K = ip_wp X 220 139 [.ref 108, .int (Int32.ofNat k), .int 9] [] (c_do M k t) K := by
    have key : ∀ M1, M1 = c_do M k t → ip_wp X 220 139 [.ref 108, .int (Int32.ofNat k), .int 9] [] M1 K = ip_wp X 220 139 [.ref 108, .int (Int32.ofNat k), .int 9] [] (c_do M k t) K := fun M1 h => by rw [h]
    cases t
    all_goals (simp (config := { maxSteps := 10000000, maxDischargeDepth := 30, decide := true }) only [w220_0, w220_1, w220_4, w220_5, w220_6, w220_7, w220_8, w220_9, w220_10, w220_12, w220_15, w220_16, w220_19, w220_22, w220_24, w220_25, w220_26, w220_27, w220_28, w220_29, w220_30, w220_31, w220_32, w220_35, w220_36, w220_37, w220_38, w220_41, w220_44, w220_45, w220_48, w220_51, w220_52, w220_53, w220_54, w220_55, w220_56, w220_59, w220_60, w220_61, w220_64, w220_67, w220_68, w220_69, w220_70, w220_71, w220_72, w220_73, w220_74, w220_77, w220_78, w220_79, w220_82, w220_85, w220_86, w220_87, w220_88, w220_89, w220_90, w220_91, w220_92, w220_95, w220_98, w220_99, w220_102, w220_103, w220_104, w220_105, w220_106, w220_107, w220_109, w220_112, w220_113, w220_116, w220_117, w220_118, w220_121, w220_122, w220_123, w220_124, w220_127, w220_130, w220_131, w220_134, w220_135, w220_136, w220_137, w220_138, ↓ip_ka0, ↓ip_ki1, ↓ip_ki2, ip_get_0, ip_get_s, ip_set1, ip_clr_s, ip_cat_i, List.set_cons_zero, List.set_cons_succ, ip_uI_I, ip_uI_L, ip_uI_R, ip_uI_sh, ip_uL_L, ip_uL_R, ip_uL_sh, ip_vr_some, Option.toList_none, List.nil_append, List.length_nil, ↓reduceIte, Nat.reduceEqDiff, Nat.zero_le, false_and, and_self, not_false_eq_true, ip_b_t, ip_b_f, Int32.reduceAdd, Int32.reduceToNatClampNeg, ip_ix_eq, gS_108 hG, gS_109 hG, gS_110 hG, gS_118 hG, gS_119 hG, gR_108_1 hG, gR_108_2 hG, gR_108_28 hG, gR_108_30 hG, h5, ht, e1, e80, n80, c80, l80, e81, n81, c81, l81, e82, n82, c82, l82, e83, n83, c83, l83, e84, n84, c84, l84, e85, n85, c85, l85, e86, n86, c86, l86, e87, n87, c87, l87, e30, n30, c30, l30, e31, n31, c31, l31, e32, n32, c32, l32])
    all_goals (apply key)
    all_goals (unfold c_do c_dof)
    all_goals (simp only [nf_IL])
    all_goals (rw [ip_uI_as M 109])
    all_goals (simp only [ip_uI_sI])
    all_goals (rw [ip_uL_as (ip_sI M 109 _) 110])
    all_goals (simp only [ip_uL_sL])
    all_goals (refine congr (congrArg (fun (A : ip_H) G => ip_sL A 110 G) ?_) ?_)
    all_goals (first | rfl | (funext b; unfold c_nine; match b with
      | 0 => rfl
      | 1 => rfl
      | 2 => rfl
      | 3 => rfl
      | 4 => rfl
      | 5 => rfl
      | 6 => rfl
      | 7 => rfl
      | 8 => rfl
      | n + 9 => simp [ip_sI_L]; omega))
  rw [hD]
  have hG2 : ip_G (c_do M k t) := hG
  have h52 : (c_do M k t).2.1 109 5 = Int32.ofNat (k + 1) := by
    unfold c_do
    rw [ip_sL_I, ip_sI_I, if_pos rfl]
    rfl
  simp (config := { maxSteps := 10000000, maxDischargeDepth := 30, decide := true }) only [w220_139, w220_140, ↓ip_ka0, ↓ip_ki1, ↓ip_ki2, ip_get_0, ip_get_s, ip_set1, ip_clr_s, ip_cat_i, List.set_cons_zero, List.set_cons_succ, ip_uI_I, ip_uI_L, ip_uI_R, ip_uI_sh, ip_uL_L, ip_uL_R, ip_uL_sh, ip_vr_some, Option.toList_none, List.nil_append, List.length_nil, ↓reduceIte, Nat.reduceEqDiff, Nat.zero_le, false_and, and_self, not_false_eq_true, ip_b_t, ip_b_f, Int32.reduceAdd, Int32.reduceToNatClampNeg, ip_ix_eq, gS_108 hG2]
  refine (s_222 X _ _ (k + 1) hk1 h52 hG2).trans ?_
  simp (config := { maxSteps := 10000000, maxDischargeDepth := 30, decide := true }) only [w220_143, ↓ip_ka0, ↓ip_ki1, ↓ip_ki2, ip_get_0, ip_get_s, ip_set1, ip_clr_s, ip_cat_i, List.set_cons_zero, List.set_cons_succ, ip_uI_I, ip_uI_L, ip_uI_R, ip_uI_sh, ip_uL_L, ip_uL_R, ip_uL_sh, ip_vr_some, Option.toList_none, List.nil_append, List.length_nil, ↓reduceIte, Nat.reduceEqDiff, Nat.zero_le, false_and, and_self, not_false_eq_true, ip_b_t, ip_b_f, Int32.reduceAdd, Int32.reduceToNatClampNeg, ip_ix_eq]
end
noncomputable section
-- PART 71.ops7
-- THE REFERENCE: begin, step, go, keep
theorem gG_bg (M : ip_H) (i j : Nat) (w : Int32) (h : ip_G M) : ip_G (c_bg M i j w) := by
  unfold c_bg
  repeat (first | refine gG_uL _ _ _ _ ?_ | refine gG_uI _ _ _ _ ?_)
  exact h
theorem c_bg_q (M : ip_H) (i j : Nat) (w : Int32) : (c_bg M i j w).2.1 109 1 = M.2.1 109 1 := by unfold c_bg; simp (decide := true) only [ip_uL_I, ip_uI_I, ↓reduceIte]
/-- the next step is laid out in M1 -/
def tried (M M1 : ip_H) : Prop := r_k (M.2.1 109) ≠ 60 ∧ (q_c false (M.2.2.1 110) (r_fu (M.2.1 109)).toInt64 (r_fv (M.2.1 109)).toInt64).2 = false ∧
  ∃ u v, u = zQ4 (r_v (M.2.1 109) 0) (r_v (M.2.1 109) 1) (r_v (M.2.1 109) 2) (r_g (M.2.1 109)) (r_f (M.2.1 109)) ∧ v = zQ4 (r_v (M.2.1 109) 0) (r_v (M.2.1 109) 1) (r_v (M.2.1 109) 2) (1, 0, 0, 1) (r_f (M.2.1 109)) ∧
  z_nxt (r_v (M.2.1 109) 0) (r_v (M.2.1 109) 1) (r_v (M.2.1 109) 2) u = true ∧ z_nxt (r_v (M.2.1 109) 0) (r_v (M.2.1 109) 1) (r_v (M.2.1 109) 2) v = true ∧
  M1.2.1 108 17 = r_fu (M.2.1 109) ∧ M1.2.1 108 18 = r_fv (M.2.1 109) ∧ M1.2.1 108 27 = ip_b (r_t (M.2.1 109)) ∧ (∀ j, j < 9 → M1.2.2.1 118 j = q_nx false (M.2.2.1 110) (r_fu (M.2.1 109)).toInt64 (r_fv (M.2.1 109)).toInt64 (r_t (M.2.1 109)) j) ∧
  M1.2.1 119 0 = Int32.ofInt u.1 ∧ M1.2.1 119 1 = Int32.ofInt u.2.1 ∧ M1.2.1 119 2 = Int32.ofInt u.2.2.1 ∧ M1.2.1 119 3 = Int32.ofInt u.2.2.2 ∧ M1.2.1 119 4 = Int32.ofInt v.1 ∧ M1.2.1 119 5 = Int32.ofInt v.2.1 ∧ M1.2.1 119 6 = Int32.ofInt v.2.2.1 ∧ M1.2.1 119 7 = Int32.ofInt v.2.2.2
theorem tried_row {M M2 M1 : ip_H} (h1 : M2.2.1 109 = M.2.1 109) (h2 : M2.2.2.1 110 = M.2.2.1 110) (h : tried M2 M1) : tried M M1 := by
  unfold tried at *
  rw [h1, h2] at h
  exact h
theorem scr_pm (M : ip_H) : scr M (c_pm M) := scr_pt (scr_r M)
theorem c_pm_row (M : ip_H) : (c_pm M).2.1 109 = M.2.1 109 := c_pt_row ..
theorem c_pm_110 (M : ip_H) : (c_pm M).2.2.1 110 = M.2.2.1 110 := c_pt_110 ..
theorem c_lbm_G {M : ip_H} {l : Nat} {o : Option Nat} (h : ip_G M) : ip_G (c_lbm M l o) := by cases o <;> exact h
theorem gG_lb (M : ip_H) (l : Nat) (h : ip_G M) : ip_G (c_lb M l) := by
  unfold c_lb
  split
  · exact c_lbm_G h
  · exact h
theorem c_lb_I (M : ip_H) (l a b : Nat) (h : ¬ (a = 109 ∧ (b = 6 ∨ b = 7))) : (c_lb M l).2.1 a b = M.2.1 a b := by
  unfold c_lb
  split
  · generalize lbk (M.2.1 109) l l 0 = o
    cases o with
    | none => rfl
    | some k =>
      unfold c_lbm
      rw [ip_uI_I, if_neg (by omega), ip_uI_I, if_neg (by omega)]
  · rfl
theorem c_lb_L (M : ip_H) (l : Nat) : (c_lb M l).2.2.1 = M.2.2.1 := by
  unfold c_lb
  split
  · generalize lbk (M.2.1 109) l l 0 = o
    cases o <;> rfl
  · rfl
theorem gG_do (M : ip_H) (k : Nat) (t : Bool) (h : ip_G M) : ip_G (c_do M k t) := h
theorem c_do_5 (M : ip_H) (k : Nat) (t : Bool) : (c_do M k t).2.1 109 5 = Int32.ofNat (k + 1) := by
  unfold c_do
  rw [ip_sL_I, ip_sI_I, if_pos rfl]
  rfl
/-- one that has a course, or none -/
def onc (N : Nat → Int32) : Prop := ¬ N 3 = 0 → crs N

set_option maxHeartbeats 40000000 in
set_option maxRecDepth 100000 in
theorem o_219 (X : ip_X) (M : ip_H) (K : Option Value → ip_H → Prop) (hG : ip_G M) (hc : crs (M.2.1 109)) (hF : zF (M.2.1 109 0).toInt (M.2.1 109 1).toInt (M.2.1 109 2).toInt = true) (he : r_e (M.2.1 109) = false)
    (h0 : ∀ M1, scr M M1 → K (some (.int 0)) M1) (h1 : ∀ M1, scr M M1 → tried M M1 → K (some (.int 1)) M1) : ip_wp X 219 0 [.ref 108] [] M K := by
  have hq : q3 (M.2.1 109 1) = true := by rw [q3_b]; exact (zF_b hF).2.1
  obtain ⟨bf, bg⟩ := crs_fg hF hc
  refine s_219 X M K hG hq hc.1 hc.2.1 hF bf bg (r_e_nz bf he) h0 ?_
  intro M1 hs h60 hB u v hu hv hzu hzv hM
  refine h1 M1 hs ⟨h60, hB, u, v, hu, hv, hzu, hzv, ?_⟩
  have q : ∀ j, j < 9 → M1.2.2.1 118 j = q_nx false (M.2.2.1 110) (r_fu (M.2.1 109)).toInt64 (r_fv (M.2.1 109)).toInt64 (r_t (M.2.1 109)) j := by
    intro j hj
    rw [← c_sq_n (ip_uI (c_pm M) 108 29 0) _ _ _ _ _ _ hj, hM]
    unfold c_x4
    simp (decide := true) only [c_cm_L, ip_x4_L, false_and, ↓reduceIte]
  refine ⟨?_, ?_, ?_, q, ?_⟩
  · rw [hM]; unfold c_x4 c_pm; simp (decide := true) only [c_cm_I, ip_x4_I, c_sq_I, ip_uI_I, c_pt_I, ↓reduceIte]
  · rw [hM]; unfold c_x4 c_pm; simp (decide := true) only [c_cm_I, ip_x4_I, c_sq_I, ip_uI_I, c_pt_I, ↓reduceIte]
  · rw [hM]; unfold c_x4 c_pm; simp (decide := true) only [c_cm_I, ip_x4_I, c_sq_I, ip_uI_I, c_pt_I, ↓reduceIte]
  · rw [hM]
    unfold c_x4
    simp (decide := true) only [c_cm_I, ip_x4_I, ↓reduceIte, and_self]
end
noncomputable section
-- PART 72.ops8
-- THE REFERENCE: go, keep
theorem i60 {x : Int32} (h : i_in x 1 60 = true) : ∃ i : Nat, 1 ≤ i ∧ i ≤ 60 ∧ x = Int32.ofNat i := by
  rw [i_in_z] at h
  have e0 : (1 : Int32).toInt = 1 := rfl
  have e5 : (60 : Int32).toInt = 60 := rfl
  have hx := ip_nat x (by omega)
  have e : x.toNatClampNeg = x.toInt.toNat := rfl
  exact ⟨x.toNatClampNeg, by omega, by omega, hx⟩
/-- a step done where L stands -/
def c_dn1 (L : ip_H) (t : Bool) : ip_H := c_lb (c_do L (r_k (L.2.1 109)) t) (r_k (L.2.1 109) + 1)
theorem c_dn1_5 (L : ip_H) (t : Bool) : (c_dn1 L t).2.1 109 5 = Int32.ofNat (r_k (L.2.1 109) + 1) := by
  unfold c_dn1
  rw [c_lb_I _ _ _ _ (by omega)]
  exact c_do_5 _ _ _
theorem gG_dn1 (L : ip_H) (t : Bool) (h : ip_G L) : ip_G (c_dn1 L t) := gG_lb _ _ (gG_do _ _ _ h)
/-- a value moved from a row's place into the store -/
def c_mv (M : ip_H) (i s : Nat) : ip_H := ip_uI (ip_uI (ip_uI (ip_uI M 109 (9 + 4 * i) (M.2.1 109 s)) 109 (9 + 4 * i + 1) (M.2.1 109 (s + 1))) 109 (9 + 4 * i + 2) (M.2.1 109 (s + 2))) 109 (9 + 4 * i + 3) (M.2.1 109 (s + 3))
theorem gG_mv (M : ip_H) (i s : Nat) (h : ip_G M) : ip_G (c_mv M i s) := gG_uI _ _ _ _ (gG_uI _ _ _ _ (gG_uI _ _ _ _ (gG_uI _ _ _ _ h)))
theorem c_mv_out (M : ip_H) (i s b : Nat) (h : b < 9 + 4 * i ∨ 9 + 4 * i + 4 ≤ b) : (c_mv M i s).2.1 109 b = M.2.1 109 b := by
  unfold c_mv
  rw [ip_uI_I, if_neg (by omega), ip_uI_I, if_neg (by omega), ip_uI_I, if_neg (by omega), ip_uI_I, if_neg (by omega)]

set_option maxHeartbeats 40000000 in
set_option maxRecDepth 100000 in
theorem s_225a (X : ip_X) (M : ip_H) (K : Option Value → ip_H → Prop) (i j s : Nat) (w : Value) (hw : w.category = 1) (hi : i < 6) (hj : j < 6) (hs : 153 ≤ s) (hs2 : s ≤ 800) (hG : ip_G M) : ip_wp X 225 62 [.ref 108, .int (Int32.ofNat i), .int (Int32.ofNat j), .int (Int32.ofNat s), w] [] M K = ip_wp X 225 100 [.ref 108, .int (Int32.ofNat i), .int (Int32.ofNat j), .int (Int32.ofNat s), .int 4] [] (c_mv M i (s)) K := by
  have et0 : 9 + 4 * Int32.ofNat i + 0 = Int32.ofNat (9 + 4 * i) := by rw [show (9 : Int32) = Int32.ofNat 9 from rfl, show (4 : Int32) = Int32.ofNat 4 from rfl, show (0 : Int32) = Int32.ofNat 0 from rfl, ip_om, ip_oa, ip_oa] <;> rfl
  have es0 : Int32.ofNat s + 0 = Int32.ofNat (s) := ip_oa _ 0
  have nt0 := eq_false (ip_nn (9 + 4 * i) (by omega))
  have ct0 := ip_nc (9 + 4 * i) (by omega)
  have lt0 : (9 + 4 * i < 821) = True := eq_true (by omega)
  have ns0 := eq_false (ip_nn (s) (by omega))
  have cs0 := ip_nc (s) (by omega)
  have ls0 : (s < 821) = True := eq_true (by omega)
  have et1 : 9 + 4 * Int32.ofNat i + 1 = Int32.ofNat (9 + 4 * i + 1) := by rw [show (9 : Int32) = Int32.ofNat 9 from rfl, show (4 : Int32) = Int32.ofNat 4 from rfl, show (1 : Int32) = Int32.ofNat 1 from rfl, ip_om, ip_oa, ip_oa] <;> rfl
  have es1 : Int32.ofNat s + 1 = Int32.ofNat (s + 1) := ip_oa _ 1
  have nt1 := eq_false (ip_nn (9 + 4 * i + 1) (by omega))
  have ct1 := ip_nc (9 + 4 * i + 1) (by omega)
  have lt1 : (9 + 4 * i + 1 < 821) = True := eq_true (by omega)
  have ns1 := eq_false (ip_nn (s + 1) (by omega))
  have cs1 := ip_nc (s + 1) (by omega)
  have ls1 : (s + 1 < 821) = True := eq_true (by omega)
  have et2 : 9 + 4 * Int32.ofNat i + 2 = Int32.ofNat (9 + 4 * i + 2) := by rw [show (9 : Int32) = Int32.ofNat 9 from rfl, show (4 : Int32) = Int32.ofNat 4 from rfl, show (2 : Int32) = Int32.ofNat 2 from rfl, ip_om, ip_oa, ip_oa] <;> rfl
  have es2 : Int32.ofNat s + 2 = Int32.ofNat (s + 2) := ip_oa _ 2
  have nt2 := eq_false (ip_nn (9 + 4 * i + 2) (by omega))
  have ct2 := ip_nc (9 + 4 * i + 2) (by omega)
  have lt2 : (9 + 4 * i + 2 < 821) = True := eq_true (by omega)
  have ns2 := eq_false (ip_nn (s + 2) (by omega))
  have cs2 := ip_nc (s + 2) (by omega)
  have ls2 : (s + 2 < 821) = True := eq_true (by omega)
  have et3 : 9 + 4 * Int32.ofNat i + 3 = Int32.ofNat (9 + 4 * i + 3) := by rw [show (9 : Int32) = Int32.ofNat 9 from rfl, show (4 : Int32) = Int32.ofNat 4 from rfl, show (3 : Int32) = Int32.ofNat 3 from rfl, ip_om, ip_oa, ip_oa] <;> rfl
  have es3 : Int32.ofNat s + 3 = Int32.ofNat (s + 3) := ip_oa _ 3
  have nt3 := eq_false (ip_nn (9 + 4 * i + 3) (by omega))
  have ct3 := ip_nc (9 + 4 * i + 3) (by omega)
  have lt3 : (9 + 4 * i + 3 < 821) = True := eq_true (by omega)
  have ns3 := eq_false (ip_nn (s + 3) (by omega))
  have cs3 := ip_nc (s + 3) (by omega)
  have ls3 : (s + 3 < 821) = True := eq_true (by omega)
  have d00 : (s = 9 + 4 * i) = False := eq_false (by omega)
  have d01 : (s = 9 + 4 * i + 1) = False := eq_false (by omega)
  have d02 : (s = 9 + 4 * i + 2) = False := eq_false (by omega)
  have d03 : (s = 9 + 4 * i + 3) = False := eq_false (by omega)
  have d10 : (s + 1 = 9 + 4 * i) = False := eq_false (by omega)
  have d11 : (s + 1 = 9 + 4 * i + 1) = False := eq_false (by omega)
  have d12 : (s + 1 = 9 + 4 * i + 2) = False := eq_false (by omega)
  have d13 : (s + 1 = 9 + 4 * i + 3) = False := eq_false (by omega)
  have d20 : (s + 2 = 9 + 4 * i) = False := eq_false (by omega)
  have d21 : (s + 2 = 9 + 4 * i + 1) = False := eq_false (by omega)
  have d22 : (s + 2 = 9 + 4 * i + 2) = False := eq_false (by omega)
  have d23 : (s + 2 = 9 + 4 * i + 3) = False := eq_false (by omega)
  have d30 : (s + 3 = 9 + 4 * i) = False := eq_false (by omega)
  have d31 : (s + 3 = 9 + 4 * i + 1) = False := eq_false (by omega)
  have d32 : (s + 3 = 9 + 4 * i + 2) = False := eq_false (by omega)
  have d33 : (s + 3 = 9 + 4 * i + 3) = False := eq_false (by omega)
  unfold c_mv
  simp (config := { maxSteps := 10000000, maxDischargeDepth := 30, decide := true }) only [w225_62, w225_63, w225_65, w225_67, w225_68, w225_71, w225_72, w225_75, w225_77, w225_78, w225_79, w225_80, w225_81, w225_83, w225_84, w225_85, w225_88, w225_89, w225_91, w225_92, w225_93, w225_94, w225_97, ↓ip_ka0, ↓ip_ki1, ↓ip_ki3, ↓ip_ki4, ip_get_0, ip_get_s, ip_set1, ip_clr_s, ip_cat_i, List.set_cons_zero, List.set_cons_succ, ip_uI_I, ip_uI_R, ip_uI_sh, ip_vr_some, ↓reduceIte, Nat.reduceEqDiff, and_false, and_self, not_false_eq_true, Int32.reduceAdd, ip_ix_eq, gS_108 hG, gS_109 hG, gR_108_1 hG, et0, es0, nt0, ct0, lt0, ns0, cs0, ls0, et1, es1, nt1, ct1, lt1, ns1, cs1, ls1, et2, es2, nt2, ct2, lt2, ns2, cs2, ls2, et3, es3, nt3, ct3, lt3, ns3, cs3, ls3, d00, d01, d02, d03, d10, d11, d12, d13, d20, d21, d22, d23, d30, d31, d32, d33]

set_option maxHeartbeats 40000000 in
set_option maxRecDepth 100000 in
theorem s_225b (X : ip_X) (M : ip_H) (K : Option Value → ip_H → Prop) (i j s : Nat) (w : Value) (hw : w.category = 1) (hi : i < 6) (hj : j < 6) (hs : 153 ≤ s) (hs2 : s ≤ 800) (hG : ip_G M) : ip_wp X 225 100 [.ref 108, .int (Int32.ofNat i), .int (Int32.ofNat j), .int (Int32.ofNat s), w] [] M K = ip_wp X 225 140 [.ref 108, .int (Int32.ofNat i), .int (Int32.ofNat j), .int (Int32.ofNat s), .int 4] [] (c_mv M j (s + 4)) K := by
  have et0 : 9 + 4 * Int32.ofNat j + 0 = Int32.ofNat (9 + 4 * j) := by rw [show (9 : Int32) = Int32.ofNat 9 from rfl, show (4 : Int32) = Int32.ofNat 4 from rfl, show (0 : Int32) = Int32.ofNat 0 from rfl, ip_om, ip_oa, ip_oa] <;> rfl
  have es0 : Int32.ofNat (s + 4) + 0 = Int32.ofNat (s + 4) := ip_oa _ 0
  have nt0 := eq_false (ip_nn (9 + 4 * j) (by omega))
  have ct0 := ip_nc (9 + 4 * j) (by omega)
  have lt0 : (9 + 4 * j < 821) = True := eq_true (by omega)
  have ns0 := eq_false (ip_nn (s + 4) (by omega))
  have cs0 := ip_nc (s + 4) (by omega)
  have ls0 : (s + 4 < 821) = True := eq_true (by omega)
  have et1 : 9 + 4 * Int32.ofNat j + 1 = Int32.ofNat (9 + 4 * j + 1) := by rw [show (9 : Int32) = Int32.ofNat 9 from rfl, show (4 : Int32) = Int32.ofNat 4 from rfl, show (1 : Int32) = Int32.ofNat 1 from rfl, ip_om, ip_oa, ip_oa] <;> rfl
  have es1 : Int32.ofNat (s + 4) + 1 = Int32.ofNat (s + 5) := ip_oa _ 1
  have nt1 := eq_false (ip_nn (9 + 4 * j + 1) (by omega))
  have ct1 := ip_nc (9 + 4 * j + 1) (by omega)
  have lt1 : (9 + 4 * j + 1 < 821) = True := eq_true (by omega)
  have ns1 := eq_false (ip_nn (s + 5) (by omega))
  have cs1 := ip_nc (s + 5) (by omega)
  have ls1 : (s + 5 < 821) = True := eq_true (by omega)
  have et2 : 9 + 4 * Int32.ofNat j + 2 = Int32.ofNat (9 + 4 * j + 2) := by rw [show (9 : Int32) = Int32.ofNat 9 from rfl, show (4 : Int32) = Int32.ofNat 4 from rfl, show (2 : Int32) = Int32.ofNat 2 from rfl, ip_om, ip_oa, ip_oa] <;> rfl
  have es2 : Int32.ofNat (s + 4) + 2 = Int32.ofNat (s + 6) := ip_oa _ 2
  have nt2 := eq_false (ip_nn (9 + 4 * j + 2) (by omega))
  have ct2 := ip_nc (9 + 4 * j + 2) (by omega)
  have lt2 : (9 + 4 * j + 2 < 821) = True := eq_true (by omega)
  have ns2 := eq_false (ip_nn (s + 6) (by omega))
  have cs2 := ip_nc (s + 6) (by omega)
  have ls2 : (s + 6 < 821) = True := eq_true (by omega)
  have et3 : 9 + 4 * Int32.ofNat j + 3 = Int32.ofNat (9 + 4 * j + 3) := by rw [show (9 : Int32) = Int32.ofNat 9 from rfl, show (4 : Int32) = Int32.ofNat 4 from rfl, show (3 : Int32) = Int32.ofNat 3 from rfl, ip_om, ip_oa, ip_oa] <;> rfl
  have es3 : Int32.ofNat (s + 4) + 3 = Int32.ofNat (s + 7) := ip_oa _ 3
  have nt3 := eq_false (ip_nn (9 + 4 * j + 3) (by omega))
  have ct3 := ip_nc (9 + 4 * j + 3) (by omega)
  have lt3 : (9 + 4 * j + 3 < 821) = True := eq_true (by omega)
  have ns3 := eq_false (ip_nn (s + 7) (by omega))
  have cs3 := ip_nc (s + 7) (by omega)
  have ls3 : (s + 7 < 821) = True := eq_true (by omega)
  have eo : Int32.ofNat s + 4 = Int32.ofNat (s + 4) := ip_oa _ 4
  have d00 : (s + 4 = 9 + 4 * j) = False := eq_false (by omega)
  have d01 : (s + 4 = 9 + 4 * j + 1) = False := eq_false (by omega)
  have d02 : (s + 4 = 9 + 4 * j + 2) = False := eq_false (by omega)
  have d03 : (s + 4 = 9 + 4 * j + 3) = False := eq_false (by omega)
  have d10 : (s + 5 = 9 + 4 * j) = False := eq_false (by omega)
  have d11 : (s + 5 = 9 + 4 * j + 1) = False := eq_false (by omega)
  have d12 : (s + 5 = 9 + 4 * j + 2) = False := eq_false (by omega)
  have d13 : (s + 5 = 9 + 4 * j + 3) = False := eq_false (by omega)
  have d20 : (s + 6 = 9 + 4 * j) = False := eq_false (by omega)
  have d21 : (s + 6 = 9 + 4 * j + 1) = False := eq_false (by omega)
  have d22 : (s + 6 = 9 + 4 * j + 2) = False := eq_false (by omega)
  have d23 : (s + 6 = 9 + 4 * j + 3) = False := eq_false (by omega)
  have d30 : (s + 7 = 9 + 4 * j) = False := eq_false (by omega)
  have d31 : (s + 7 = 9 + 4 * j + 1) = False := eq_false (by omega)
  have d32 : (s + 7 = 9 + 4 * j + 2) = False := eq_false (by omega)
  have d33 : (s + 7 = 9 + 4 * j + 3) = False := eq_false (by omega)
  unfold c_mv
  simp (config := { maxSteps := 10000000, maxDischargeDepth := 30, decide := true }) only [w225_100, w225_101, w225_103, w225_105, w225_106, w225_109, w225_110, w225_113, w225_115, w225_116, w225_117, w225_118, w225_119, w225_121, w225_122, w225_123, w225_126, w225_127, w225_128, w225_129, w225_131, w225_132, w225_133, w225_134, w225_137, ↓ip_ka0, ↓ip_ki2, ↓ip_ki3, ↓ip_ki4, ip_get_0, ip_get_s, ip_set1, ip_clr_s, ip_cat_i, List.set_cons_zero, List.set_cons_succ, ip_uI_I, ip_uI_R, ip_uI_sh, ip_vr_some, ↓reduceIte, Nat.reduceEqDiff, and_false, and_self, not_false_eq_true, Int32.reduceAdd, ip_ix_eq, gS_108 hG, gS_109 hG, gR_108_1 hG, et0, es0, nt0, ct0, lt0, ns0, cs0, ls0, et1, es1, nt1, ct1, lt1, ns1, cs1, ls1, et2, es2, nt2, ct2, lt2, ns2, cs2, ls2, et3, es3, nt3, ct3, lt3, ns3, cs3, ls3, eo, d00, d01, d02, d03, d10, d11, d12, d13, d20, d21, d22, d23, d30, d31, d32, d33]
end
noncomputable section
-- PART 73.ops9
-- THE REFERENCE: undo, image, back
theorem i1 {x : Int32} (h : i_in x 0 1 = true) : ∃ i : Nat, i ≤ 1 ∧ x = Int32.ofNat i := by
  rw [i_in_z] at h
  have e0 : (0 : Int32).toInt = 0 := rfl
  have e5 : (1 : Int32).toInt = 1 := rfl
  have hx := ip_nat x (by omega)
  have e : x.toNatClampNeg = x.toInt.toNat := rfl
  exact ⟨x.toNatClampNeg, by omega, hx⟩
theorem ip_11 : (1 : Int32) &&& 1 = 1 := by decide
def c_bk (M : ip_H) (m : Nat) : ip_H := ip_sL (ip_sI M 109 (c_cp (M.2.1 109) (M.2.1 112) 0 (821 * m) 821)) 110 (c_cp (M.2.2.1 110) (M.2.2.1 115) 0 (9 * m) 9)
def c_im (M : ip_H) (m : Nat) : ip_H := ip_uI (ip_sL (ip_sI M 114 (c_cp (M.2.1 114) (M.2.1 109) (821 * m) 0 821)) 116 (c_cp (M.2.2.1 116) (M.2.2.1 110) (9 * m) 0 9)) 117 m 1
def c_bi (M : ip_H) (m : Nat) : ip_H := ip_uI (ip_sL (ip_sI M 109 (c_cp (M.2.1 109) (M.2.1 114) 0 (821 * m) 821)) 110 (c_cp (M.2.2.1 110) (M.2.2.1 116) 0 (9 * m) 9)) 108 12 0
def c_sn (N : Nat → Int32) : Int32 := if N 3 = 1 then N 5 else -1
set_option maxHeartbeats 40000000 in
set_option maxRecDepth 100000 in
theorem s_171 (X : ip_X) (M : ip_H) (K : Option Value → ip_H → Prop) (m : Nat) (hm : m ≤ 7) (h12 : M.2.1 108 12 = Int32.ofNat m) (hG : ip_G M) : ip_wp X 171 0 [.ref 108, .retAddr 1] [] M K = K none (c_bk M m) := by
  simp (config := { maxSteps := 10000000, maxDischargeDepth := 30, decide := true }) only [w171_0, w171_1, ip_set1, ip_clr_s, List.set_cons_zero, List.set_cons_succ, ↓reduceIte]
  refine (s_171a0 X M K m hm h12 hG).trans ?_
  simp (config := { maxSteps := 10000000, maxDischargeDepth := 30, decide := true }) only [w171_36, w171_37, ip_set1, ip_clr_s, List.set_cons_zero, List.set_cons_succ, ↓reduceIte, Int32.reduceOfNat]
  refine (s_171b0 X (ip_sI M 109 (c_cp (M.2.1 109) (M.2.1 112) 0 (821 * m) 821)) K m hm h12 hG).trans ?_
  simp (config := { maxSteps := 10000000, maxDischargeDepth := 30, decide := true }) only [w171_70, ip_sI_L, Int32.reduceOfNat]
  rfl

set_option maxHeartbeats 40000000 in
set_option maxRecDepth 100000 in
theorem s_173 (X : ip_X) (M : ip_H) (K : Option Value → ip_H → Prop) (hG : ip_G M) : ip_wp X 173 0 [.ref 108] [] M K = K (some (.int (c_sn (M.2.1 109)))) M := by
  unfold c_sn
  by_cases h : M.2.1 109 3 = 1
  · simp (config := { maxSteps := 10000000, maxDischargeDepth := 30, decide := true }) only [w173_0, w173_1, w173_4, w173_5, w173_6, w173_7, w173_10, w173_11, w173_14, w173_15, w173_16, w173_19, w173_20, ↓ip_ka0, ip_vr_some, ↓reduceIte, Int32.reduceToNatClampNeg, ip_ix_eq, gS_108 hG, gS_109 hG, gR_108_1 hG, h]
  · simp (config := { maxSteps := 10000000, maxDischargeDepth := 30, decide := true }) only [w173_0, w173_1, w173_4, w173_5, w173_6, w173_7, w173_10, w173_11, w173_14, w173_15, w173_16, w173_19, w173_20, ↓ip_ka0, ip_vr_some, ↓reduceIte, Int32.reduceToNatClampNeg, ip_ix_eq, gS_108 hG, gS_109 hG, gR_108_1 hG, h]

set_option maxHeartbeats 40000000 in
set_option maxRecDepth 100000 in
theorem o_172 (X : ip_X) (M : ip_H) (K : Option Value → ip_H → Prop) (hG : ip_G M) (hm : m8 (M.2.1 108 12) = true) (ht : M.2.1 108 0 = 0) (h1 : M.2.1 108 12 = 0 → K (some (.int (-4))) (c_no M 4 (-4)))
    (h2 : ∀ m : Nat, m ≤ 7 → M.2.1 108 12 = Int32.ofNat (m + 1) → K (some (.int (M.2.1 113 m))) (c_ye (c_bk (ip_uI M 108 12 (Int32.ofNat m)) m))) : ip_wp X 172 0 [.ref 108] [] M K := by
  have et : ip_uI M 108 0 0 = M := ip_uI_id ht
  by_cases h0 : M.2.1 108 12 = 0
  · have h1 := h1 h0
    simp (config := { maxSteps := 10000000, maxDischargeDepth := 30, decide := true }) only [w172_0, w172_1, w172_2, w172_5, w172_6, w172_9, w172_12, w172_13, w172_15, w172_18, w172_19, w172_20_r, w172_20_i, w172_21, w172_24, w172_25, w172_26, w172_29, w172_30, w172_33, w172_34, w172_35, w172_38, w172_39, w172_42, w172_43, w172_46, ↓ip_ka0, Option.toList_some, List.nil_append, List.cons_append, List.length_nil, ↓reduceIte, Nat.zero_le, gS_108 hG, hG, et, h0, s_167_4]
    exact h1
  unfold m8 at hm
  rw [Bool.and_eq_true, decide_eq_true_eq, decide_eq_true_eq] at hm
  have hx := ip_nat _ hm.1
  have e : (M.2.1 108 12).toNatClampNeg = (M.2.1 108 12).toInt.toNat := rfl
  have hne : (M.2.1 108 12).toInt ≠ 0 := fun q => h0 (Int32.toInt_inj.mp q)
  obtain ⟨m, hm7, hmm⟩ : ∃ m : Nat, m ≤ 7 ∧ M.2.1 108 12 = Int32.ofNat (m + 1) := ⟨(M.2.1 108 12).toInt.toNat - 1, by omega, hx.trans (congrArg Int32.ofNat (by omega))⟩
  clear hx e
  have h2 := h2 m hm7 hmm
  have es : Int32.ofNat (m + 1) - 1 = Int32.ofNat m := ip_osb (m + 1) 1 (by omega)
  have hn0 : (Int32.ofNat (m + 1) = 0) = False := by rw [← hmm]; exact eq_false h0
  have nm : (Int32.ofNat m < 0) = False := eq_false (ip_nn _ (by omega))
  have cm : (Int32.ofNat m).toNatClampNeg = m := ip_nc _ (by omega)
  have lm : (m < 8) = True := eq_true (by omega)
  have gM : ip_G (ip_uI M 108 12 (Int32.ofNat m)) := hG
  simp (config := { maxSteps := 10000000, maxDischargeDepth := 30, decide := true }) only [w172_0, w172_1, w172_2, w172_5, w172_6, w172_9, w172_12, w172_13, w172_15, w172_18, w172_19, w172_20_r, w172_21, w172_24, w172_25, w172_26, w172_29, w172_30, ↓ip_ka0, ip_uI_sh, List.length_nil, ↓reduceIte, Nat.zero_le, gS_108 hG, et, hmm, hn0, es]
  refine Eq.mpr (s_171 X _ _ m hm7 (by rw [ip_uI_I, if_pos ⟨rfl, rfl⟩]) gM) ?_
  have gB : ip_G (c_bk (ip_uI M 108 12 (Int32.ofNat m)) m) := gM
  have g8 := gS_108 gB
  have r7 := gR_108_7 gB
  have g13 := gS_113 gB
  have b12 : (c_bk (ip_uI M 108 12 (Int32.ofNat m)) m).2.1 108 12 = Int32.ofNat m := rfl
  have b113 : (c_bk (ip_uI M 108 12 (Int32.ofNat m)) m).2.1 113 m = M.2.1 113 m := rfl
  simp (config := { maxSteps := 10000000, maxDischargeDepth := 30, decide := true }) only [w172_33, w172_34, w172_35, w172_38, w172_39, w172_42, w172_43, w172_46, ↓ip_ka0, ip_vr_some, Option.toList_some, Option.toList_none, List.nil_append, List.cons_append, List.length_nil, Nat.zero_le, and_self, not_false_eq_true, ip_ix_eq, gB, g8, r7, g13, b12, b113, nm, cm, lm, s_168]
  exact h2

set_option maxHeartbeats 40000000 in
set_option maxRecDepth 100000 in
theorem o_174 (X : ip_X) (M : ip_H) (K : Option Value → ip_H → Prop) (k : Int32) (hG : ip_G M) (ht : M.2.1 108 0 = 0) (h1 : i_in k 0 1 = false → K (some (.int (-1))) (c_no M 1 (-1)))
    (h3 : ∀ m : Nat, m ≤ 1 → k = Int32.ofNat m → K (some (.int (c_sn ((c_im M m).2.1 109)))) (c_ye (c_im M m))) : ip_wp X 174 0 [.ref 108, .int k, .retAddr 1] [] M K := by
  have et : ip_uI M 108 0 0 = M := ip_uI_id ht
  cases e0 : i_in k 0 1
  · have h1 := h1 e0
    simp (config := { maxSteps := 10000000, maxDischargeDepth := 30, decide := true }) only [w174_0, w174_1, w174_2, w174_5, w174_6, w174_7, w174_8, w174_11, w174_14, w174_15, w174_16, w174_19, w174_20, w174_21, w174_22, w174_23, w174_26, w174_29, w174_30, w174_33, w174_36, w174_37, w174_38, w174_39, w174_40, w174_41, w174_44, w174_45, w174_46, w174_47, w174_50, w174_53, w174_54, w174_55, w174_56, w174_58, w174_61, w174_62, w174_65, w174_67, w174_68, w174_69, w174_70, w174_71, w174_72, w174_75, w174_76, w174_77, w174_78, w174_81, w174_84, w174_85, w174_88, w174_89, w174_90, w174_91, w174_92, w174_93, w174_96, w174_99, ↓ip_ka0, ↓ip_ki1, Option.toList_some, List.nil_append, List.cons_append, List.length_nil, ↓reduceIte, Nat.zero_le, ip_b_f, gS_108 hG, hG, et, e0, s_166, s_167_1]
    exact h1
  obtain ⟨m, hm1, rfl⟩ := i1 e0
  have nm : (Int32.ofNat m < 0) = False := eq_false (ip_nn _ (by omega))
  have cm : (Int32.ofNat m).toNatClampNeg = m := ip_nc _ (by omega)
  have lm : (m < 2) = True := eq_true (by omega)
  have h3 := h3 m hm1 rfl
  simp (config := { maxSteps := 10000000, maxDischargeDepth := 30, decide := true }) only [w174_0, w174_1, w174_2, w174_5, w174_6, w174_7, w174_8, w174_11, w174_14, w174_15, w174_16, w174_19, w174_20, w174_21, ↓ip_ka0, ↓ip_ki1, ip_get_0, ip_get_s, ip_set1, ip_clr_s, ip_cat_i, List.set_cons_zero, List.set_cons_succ, Option.toList_some, List.nil_append, List.cons_append, List.length_nil, ↓reduceIte, Nat.reduceEqDiff, Nat.zero_le, ip_b_t, gS_108 hG, et, e0, nm, cm, lm, s_166]
  refine Eq.mpr (s_174a0 X M K m hm1 hG) ?_
  simp (config := { maxSteps := 10000000, maxDischargeDepth := 30, decide := true }) only [w174_53, w174_54, ip_get_0, ip_get_s, ip_set1, ip_clr_s, ip_cat_i, List.set_cons_zero, List.set_cons_succ, ↓reduceIte, Nat.reduceEqDiff, Int32.reduceOfNat]
  refine Eq.mpr (s_174b0 X (ip_sI M 114 (c_cp (M.2.1 114) (M.2.1 109) (821 * m) 0 821)) K m hm1 hG) ?_
  have gB : ip_G (ip_sL (ip_sI M 114 (c_cp (M.2.1 114) (M.2.1 109) (821 * m) 0 821)) 116 (c_cp (M.2.2.1 116) (M.2.2.1 110) (9 * m) 0 9)) := hG
  have g8 := gS_108 gB
  have r11 := gR_108_11 gB
  have g17 := gS_117 gB
  have gF : ip_G (c_im M m) := gG_uI _ _ _ _ (gG_sL _ _ _ (gG_sI _ _ _ hG))
  have g8F := gS_108 gF
  have eF : ip_uI (ip_sL (ip_sI M 114 (c_cp (M.2.1 114) (M.2.1 109) (821 * m) 0 821)) 116 (c_cp (M.2.2.1 116) (M.2.2.1 110) (9 * m) 0 9)) 117 m 1 = c_im M m := rfl
  simp (config := { maxSteps := 10000000, maxDischargeDepth := 30, decide := true }) only [w174_84, w174_85, w174_88, w174_89, w174_90, w174_91, w174_92, w174_93, w174_96, w174_99, ↓ip_ka0, ↓ip_ki1, ip_vr_some, Option.toList_some, List.nil_append, List.cons_append, List.length_nil, List.length_cons, ↓reduceIte, Nat.reduceLeDiff, Nat.reduceEqDiff, Nat.zero_add, Nat.zero_le, or_true, and_self, not_false_eq_true, ip_sI_L, ip_ix_eq, Int32.reduceOfNat, gB, g8, r11, g17, gF, g8F, nm, cm, lm, ip_11, eF, s_173, s_168]
  exact h3

set_option maxHeartbeats 40000000 in
set_option maxRecDepth 100000 in
theorem o_175 (X : ip_X) (M : ip_H) (K : Option Value → ip_H → Prop) (k : Int32) (hG : ip_G M) (ht : M.2.1 108 0 = 0) (h1 : i_in k 0 1 = false → K (some (.int (-1))) (c_no M 1 (-1))) (h2 : ∀ m : Nat, m ≤ 1 → k = Int32.ofNat m → M.2.1 117 m = 0 → K (some (.int (-2))) (c_no M 2 (-2)))
    (h3 : ∀ m : Nat, m ≤ 1 → k = Int32.ofNat m → ¬ M.2.1 117 m = 0 → K (some (.int (c_sn ((c_bi M m).2.1 109)))) (c_ye (c_bi M m))) : ip_wp X 175 0 [.ref 108, .int k, .retAddr 1] [] M K := by
  have et : ip_uI M 108 0 0 = M := ip_uI_id ht
  cases e0 : i_in k 0 1
  · have h1 := h1 e0
    simp (config := { maxSteps := 10000000, maxDischargeDepth := 30, decide := true }) only [w175_0, w175_1, w175_2, w175_5, w175_6, w175_7, w175_8, w175_11, w175_14, w175_15, w175_16, w175_19, w175_20, w175_21, w175_24, w175_25, w175_26, w175_29, w175_30, w175_32, w175_35, w175_36, w175_37, w175_38, w175_39, w175_42, w175_45, w175_46, w175_49, w175_50, w175_51, w175_54, w175_57, w175_58, w175_59, w175_60, w175_61, w175_62, w175_63, w175_66, w175_69, w175_70, w175_71, w175_72, w175_74, w175_77, w175_78, w175_81, w175_82, w175_83, w175_86, w175_88, w175_89, w175_90, w175_91, w175_92, w175_93, w175_94, w175_97, w175_100, w175_101, w175_102, w175_105, w175_106, w175_107, w175_110, w175_113, ↓ip_ka0, ↓ip_ki1, Option.toList_some, List.nil_append, List.cons_append, List.length_nil, ↓reduceIte, Nat.zero_le, ip_b_f, gS_108 hG, hG, et, e0, s_166, s_167_1]
    exact h1
  obtain ⟨m, hm1, rfl⟩ := i1 e0
  have nm : (Int32.ofNat m < 0) = False := eq_false (ip_nn _ (by omega))
  have cm : (Int32.ofNat m).toNatClampNeg = m := ip_nc _ (by omega)
  have lm : (m < 2) = True := eq_true (by omega)
  by_cases hk : M.2.1 117 m = 0
  · have h2 := h2 m hm1 rfl hk
    simp (config := { maxSteps := 10000000, maxDischargeDepth := 30, decide := true }) only [w175_0, w175_1, w175_2, w175_5, w175_6, w175_7, w175_8, w175_11, w175_14, w175_15, w175_16, w175_19, w175_20, w175_21, w175_24, w175_25, w175_26, w175_29, w175_30, w175_32, w175_35, w175_36, w175_37, w175_38, w175_39, w175_42, w175_45, w175_46, w175_49, w175_50, w175_51, w175_54, w175_57, w175_58, w175_59, w175_60, w175_61, w175_62, w175_63, w175_66, w175_69, w175_70, w175_71, w175_72, w175_74, w175_77, w175_78, w175_81, w175_82, w175_83, w175_86, w175_88, w175_89, w175_90, w175_91, w175_92, w175_93, w175_94, w175_97, w175_100, w175_101, w175_102, w175_105, w175_106, w175_107, w175_110, w175_113, ↓ip_ka0, ↓ip_ki1, ip_vr_some, Option.toList_some, List.nil_append, List.cons_append, List.length_nil, ↓reduceIte, Nat.reduceEqDiff, Nat.zero_le, or_true, and_self, not_false_eq_true, ip_b_t, ip_ix_eq, gS_108 hG, gS_117 hG, gR_108_11 hG, hG, et, e0, hk, nm, cm, lm, s_166, s_167_2]
    exact h2
  have h3 := h3 m hm1 rfl hk
  simp (config := { maxSteps := 10000000, maxDischargeDepth := 30, decide := true }) only [w175_0, w175_1, w175_2, w175_5, w175_6, w175_7, w175_8, w175_11, w175_14, w175_15, w175_16, w175_19, w175_20, w175_21, w175_24, w175_25, w175_26, w175_29, w175_30, w175_32, w175_35, w175_36, w175_37, ↓ip_ka0, ↓ip_ki1, ip_get_0, ip_get_s, ip_set1, ip_clr_s, ip_cat_i, List.set_cons_zero, List.set_cons_succ, ip_vr_some, Option.toList_some, List.nil_append, List.cons_append, List.length_nil, ↓reduceIte, Nat.reduceEqDiff, Nat.zero_le, or_true, and_self, not_false_eq_true, ip_b_t, ip_ix_eq, gS_108 hG, gS_117 hG, gR_108_11 hG, et, e0, nm, cm, lm, s_166, hk]
  refine Eq.mpr (s_175a0 X M K m hm1 hG) ?_
  simp (config := { maxSteps := 10000000, maxDischargeDepth := 30, decide := true }) only [w175_69, w175_70, ip_get_0, ip_get_s, ip_set1, ip_clr_s, ip_cat_i, List.set_cons_zero, List.set_cons_succ, ↓reduceIte, Nat.reduceEqDiff, Int32.reduceOfNat]
  refine Eq.mpr (s_175b0 X (ip_sI M 109 (c_cp (M.2.1 109) (M.2.1 114) 0 (821 * m) 821)) K m hm1 hG) ?_
  have gB : ip_G (ip_sL (ip_sI M 109 (c_cp (M.2.1 109) (M.2.1 114) 0 (821 * m) 821)) 110 (c_cp (M.2.2.1 110) (M.2.2.1 116) 0 (9 * m) 9)) := hG
  have g8 := gS_108 gB
  have r11 := gR_108_11 gB
  have g17 := gS_117 gB
  have gF : ip_G (c_bi M m) := gG_uI _ _ _ _ (gG_sL _ _ _ (gG_sI _ _ _ hG))
  have g8F := gS_108 gF
  have eF : ip_uI (ip_sL (ip_sI M 109 (c_cp (M.2.1 109) (M.2.1 114) 0 (821 * m) 821)) 110 (c_cp (M.2.2.1 110) (M.2.2.1 116) 0 (9 * m) 9)) 108 12 0 = c_bi M m := rfl
  simp (config := { maxSteps := 10000000, maxDischargeDepth := 30, decide := true }) only [w175_100, w175_101, w175_102, w175_105, w175_106, w175_107, w175_110, w175_113, ↓ip_ka0, Option.toList_some, List.nil_append, List.cons_append, List.length_nil, List.length_cons, Nat.reduceLeDiff, Nat.zero_add, Nat.zero_le, ip_sI_L, Int32.reduceOfNat, gB, g8, r11, g17, gF, g8F, nm, cm, lm, ip_11, eF, s_173, s_168]
  exact h3
end
noncomputable section
-- PART 74.meas
-- THE REFERENCE: measure
theorem bx (x : BitVec 64) : (x >>> 52) &&& 2047#64 = (x.sshiftRight 52) &&& 2047#64 := by
  apply BitVec.eq_of_getLsbD_eq
  intro i hi
  rw [BitVec.getLsbD_and, BitVec.getLsbD_and, BitVec.getLsbD_ushiftRight, BitVec.getLsbD_sshiftRight]
  by_cases h : 52 + i < 64
  · have : ¬ 64 ≤ i := by omega
    simp [h, this]
  · have e : (2047#64).getLsbD i = false := by
      have : ∀ j : Fin 64, ¬ 52 + j.val < 64 → (2047#64).getLsbD j.val = false := by decide +kernel
      exact this ⟨i, hi⟩ h
    rw [e, Bool.and_false, Bool.and_false]
theorem ip_bit1 (b : Int64) : ((b.toUInt64 >>> ((52:Int32).toInt64.toUInt64 &&& Int64.toUInt64 63)).toInt64 &&& 2047) = ((b >>> ((52:Int32).toInt64 &&& 63)) &&& 2047) := by
  have e1 : (52:Int32).toInt64.toUInt64 &&& Int64.toUInt64 63 = 52 := by decide +kernel
  have e2 : (52:Int32).toInt64 &&& 63 = 52 := by decide +kernel
  rw [e1, e2]
  apply Int64.toBitVec_inj.mp
  rw [Int64.toBitVec_and, Int64.toBitVec_and, Int64.toBitVec_shiftRight]
  exact bx b.toBitVec
theorem ip_bit2 (b : Int64) : (b &&& 4503599627370495) ||| 4503599627370496 = (b &&& 4503599627370495) + 4503599627370496 := by
  apply Int64.toBitVec_inj.mp
  rw [Int64.toBitVec_or, Int64.toBitVec_add, Int64.toBitVec_and]
  symm
  apply BitVec.add_eq_or_of_and_eq_zero
  rw [BitVec.and_assoc]
  have : (4503599627370495 : Int64).toBitVec &&& (4503599627370496 : Int64).toBitVec = 0#64 := by decide +kernel
  rw [this]
  exact BitVec.and_zero
theorem ip_bit3 (b : Int64) : 0 ≤ (b &&& 4503599627370495).toInt ∧ (b &&& 4503599627370495).toInt < 4503599627370496 := by
  have h : (b &&& 4503599627370495).toBitVec.toNat < 4503599627370496 := by
    rw [Int64.toBitVec_and, BitVec.toNat_and]
    have : (4503599627370495 : Int64).toBitVec.toNat = 2 ^ 52 - 1 := by decide +kernel
    rw [this, Nat.and_two_pow_sub_one_eq_mod]
    exact Nat.mod_lt _ (by decide)
  rw [← Int64.toInt_toBitVec, BitVec.toInt_eq_toNat_of_lt (by omega)]
  omega
theorem ip_bit4 (d : Int64) (h : 0 ≤ d.toInt) : ((d &&& 1) = 0) = (d - d / 2 * 2 = 0) := by
  apply propext
  rw [l_rem, ← Int64.toInt_inj, ← Int64.toInt_inj, Int64.toInt_mod]
  have e : (2 : Int64).toInt = 2 := by decide
  have e0 : (0 : Int64).toInt = 0 := by decide
  rw [e, e0, Int.tmod_eq_emod_of_nonneg h]
  have hn : (d &&& 1).toBitVec.toNat = d.toBitVec.toNat % 2 := by
    rw [Int64.toBitVec_and, BitVec.toNat_and]
    have : (1 : Int64).toBitVec.toNat = 2 ^ 1 - 1 := by decide +kernel
    rw [this, Nat.and_two_pow_sub_one_eq_mod]
  have h1 : (d &&& 1).toInt = ((d &&& 1).toBitVec.toNat : Int) := by
    rw [← Int64.toInt_toBitVec, BitVec.toInt_eq_toNat_of_lt (by omega)]
  have h2 : d.toInt = (d.toBitVec.toNat : Int) := by
    have := BitVec.toInt_eq_toNat_cond d.toBitVec
    rw [Int64.toInt_toBitVec] at this
    have hl := d.toBitVec.isLt
    split at this
    · exact this
    · omega
  rw [h1, hn, h2]
  omega
theorem ip_bit5 (d : Int64) (h : 0 ≤ d.toInt) : d >>> (1 &&& 63) = d / 2 := by
  have e2 : (1:Int64) &&& 63 = 1 := by decide +kernel
  rw [e2]
  apply Int64.toInt_inj.mp
  rw [Int64.toInt_div_of_ne_right _ _ (by decide)]
  have e : (2 : Int64).toInt = 2 := by decide
  rw [e, Int.tdiv_eq_ediv_of_nonneg h]
  have : (d >>> 1).toInt = d.toInt >>> 1 := by
    rw [← Int64.toInt_toBitVec, Int64.toBitVec_shiftRight]
    have e : ((Int64.toBitVec 1).smod (64 : BitVec 64)) = 1#64 := by decide +kernel
    rw [e, BitVec.toInt_sshiftRight', Int64.toInt_toBitVec]; rfl
  rw [this, Int.shiftRight_eq_div_pow]
  rfl
def mz_P (b : Int64) : Int32 := ((b >>> ((52:Int32).toInt64 &&& 63)) &&& 2047).toInt32
def mz_D (b : Int64) : Int64 := b &&& 4503599627370495
def mz_E (b : Int64) : Int64 := mz_D b + 4503599627370496
def mz_W (b : Int64) : Int32 := mz_P b + (-1075)
theorem ip_Ws (b : Int64) : mz_P b - 1075 = mz_W b := Int32.sub_eq_add_neg _ _
theorem ip_Wa (b : Int64) : mz_P b + (-1075) = mz_W b := rfl
theorem ip_Ea (b : Int64) : mz_D b + 4503599627370496 = mz_E b := rfl
theorem ip_Eo (b : Int64) : mz_D b ||| 4503599627370496 = mz_E b := ip_bit2 b
theorem ip_Da (b : Int64) : b &&& 4503599627370495 = mz_D b := rfl
theorem ip_Pa (b : Int64) : ((b >>> ((52:Int32).toInt64 &&& 63)) &&& 2047).toInt32 = mz_P b := rfl
theorem ip_Pu (b : Int64) : ((b.toUInt64 >>> ((52:Int32).toInt64.toUInt64 &&& Int64.toUInt64 63)).toInt64 &&& 2047).toInt32 = mz_P b := by rw [ip_bit1]; rfl
theorem ip_Eb (b : Int64) : (2 : Int) ^ 52 ≤ (mz_E b).toInt ∧ (mz_E b).toInt < 2 ^ 53 := by
  have h := ip_bit3 b
  have e : (4503599627370496 : Int64).toInt = 4503599627370496 := by decide
  unfold mz_E mz_D
  rw [Int64.toInt_add, e, Int.bmod_eq_of_le_mul_two (by omega) (by omega)]
  omega
def ip_sp : Nat → Int64 → Int32 → Int64 × Int32
  | 0, d, w => (d, w)
  | n + 1, d, w => if d - d / 2 * 2 = 0 then ip_sp n (d / 2) (w + 1) else (d, w)
theorem ip_hf (d : Int64) (h : 0 ≤ d.toInt) : (d / 2).toInt = d.toInt / 2 := by
  rw [Int64.toInt_div_of_ne_right _ _ (by decide)]
  have e : (2 : Int64).toInt = 2 := by decide
  rw [e, Int.tdiv_eq_ediv_of_nonneg h]
theorem ip_sp_pos : ∀ (n : Nat) (d : Int64) (w : Int32), (2 : Int) ^ n ≤ d.toInt → 0 < (ip_sp n d w).1.toInt := by
  intro n
  induction n with
  | zero => intro d w h; rw [ip_sp]; simp only [Int.pow_zero] at h; show 0 < d.toInt; omega
  | succ n ih =>
    intro d w h
    have hp : (0 : Int) < 2 ^ n := Int.pow_pos (by decide)
    have h2 : (2 : Int) ^ (n + 1) = 2 ^ n * 2 := Int.pow_succ _ _
    rw [ip_sp]
    split
    · exact ih _ _ (by rw [ip_hf _ (by omega)]; omega)
    · show 0 < d.toInt
      omega
theorem ip_odd (d : Int64) (h : d.toInt = 1) : ¬ d - d / 2 * 2 = 0 := by
  have : d = 1 := Int64.toInt_inj.mp (h.trans (by decide))
  subst this
  decide
def ip_mU (d : Int64) (w : Int32) : Int64 := if 0 < w then d <<< (w.toInt64 &&& 63) else d
def ip_mL (w : Int32) : Int64 := if w < 0 then 1 <<< ((-w).toInt64 &&& 63) else 1
def ip_db : Nat → Int64 → Int64
  | 0, u => u
  | n + 1, u => ip_db n (u * 2)
def ip_nu (w : Int32) : Nat := if 0 < w then w.toNatClampNeg else 0
def ip_nl (w : Int32) : Nat := if w < 0 then (-w).toNatClampNeg else 0
def ip_kn (w : Int32) : Nat → Int32 → Bool
  | 0, k => decide (¬ w < k)
  | n + 1, k => decide (w < k) && ip_kn w n (k + (-1))
theorem ip_Pa2 (b : Int64) : ((b >>> (52 &&& 63)) &&& 2047).toInt32 = mz_P b := by rw [← ip_Pa, ip_w_52]
def ip_15 : List Int32 := [-7, -6, -5, -4, -3, -2, -1, 0, 1, 2, 3, 4, 5, 6, 7]
theorem ip_15m (x : Int32) (h : i_in x (-7) 7 = true) : x ∈ ip_15 := by
  rw [i_in_z] at h
  simp only [Int32.reduceToInt] at h
  have h : x.toInt = -7 ∨ x.toInt = -6 ∨ x.toInt = -5 ∨ x.toInt = -4 ∨ x.toInt = -3 ∨ x.toInt = -2 ∨ x.toInt = -1 ∨ x.toInt = 0 ∨ x.toInt = 1 ∨ x.toInt = 2 ∨ x.toInt = 3 ∨ x.toInt = 4 ∨ x.toInt = 5 ∨ x.toInt = 6 ∨ x.toInt = 7 := by omega
  have e : ∀ c : Int32, x.toInt = c.toInt → x = c := fun c q => Int32.toInt_inj.mp q
  rcases h with h | h | h | h | h | h | h | h | h | h | h | h | h | h | h
  · rw [e (-7) (h.trans (by decide))]; decide
  · rw [e (-6) (h.trans (by decide))]; decide
  · rw [e (-5) (h.trans (by decide))]; decide
  · rw [e (-4) (h.trans (by decide))]; decide
  · rw [e (-3) (h.trans (by decide))]; decide
  · rw [e (-2) (h.trans (by decide))]; decide
  · rw [e (-1) (h.trans (by decide))]; decide
  · rw [e (0) (h.trans (by decide))]; decide
  · rw [e (1) (h.trans (by decide))]; decide
  · rw [e (2) (h.trans (by decide))]; decide
  · rw [e (3) (h.trans (by decide))]; decide
  · rw [e (4) (h.trans (by decide))]; decide
  · rw [e (5) (h.trans (by decide))]; decide
  · rw [e (6) (h.trans (by decide))]; decide
  · rw [e (7) (h.trans (by decide))]; decide
theorem ip_wen : ∀ w ∈ ip_15, ip_kc w (ip_nu w) 0 = true ∧ ip_kn w (ip_nl w) 0 = true ∧ (ip_db (ip_nl w) 1).toInt = 2 ^ ip_nl w ∧ ip_nu w ≤ 7 ∧ ip_nl w ≤ 7 := by decide +kernel
theorem ip_db_z : ∀ (n : Nat) (u : Int64), 0 ≤ u.toInt → u.toInt * 2 ^ n < 2 ^ 40 → (ip_db n u).toInt = u.toInt * 2 ^ n := by
  intro n
  induction n with
  | zero => intro u h0 h; rw [ip_db, Int.pow_zero, Int.mul_one]
  | succ n ih =>
    intro u h0 h
    have hp : (0 : Int) < 2 ^ n := Int.pow_pos (by decide)
    have e1 : u.toInt * (2 : Int) ^ (n + 1) = u.toInt * 2 * 2 ^ n := by rw [Int.pow_succ, Int.mul_comm ((2 : Int) ^ n), Int.mul_assoc]
    have e2 : u.toInt * 2 ≤ u.toInt * 2 * 2 ^ n := by
      have := Int.mul_le_mul_of_nonneg_left (show (1 : Int) ≤ 2 ^ n by omega) (show 0 ≤ u.toInt * 2 by omega)
      omega
    have e3 : (u * 2).toInt = u.toInt * 2 := by
      have e : (2 : Int64).toInt = 2 := by decide
      rw [Int64.toInt_mul, e, Int.bmod_eq_of_le_mul_two (by omega) (by omega)]
    rw [ip_db, ih _ (by omega) (by rw [e3]; omega), e3, e1]
theorem z_p7 {n : Nat} (h : n ≤ 7) : 1 ≤ (2 : Int) ^ n ∧ (2 : Int) ^ n ≤ 128 := by
  have hc : n = 0 ∨ n = 1 ∨ n = 2 ∨ n = 3 ∨ n = 4 ∨ n = 5 ∨ n = 6 ∨ n = 7 := by omega
  rcases hc with h | h | h | h | h | h | h | h <;> subst h <;> decide
/-- what the double is, by 2 turned off: none, or the upper number and the lower one -/
def mz (b : Int64) : Option (Int × Int) := if mz_P b = 2047 ∨ (mz_P b = 0 ∧ ¬ mz_D b = 0) then none else if mz_P b = 0 then some (0, 1) else
  if 150 < (ip_sp 52 (mz_E b) (mz_W b)).1 ∨ i_in (ip_sp 52 (mz_E b) (mz_W b)).2 (-7) 7 = false then none else
  if 150 < (ip_sp 52 (mz_E b) (mz_W b)).1.toInt * 2 ^ ip_nu (ip_sp 52 (mz_E b) (mz_W b)).2 then none else some ((ip_sp 52 (mz_E b) (mz_W b)).1.toInt * 2 ^ ip_nu (ip_sp 52 (mz_E b) (mz_W b)).2, 2 ^ ip_nl (ip_sp 52 (mz_E b) (mz_W b)).2)

set_option maxHeartbeats 40000000 in
set_option maxRecDepth 100000 in
theorem s_204l (X : ip_X) (M : ip_H) (K : Option Value → ip_H → Prop) (i p : Int32) (b pt : Int64) : ∀ (n : Nat) (d : Int64) (w : Int32), (2 : Int) ^ n ≤ d.toInt → d.toInt < 2 ^ (n + 1) → ip_wp X 204 89 [.ref 108, .int i, .long b, .retAddr 1, .int p, .long pt, .retAddr 1, .long d, .retAddr 1, .int w, .retAddr 1, .retAddr 1, .retAddr 1] [] M K = ip_wp X 204 121 [.ref 108, .int i, .long b, .retAddr 1, .int p, .long pt, .retAddr 1, .long (ip_sp n d w).1, .retAddr 1, .int (ip_sp n d w).2, .retAddr 1, .retAddr 1, .retAddr 1] [] M K := by
  intro n
  induction n with
  | zero =>
    intro d w h1 h2
    have h : d.toInt = 1 := by simp only [Int.pow_zero, Nat.zero_add, Int.pow_one] at h1 h2; omega
    have hc := ip_odd d h
    have hd : ¬ d = 0 := by intro q; rw [q] at h; exact absurd h (by decide)
    rw [ip_sp]
    simp (config := { maxSteps := 10000000, maxDischargeDepth := 30, decide := true }) only [w204_89, w204_91, w204_92, w204_93, w204_96, w204_98, w204_101, w204_102, w204_103, w204_104, w204_107, w204_109, w204_112, w204_113, w204_115, ↓ip_kl7, ↓reduceIte, not_false_eq_true, ip_cmp_eq, hd, hc]
  | succ n ih =>
    intro d w h1 h2
    have hp : (0 : Int) < 2 ^ n := Int.pow_pos (by decide)
    have e1 : (2 : Int) ^ (n + 1) = 2 ^ n * 2 := Int.pow_succ _ _
    have e2 : (2 : Int) ^ (n + 1 + 1) = 2 ^ n * 2 * 2 := by rw [Int.pow_succ, Int.pow_succ]
    have hd : ¬ d = 0 := by intro q; rw [q] at h1; have : (0 : Int64).toInt = 0 := by decide
                            omega
    rw [ip_sp]
    by_cases hc : d - d / 2 * 2 = 0
    · rw [if_pos hc, ← ih (d / 2) (w + 1) (by rw [ip_hf _ (by omega)]; omega) (by rw [ip_hf _ (by omega)]; omega)]
      have e89 := w204_89 X [.ref 108, .int i, .long b, .retAddr 1, .int p, .long pt, .retAddr 1, .long d, .retAddr 1, .int w, .retAddr 1, .retAddr 1, .retAddr 1] [] M K
      rw [e89]
      simp (config := { maxSteps := 10000000, maxDischargeDepth := 30, decide := true }) only [w204_91, w204_92, w204_93, w204_96, w204_98, w204_101, w204_102, w204_103, w204_104, w204_107, w204_109, w204_112, w204_113, w204_115, ↓ip_kl7, ↓ip_ki9, ip_get_0, ip_get_s, ip_set1, ip_set2, ip_clr_s, ip_cat_a, List.set_cons_zero, List.set_cons_succ, ↓reduceIte, Nat.reduceAdd, Nat.reduceEqDiff, not_false_eq_true, ip_cmp_eq, hd, hc]
      rw [w204_118]
    · rw [if_neg hc]
      simp (config := { maxSteps := 10000000, maxDischargeDepth := 30, decide := true }) only [w204_89, w204_91, w204_92, w204_93, w204_96, w204_98, w204_101, w204_102, w204_103, w204_104, w204_107, w204_109, w204_112, w204_113, w204_115, ↓ip_kl7, ↓reduceIte, not_false_eq_true, ip_cmp_eq, hd, hc]

set_option maxHeartbeats 40000000 in
set_option maxRecDepth 100000 in
theorem s_204u (X : ip_X) (M : ip_H) (K : Option Value → ip_H → Prop) (i p w : Int32) (b pt : Int64) : ∀ (n : Nat) (u : Int64) (k : Int32), ip_kc w n k = true → 0 < u.toInt → u.toInt * 2 ^ n < 2 ^ 40 → (∀ k' : Int32, ip_wp X 204 190 [.ref 108, .int i, .long b, .retAddr 1, .int p, .long pt, .retAddr 1, .long (ip_db n u), .retAddr 1, .int w, .long 1, .retAddr 1, .int k'] [] M K) → ip_wp X 204 162 [.ref 108, .int i, .long b, .retAddr 1, .int p, .long pt, .retAddr 1, .long u, .retAddr 1, .int w, .long 1, .retAddr 1, .int k] [] M K := by
  intro n
  induction n with
  | zero =>
    intro u k hk h0 h1 hK
    have hk' : ¬ k < w := by simpa only [ip_kc, decide_eq_true_eq] using hk
    rw [ip_db] at hK
    simp (config := { maxSteps := 10000000, maxDischargeDepth := 30, decide := true }) only [w204_162, w204_164, w204_166, w204_169, w204_171, w204_172, w204_173, w204_176, w204_178, w204_181, w204_182, w204_184, ↓ip_ki9, ↓ip_ki12, ↓reduceIte, hk']
    exact hK _
  | succ n ih =>
    intro u k hk h0 h1 hK
    simp only [ip_kc, Bool.and_eq_true, decide_eq_true_eq] at hk
    obtain ⟨hk1, hk2⟩ := hk
    have hp : (0 : Int) < 2 ^ n := Int.pow_pos (by decide)
    have e1 : u.toInt * (2 : Int) ^ (n + 1) = u.toInt * 2 * 2 ^ n := by rw [Int.pow_succ, Int.mul_comm ((2 : Int) ^ n), Int.mul_assoc]
    have e2 : u.toInt * 2 ≤ u.toInt * 2 * 2 ^ n := by
      have := Int.mul_le_mul_of_nonneg_left (show (1 : Int) ≤ 2 ^ n by omega) (show 0 ≤ u.toInt * 2 by omega)
      omega
    have e3 : (u * 2).toInt = u.toInt * 2 := by
      have e : (2 : Int64).toInt = 2 := by decide
      rw [Int64.toInt_mul, e, Int.bmod_eq_of_le_mul_two (by omega) (by omega)]
    have hd : ¬ u = 0 := by intro q; rw [q] at h0; exact absurd h0 (by decide)
    rw [ip_db] at hK
    simp (config := { maxSteps := 10000000, maxDischargeDepth := 30, decide := true }) only [w204_162, w204_164, w204_166, w204_169, w204_171, w204_172, w204_173, w204_176, w204_178, w204_181, w204_182, w204_184, ↓ip_kl7, ↓ip_ki9, ↓ip_ki12, ip_get_0, ip_get_s, ip_set1, ip_set2, ip_clr_s, ip_cat_a, List.set_cons_zero, List.set_cons_succ, ↓reduceIte, Nat.reduceAdd, Nat.reduceEqDiff, ip_cmp_eq, hk1, hd]
    rw [w204_187]
    exact ih _ _ hk2 (by omega) (by rw [e3]; omega) hK

set_option maxHeartbeats 40000000 in
set_option maxRecDepth 100000 in
theorem s_204d (X : ip_X) (M : ip_H) (K : Option Value → ip_H → Prop) (i p w : Int32) (b pt u : Int64) (hd : ¬ u = 0) : ∀ (n : Nat) (x : Int64) (k : Int32), ip_kn w n k = true → (∀ k' : Int32, ip_wp X 204 221 [.ref 108, .int i, .long b, .retAddr 1, .int p, .long pt, .retAddr 1, .long u, .retAddr 1, .int w, .long (ip_db n x), .retAddr 1, .int k'] [] M K) → ip_wp X 204 193 [.ref 108, .int i, .long b, .retAddr 1, .int p, .long pt, .retAddr 1, .long u, .retAddr 1, .int w, .long x, .retAddr 1, .int k] [] M K := by
  intro n
  induction n with
  | zero =>
    intro x k hk hK
    have hk' : ¬ w < k := by simpa only [ip_kn, decide_eq_true_eq] using hk
    rw [ip_db] at hK
    simp (config := { maxSteps := 10000000, maxDischargeDepth := 30, decide := true }) only [w204_193, w204_195, w204_197, w204_200, w204_202, w204_203, w204_204, w204_207, w204_209, w204_212, w204_213, w204_215, ↓ip_ki9, ↓ip_ki12, ↓reduceIte, hk']
    exact hK _
  | succ n ih =>
    intro x k hk hK
    simp only [ip_kn, Bool.and_eq_true, decide_eq_true_eq] at hk
    obtain ⟨hk1, hk2⟩ := hk
    rw [ip_db] at hK
    simp (config := { maxSteps := 10000000, maxDischargeDepth := 30, decide := true }) only [w204_193, w204_195, w204_197, w204_200, w204_202, w204_203, w204_204, w204_207, w204_209, w204_212, w204_213, w204_215, ↓ip_kl7, ↓ip_ki9, ↓ip_kl10, ↓ip_ki12, ip_get_0, ip_get_s, ip_set1, ip_set2, ip_clr_s, ip_cat_i, ip_cat_a, List.set_cons_zero, List.set_cons_succ, ↓reduceIte, Nat.reduceAdd, Nat.reduceEqDiff, ip_cmp_eq, hk1, hd]
    rw [w204_218]
    exact ih _ _ hk2 hK

set_option maxHeartbeats 40000000 in
set_option maxRecDepth 100000 in
theorem s_204e (X : ip_X) (M : ip_H) (K : Option Value → ip_H → Prop) (k : Nat) (hk : k < 6) (b : Int64) (w p : Int32) (pt : Int64) (U Lo : Int) (u l : Value) (hu : 0 ≤ U ∧ U ≤ 150) (hl : 1 ≤ Lo ∧ Lo ≤ 150) (w12 : Value) (hG : ip_G M) (hq : q3 (M.2.1 109 1) = true) (hm : m8 (M.2.1 108 12) = true) (ht : M.2.1 108 0 = 0) (h3 : ∀ z, z = zl ((if b < 0 then -U else U), 0, 0, Lo) → (zb 150 z.1 ∧ zb 150 z.2.1 ∧ zb 150 z.2.2.1 ∧ 1 ≤ z.2.2.2 ∧ z.2.2.2 ≤ 150) → K (some (.int (c_f4 (M.2.1 109 0).toInt (M.2.1 109 1).toInt (M.2.1 109 2).toInt z))) (c_l4 (c_x4 (c_ks M 2) z) k z)) : ip_wp X 204 237 [.ref 108, .int (Int32.ofNat k), .long b, .retAddr 1, .int p, .long pt, .retAddr 1, .long (Int64.ofInt U), .retAddr 1, .int w, .long (Int64.ofInt Lo), .retAddr 1, w12] [] M K := by
  have l0 : (0 : Int64) = Int64.ofInt 0 := rfl
  have z0 : zb 9223372036854775807 (0 : Int) := ⟨by decide, by decide⟩
  have zL : zb 9223372036854775807 Lo := ⟨by omega, by omega⟩
  have key : ∀ V : Int, zb 150 V → (∀ z, z = zl (V, 0, 0, Lo) → (zb 150 z.1 ∧ zb 150 z.2.1 ∧ zb 150 z.2.2.1 ∧ 1 ≤ z.2.2.2 ∧ z.2.2.2 ≤ 150) → K (some (.int (c_f4 (M.2.1 109 0).toInt (M.2.1 109 1).toInt (M.2.1 109 2).toInt z))) (c_l4 (c_x4 (c_ks M 2) z) k z)) → ip_wp X 204 261 [.ref 108, .int (Int32.ofNat k), .long b, .retAddr 1, .int p, .long pt, .retAddr 1, .long (Int64.ofInt U), .retAddr 1, .int w, .long (Int64.ofInt Lo), .retAddr 1, w12] [.long (Int64.ofInt Lo), .long (Int64.ofInt 0), .long (Int64.ofInt 0), .long (Int64.ofInt V), .ref 108] (c_ks M 2) K := by
    intro V hV h3
    have gk : ip_G (c_ks M 2) := gG_ks _ _ hG
    have g8 := gS_108 gk
    have zV : zb 9223372036854775807 V := zb_w hV (by decide)
    have L0 : Lo ≠ 0 := by omega
    have hLb : zb 150 Lo := ⟨by omega, by omega⟩
    have qk : q3 ((c_ks M 2).2.1 109 1) = true := by rw [c_ks_I _ _ _ _ (by decide) (by decide) (by decide)]; exact hq
    have b0 : zb 150 (0 : Int) := ⟨by decide, by decide⟩
    obtain ⟨t1, t2, t3, t4⟩ := zl_b (z := (V, 0, 0, Lo)) hV b0 b0 hLb
    have t5 := zl_d (z := (V, 0, 0, Lo)) L0
    have h3 := h3 _ rfl ⟨t1, t2, t3, t5, t4.2⟩
    rw [w204_261 X _ _ _ _ 108 _ _ _ _ (by decide) (by rw [g8]) (by rw [g8])]
    refine Eq.mpr (s_188 X (c_ks M 2) _ V 0 0 Lo gk zV z0 z0 zL L0) ?_
    have r1 : (Int64.ofInt (zl (V, 0, 0, Lo)).1).toInt = (zl (V, 0, 0, Lo)).1 := z_tb t1 (by decide)
    have r2 : (Int64.ofInt (zl (V, 0, 0, Lo)).2.1).toInt = (zl (V, 0, 0, Lo)).2.1 := z_tb t2 (by decide)
    have r3 : (Int64.ofInt (zl (V, 0, 0, Lo)).2.2.1).toInt = (zl (V, 0, 0, Lo)).2.2.1 := z_tb t3 (by decide)
    have r4 : (Int64.ofInt (zl (V, 0, 0, Lo)).2.2.2).toInt = (zl (V, 0, 0, Lo)).2.2.2 := z_tb t4 (by decide)
    unfold c_x4 c_f4 c_l4 at h3
    unfold zl at h3 r1 r2 r3 r4
    dsimp only at h3 r1 r2 r3 r4
    have i0 : M.2.1 109 0 = (c_ks M 2).2.1 109 0 := (c_ks_I _ _ _ _ (by decide) (by decide) (by decide)).symm
    have i1 : M.2.1 109 1 = (c_ks M 2).2.1 109 1 := (c_ks_I _ _ _ _ (by decide) (by decide) (by decide)).symm
    have i2 : M.2.1 109 2 = (c_ks M 2).2.1 109 2 := (c_ks_I _ _ _ _ (by decide) (by decide) (by decide)).symm
    rw [i0, i1, i2] at h3
    generalize c_ks M 2 = N at *
    simp (config := { maxSteps := 10000000, maxDischargeDepth := 30, decide := true }) only [w204_264, w204_265, w204_266, w204_269, ↓ip_ka0, ↓ip_ki1, Option.toList_some, Option.toList_none, List.nil_append, List.cons_append, List.length_nil, ↓reduceIte, Nat.zero_le, g8, gk, qk, hk, s_198, z_l2i, r1, r2, r3, r4, ip_x4_I, ip_x4_sh, gG_x4, ip_x4_L]
    exact h3
  by_cases hb : b < 0
  · rw [if_pos hb] at h3
    have key := key (-U) ⟨by omega, by omega⟩ h3
    have hb : b < Int64.ofInt 0 := hb
    simp (config := { maxSteps := 10000000, maxDischargeDepth := 30, decide := true }) only [w204_237, w204_238, w204_239, w204_242, w204_243, w204_244, w204_245, w204_246, w204_249, w204_251, w204_252, w204_255, w204_257, w204_258, w204_259, ↓ip_ka0, ↓ip_kl2, ↓ip_kl7, ↓ip_kl10, Option.toList_none, List.nil_append, List.length_nil, ↓reduceIte, Nat.zero_le, ip_cmp_lt, gS_108 hG, hG, hm, hb, s_170u, l0, ← Int64.ofInt_neg]
    exact key
  · rw [if_neg hb] at h3
    have key := key U ⟨by omega, by omega⟩ h3
    have hb : ¬ b < Int64.ofInt 0 := hb
    simp (config := { maxSteps := 10000000, maxDischargeDepth := 30, decide := true }) only [w204_237, w204_238, w204_239, w204_242, w204_243, w204_244, w204_245, w204_246, w204_249, w204_251, w204_252, w204_255, w204_257, w204_258, w204_259, ↓ip_ka0, ↓ip_kl2, ↓ip_kl7, ↓ip_kl10, Option.toList_none, List.nil_append, List.length_nil, ↓reduceIte, Nat.zero_le, ip_cmp_lt, gS_108 hG, hG, hm, hb, s_170u, l0]
    exact key

set_option maxHeartbeats 40000000 in
set_option maxRecDepth 100000 in
theorem s_204m (X : ip_X) (M : ip_H) (K : Option Value → ip_H → Prop) (k : Nat) (hk : k < 6) (b : Int64) (p : Int32) (pt d : Int64) (w : Int32) (hdp : 0 < d.toInt) (hG : ip_G M) (hq : q3 (M.2.1 109 1) = true) (hm : m8 (M.2.1 108 12) = true) (ht : M.2.1 108 0 = 0) (h2 : (150 < d ∨ i_in w (-7) 7 = false ∨ 150 < d.toInt * 2 ^ ip_nu w) → K (some (.int (-5))) (c_no M 5 (-5)))
    (h3 : ¬ 150 < d → i_in w (-7) 7 = true → ¬ 150 < d.toInt * 2 ^ ip_nu w → ∀ z, z = zl ((if b < 0 then -(d.toInt * 2 ^ ip_nu w) else d.toInt * 2 ^ ip_nu w), 0, 0, 2 ^ ip_nl w) → (zb 150 z.1 ∧ zb 150 z.2.1 ∧ zb 150 z.2.2.1 ∧ 1 ≤ z.2.2.2 ∧ z.2.2.2 ≤ 150) → K (some (.int (c_f4 (M.2.1 109 0).toInt (M.2.1 109 1).toInt (M.2.1 109 2).toInt z))) (c_l4 (c_x4 (c_ks M 2) z) k z)) : ip_wp X 204 121 [.ref 108, .int (Int32.ofNat k), .long b, .retAddr 1, .int p, .long pt, .retAddr 1, .long d, .retAddr 1, .int w, .retAddr 1, .retAddr 1, .retAddr 1] [] M K := by
  have et : ip_uI M 108 0 0 = M := ip_uI_id ht
  have hdn : ¬ d = 0 := by intro q; rw [q] at hdp; exact absurd hdp (by decide)
  by_cases hd1 : 150 < d
  · have h2 := h2 (Or.inl hd1)
    simp (config := { maxSteps := 10000000, maxDischargeDepth := 30, decide := true }) only [w204_121, w204_123, w204_126, w204_127, w204_130, w204_132, w204_133, w204_134, w204_137, w204_139, w204_141, w204_143, w204_146, w204_149, w204_150, w204_152, w204_155, ↓ip_ka0, ↓ip_kl7, Option.toList_some, List.nil_append, List.cons_append, List.length_nil, ↓reduceIte, Nat.zero_le, ip_cmp_gt, gS_108 hG, hG, s_167_5, ip_Ws, ip_Ea, Int64.neg_zero, hd1, hdn]
    exact h2
  cases hw : i_in w (-7) 7
  · have h2 := h2 (Or.inr (Or.inl hw))
    simp (config := { maxSteps := 10000000, maxDischargeDepth := 30, decide := true }) only [w204_121, w204_123, w204_126, w204_127, w204_130, w204_132, w204_133, w204_134, w204_137, w204_139, w204_141, w204_143, w204_146, w204_149, w204_150, w204_152, w204_155, ↓ip_ka0, ↓ip_kl7, ↓ip_ki9, Option.toList_some, List.nil_append, List.cons_append, List.length_nil, ↓reduceIte, Nat.zero_le, ip_b_f, ip_cmp_gt, ip_cmp_eq, gS_108 hG, hG, s_166, s_167_5, ip_Ws, ip_Ea, Int64.neg_zero, hd1, hdn, hw]
    exact h2
  obtain ⟨a1, a2, a3, a4, a5⟩ := ip_wen w (ip_15m w hw)
  have p1 := z_p7 a4
  have p2 := z_p7 a5
  have hd3 : d.toInt ≤ 150 := by
    rw [Int64.lt_iff_toInt_lt] at hd1
    have e : (150 : Int64).toInt = 150 := by decide
    omega
  have hub : d.toInt * 2 ^ ip_nu w < 2 ^ 40 := by
    have e5 : d.toInt * 2 ^ ip_nu w ≤ 150 * 128 := Int.mul_le_mul hd3 p1.2 (by omega) (by decide)
    omega
  have hU0 : 0 < d.toInt * 2 ^ ip_nu w := Int.mul_pos hdp (by omega)
  have eU := ip_db_z (ip_nu w) d (by omega) hub
  have vU : ip_db (ip_nu w) d = Int64.ofInt (d.toInt * 2 ^ ip_nu w) := by rw [← eU, Int64.ofInt_toInt]
  have vL : ip_db (ip_nl w) 1 = Int64.ofInt (2 ^ ip_nl w) := by rw [← a3, Int64.ofInt_toInt]
  have hun : ¬ ip_db (ip_nu w) d = 0 := by
    intro q
    have := congrArg Int64.toInt q
    rw [eU] at this
    have e : (0 : Int64).toInt = 0 := rfl
    omega
  have lu := s_204u X M K (Int32.ofNat k) p w b pt (ip_nu w) d 0 a1 hdp (by exact hub)
  have ld := s_204d X M K (Int32.ofNat k) p w b pt _ hun (ip_nl w) 1 0 a2
  rw [vU, vL] at ld
  rw [vU] at lu
  clear a1 a2 a3 a4 a5 eU vU vL hun
  generalize d.toInt * 2 ^ ip_nu w = U at *
  generalize (2 : Int) ^ ip_nl w = Lo at *
  have cU : (150 < Int64.ofInt U) = (150 < U) := z_lt (a := 150) ⟨by decide, by decide⟩ ⟨by omega, by omega⟩
  simp (config := { maxSteps := 10000000, maxDischargeDepth := 30, decide := true }) only [w204_121, w204_123, w204_126, w204_127, w204_130, w204_132, w204_133, w204_134, w204_137, w204_139, w204_141, w204_143, w204_146, w204_149, w204_150, w204_152, w204_155, w204_156, w204_157, w204_159, w204_160, ↓ip_kl7, ↓ip_ki9, ip_get_0, ip_get_s, ip_set1, ip_set2, ip_clr_s, ip_cat_i, ip_cat_a, List.set_cons_zero, List.set_cons_succ, Option.toList_some, List.nil_append, List.cons_append, List.length_nil, ↓reduceIte, Nat.reduceAdd, Nat.reduceEqDiff, Nat.zero_le, ip_b_t, ip_cmp_gt, ip_cmp_eq, s_166, ip_Ws, ip_Ea, Int64.neg_zero, hd1, hdn, hw]
  refine lu ?_
  intro k2
  simp (config := { maxSteps := 10000000, maxDischargeDepth := 30, decide := true }) only [w204_190, w204_191, ip_get_0, ip_get_s, ip_set1, ip_clr_s, ip_cat_a, List.set_cons_zero, List.set_cons_succ, ↓reduceIte, Nat.reduceEqDiff, ip_Ws, ip_Ea, Int64.neg_zero]
  refine ld ?_
  intro k3
  by_cases hbig : 150 < U
  · have h2 := h2 (Or.inr (Or.inr hbig))
    simp (config := { maxSteps := 10000000, maxDischargeDepth := 30, decide := true }) only [w204_221, w204_223, w204_226, w204_227, w204_230, w204_231, w204_233, w204_236, ↓ip_ka0, ↓ip_kl7, Option.toList_some, List.nil_append, List.cons_append, List.length_nil, ↓reduceIte, Nat.zero_le, ip_cmp_gt, gS_108 hG, hG, s_167_5, ip_Ws, ip_Ea, Int64.neg_zero, cU, hbig]
    exact h2
  · have h3 := h3 hd1 hw hbig
    have key := s_204e X M K k hk b w p pt U Lo .null .null ⟨by omega, by omega⟩ ⟨by omega, by omega⟩ (.int k3) hG hq hm ht h3
    simp (config := { maxSteps := 10000000, maxDischargeDepth := 30, decide := true }) only [w204_221, w204_223, w204_226, w204_227, w204_230, w204_231, w204_233, w204_236, ↓ip_kl7, ↓reduceIte, ip_cmp_gt, ip_Ws, ip_Ea, Int64.neg_zero, cU, hbig]
    exact key

set_option maxHeartbeats 40000000 in
set_option maxRecDepth 100000 in
theorem s_204z (X : ip_X) (M : ip_H) (K : Option Value → ip_H → Prop) (k : Nat) (hk : k < 6) (b : Int64) (hp0 : mz_P b = 0) (hd0 : mz_D b = 0) (hG : ip_G M) (hq : q3 (M.2.1 109 1) = true) (hm : m8 (M.2.1 108 12) = true) (ht : M.2.1 108 0 = 0) (h3 : ∀ z, z = zl ((if b < 0 then -0 else 0), 0, 0, 1) → (zb 150 z.1 ∧ zb 150 z.2.1 ∧ zb 150 z.2.2.1 ∧ 1 ≤ z.2.2.2 ∧ z.2.2.2 ≤ 150) → K (some (.int (c_f4 (M.2.1 109 0).toInt (M.2.1 109 1).toInt (M.2.1 109 2).toInt z))) (c_l4 (c_x4 (c_ks M 2) z) k z)) : ip_wp X 204 0 [.ref 108, .int (Int32.ofNat k), .long b, .retAddr 1, .retAddr 1, .retAddr 1, .retAddr 1, .retAddr 1, .retAddr 1, .retAddr 1, .retAddr 1, .retAddr 1, .retAddr 1] [] M K := by
  have et : ip_uI M 108 0 0 = M := ip_uI_id ht
  have e0 : i_in (Int32.ofNat k) 0 5 = true := by
    rw [i_in_z, ip_nt _ (by omega)]
    have e0 : (0 : Int32).toInt = 0 := rfl
    have e5 : (5 : Int32).toInt = 5 := rfl
    omega
  have key := fun w p pt w12 => s_204e X M K k hk b w p pt 0 1 .null .null ⟨by decide, by decide⟩ ⟨by decide, by decide⟩ w12 hG hq hm ht h3
  have l0 : Int64.ofInt 0 = 0 := rfl
  have l1 : Int64.ofInt 1 = 1 := rfl
  simp only [l0, l1] at key
  simp (config := { maxSteps := 10000000, maxDischargeDepth := 30, decide := true }) only [w204_0, w204_1, w204_2, w204_5, w204_6, w204_9, w204_12, w204_13, w204_15, w204_18, w204_19, w204_20, w204_22, w204_23, w204_26, w204_27, w204_28, w204_30, w204_31, w204_34, w204_35, w204_37, w204_39, w204_42, w204_45, w204_47, w204_50, w204_52, w204_53, w204_54, w204_57, w204_58, w204_60, w204_63, w204_64, w204_66, w204_69, w204_70, w204_73, w204_75, w204_78, w204_79, w204_81, w204_83, w204_86, w204_87, w204_89, w204_91, w204_92, w204_93, w204_96, w204_98, w204_101, w204_102, w204_103, w204_104, w204_107, w204_109, w204_112, w204_113, w204_115, w204_118, w204_121, w204_123, w204_126, w204_127, w204_130, w204_132, w204_133, w204_134, w204_137, w204_139, w204_141, w204_143, w204_146, w204_149, w204_150, w204_152, w204_155, w204_156, w204_157, w204_159, w204_160, w204_162, w204_164, w204_166, w204_169, w204_171, w204_172, w204_173, w204_176, w204_178, w204_181, w204_182, w204_184, w204_187, w204_190, w204_191, w204_193, w204_195, w204_197, w204_200, w204_202, w204_203, w204_204, w204_207, w204_209, w204_212, w204_213, w204_215, w204_218, w204_221, w204_223, w204_226, w204_227, w204_230, w204_231, w204_233, w204_236, ↓ip_ka0, ↓ip_ki1, ↓ip_kl2, ↓ip_ki4, ↓ip_kl5, ↓ip_kl7, ↓ip_ki9, ↓ip_ki12, ip_get_0, ip_get_s, ip_set1, ip_set2, ip_clr_s, ip_cat_i, ip_cat_a, List.set_cons_zero, List.set_cons_succ, Option.toList_some, List.nil_append, List.cons_append, List.length_nil, ↓reduceIte, Nat.reduceAdd, Nat.reduceEqDiff, Nat.zero_le, ip_b_t, Int32.reduceSub, ip_w_52, gS_108 hG, et, s_196, ip_Pa2, ip_Ws, ip_Ea, ip_Da, Int64.neg_zero, e0, hp0, hd0]
  exact key _ _ _ _
end
noncomputable section
-- PART 75.read
-- THE REFERENCE: reading. Where it stands: place, begin, token, byte
def rdf (T : Nat → Int32) (f p : Nat) : Bool := decide (p < f) && (!decide (T p < 48) && !decide (57 < T p))
def rd_sk (T : Nat → Int32) (f : Nat) : Nat → Nat → Nat
  | 0, p => p
  | n + 1, p => if p < f ∧ T p = 32 then rd_sk T f n (p + 1) else p
def rd_cap (x : Int32) : Int32 := if 100 < x then 100 else x
def rd_dg (T : Nat → Int32) (f : Nat) : Nat → Nat → Int32 → Nat × Int32
  | 0, p, t => (p, t)
  | n + 1, p, t => if rdf T f p = true then rd_dg T f n (p + 1) (rd_cap (10 * t + T p - 48)) else (p, t)
abbrev rd_S : Type := Nat × Nat × Int32 × Int32
def rd (T : Nat → Int32) (f : Nat) (s : rd_S) : rd_S :=
  if rdf T f (rd_sk T f f s.1) = true then ((rd_dg T f f (rd_sk T f f s.1) 0).1, rd_sk T f f s.1, (rd_dg T f f (rd_sk T f f s.1) 0).2, (if rd_sk T f f s.1 < f then T (rd_sk T f f s.1) else -1))
  else (rd_sk T f f s.1 + 1, rd_sk T f f s.1, (if rd_sk T f f s.1 < f then -2 else -1), (if rd_sk T f f s.1 < f then T (rd_sk T f f s.1) else -1))
def c_rs (M : ip_H) (s : rd_S) : ip_H := ip_uI (ip_uI (ip_uI (ip_uI M 108 34 (Int32.ofNat s.1)) 108 35 (Int32.ofNat s.2.1)) 108 37 s.2.2.1) 108 38 s.2.2.2
theorem c_rs_1 (M : ip_H) (s : rd_S) : (c_rs M s).1 = M.1 := rfl
theorem c_rs_R (M : ip_H) (s : rd_S) : (c_rs M s).2.2.2 = M.2.2.2 := rfl
theorem c_rs_L (M : ip_H) (s : rd_S) : (c_rs M s).2.2.1 = M.2.2.1 := rfl
theorem c_rs_sh (M : ip_H) (s : rd_S) (k : Nat) : ip_sh (c_rs M s) k = ip_sh M k := rfl
theorem gG_rs (M : ip_H) (s : rd_S) (h : ip_G M) : ip_G (c_rs M s) := gG_uI _ _ _ _ (gG_uI _ _ _ _ (gG_uI _ _ _ _ (gG_uI _ _ _ _ h)))
theorem c_rs_I (M : ip_H) (s : rd_S) (a b : Nat) : (c_rs M s).2.1 a b = if a = 108 ∧ b = 38 then s.2.2.2 else if a = 108 ∧ b = 37 then s.2.2.1 else if a = 108 ∧ b = 35 then Int32.ofNat s.2.1 else if a = 108 ∧ b = 34 then Int32.ofNat s.1 else M.2.1 a b := rfl
theorem rd_sk_le (T : Nat → Int32) (f : Nat) : ∀ (n p : Nat), p ≤ rd_sk T f n p ∧ rd_sk T f n p ≤ p + n := by
  intro n
  induction n with
  | zero => intro p; exact ⟨Nat.le_refl _, Nat.le_refl _⟩
  | succ n ih =>
    intro p
    rw [rd_sk]
    split
    · have := ih (p + 1); omega
    · omega
theorem rd_sk_f (T : Nat → Int32) (f : Nat) : ∀ (n p : Nat), p ≤ f → rd_sk T f n p ≤ f := by
  intro n
  induction n with
  | zero => intro p h; exact h
  | succ n ih =>
    intro p h
    rw [rd_sk]
    split
    · rename_i hc; exact ih _ hc.1
    · exact h
theorem rd_sk_ge (T : Nat → Int32) (f n p : Nat) (h : f ≤ p) : rd_sk T f n p = p := by
  cases n with
  | zero => rfl
  | succ n => rw [rd_sk, if_neg (by omega)]
theorem rd_dg_f (T : Nat → Int32) (f : Nat) : ∀ (n p : Nat) (t : Int32), p ≤ f → (rd_dg T f n p t).1 ≤ f := by
  intro n
  induction n with
  | zero => intro p t h; exact h
  | succ n ih =>
    intro p t h
    rw [rd_dg]
    split
    · rename_i hc
      unfold rdf at hc
      simp only [Bool.and_eq_true, decide_eq_true_eq] at hc
      exact ih _ _ hc.1
    · exact h
/-- behind a token: at most one further than the end, or one further than it was -/
theorem rd_le (T : Nat → Int32) (f : Nat) (s : rd_S) (m : Nat) (h : s.1 ≤ m) (hm : f ≤ m) : (rd T f s).1 ≤ m + 1 ∧ (rd T f s).2.1 ≤ m := by
  unfold rd
  have h2 : rd_sk T f f s.1 ≤ m := by
    rcases Nat.lt_or_ge f s.1 with q | q
    · rw [rd_sk_ge T f f s.1 (by omega)]; exact h
    · exact Nat.le_trans (rd_sk_f T f f s.1 q) hm
  split
  · rename_i hc
    refine ⟨?_, h2⟩
    have hf : rd_sk T f f s.1 ≤ f := by
      unfold rdf at hc
      simp only [Bool.and_eq_true, decide_eq_true_eq] at hc
      omega
    have := rd_dg_f T f f _ 0 hf
    dsimp only
    omega
  · dsimp only
    omega

set_option maxHeartbeats 40000000 in
set_option maxRecDepth 100000 in
theorem s_229 (X : ip_X) (M : ip_H) (K : Option Value → ip_H → Prop) (p f : Nat) (hp : p ≤ 1000) (hf : f ≤ 200) (h34 : M.2.1 108 34 = Int32.ofNat p) (h36 : M.2.1 108 36 = Int32.ofNat f) (hG : ip_G M) : ip_wp X 229 0 [.ref 108] [] M K = K (some (.int (ip_b (rdf (M.2.1 120) f p)))) M := by
  have np := eq_false (ip_nn p (by omega))
  have cp := ip_nc p (by omega)
  have lf : (Int32.ofNat p < Int32.ofNat f) = (p < f) := ip_nlt _ _ (by omega) (by omega)
  unfold rdf
  by_cases h : p < f
  · have l2 : (p < 200) = True := eq_true (by omega)
    by_cases h1 : M.2.1 120 p < 48
    · simp (config := { maxSteps := 10000000, maxDischargeDepth := 30, decide := true }) only [w229_0, w229_1, w229_4, w229_5, w229_8, w229_11, w229_12, w229_15, w229_16, w229_19, w229_20, w229_22, w229_25, w229_26, w229_29, w229_30, w229_33, w229_34, w229_36, w229_39, w229_40, w229_43, w229_44, ↓ip_ka0, ip_vr_some, ↓reduceIte, or_false, and_self, not_false_eq_true, ip_b_f, ip_ix_eq, gS_108 hG, gS_120 hG, gR_108_31 hG, h34, h36, np, cp, lf, h, l2, h1, decide_true, Bool.not_true, Bool.and_false, Bool.false_and]
    · by_cases h2 : 57 < M.2.1 120 p
      · simp (config := { maxSteps := 10000000, maxDischargeDepth := 30, decide := true }) only [w229_0, w229_1, w229_4, w229_5, w229_8, w229_11, w229_12, w229_15, w229_16, w229_19, w229_20, w229_22, w229_25, w229_26, w229_29, w229_30, w229_33, w229_34, w229_36, w229_39, w229_40, w229_43, w229_44, ↓ip_ka0, ip_vr_some, ↓reduceIte, or_false, and_self, not_false_eq_true, ip_b_f, ip_ix_eq, gS_108 hG, gS_120 hG, gR_108_31 hG, h34, h36, np, cp, lf, h, l2, h1, h2, decide_true, decide_false, Bool.not_true, Bool.not_false, Bool.and_false]
      · simp (config := { maxSteps := 10000000, maxDischargeDepth := 30, decide := true }) only [w229_0, w229_1, w229_4, w229_5, w229_8, w229_11, w229_12, w229_15, w229_16, w229_19, w229_20, w229_22, w229_25, w229_26, w229_29, w229_30, w229_33, w229_34, w229_36, w229_39, w229_40, w229_43, w229_44, ↓ip_ka0, ip_vr_some, ↓reduceIte, or_true, and_self, not_false_eq_true, ip_b_t, ip_ix_eq, gS_108 hG, gS_120 hG, gR_108_31 hG, h34, h36, np, cp, lf, h, l2, h1, h2, decide_true, decide_false, Bool.not_false, Bool.and_true]
  · simp (config := { maxSteps := 10000000, maxDischargeDepth := 30, decide := true }) only [w229_0, w229_1, w229_4, w229_5, w229_8, w229_11, w229_12, w229_15, w229_16, w229_19, w229_20, w229_22, w229_25, w229_26, w229_29, w229_30, w229_33, w229_34, w229_36, w229_39, w229_40, w229_43, w229_44, ↓ip_ka0, ↓reduceIte, or_false, ip_b_f, gS_108 hG, h34, h36, lf, h, decide_false, Bool.false_and]

set_option maxHeartbeats 40000000 in
set_option maxRecDepth 100000 in
theorem s_230a (X : ip_X) (M : ip_H) (K : Option Value → ip_H → Prop) (f : Nat) (hf : f ≤ 200) (h36 : M.2.1 108 36 = Int32.ofNat f) (hG : ip_G M) : ∀ (n p : Nat), p ≤ 1000 → f ≤ p + n → ip_wp X 230 0 [.ref 108] [] (ip_uI M 108 34 (Int32.ofNat p)) K = ip_wp X 230 38 [.ref 108] [] (ip_uI M 108 34 (Int32.ofNat (rd_sk (M.2.1 120) f n p))) K := by
  intro n
  induction n with
  | zero =>
    intro p hp hn
    have np := eq_false (ip_nn p (by omega))
    have cp := ip_nc p (by omega)
    have lf : (Int32.ofNat p < Int32.ofNat f) = (p < f) := ip_nlt _ _ (by omega) (by omega)
    have h : ¬ p < f := by omega
    rw [rd_sk]
    simp (config := { maxSteps := 10000000, maxDischargeDepth := 30, decide := true }) only [w230_0, w230_1, w230_4, w230_5, w230_8, w230_11, w230_12, w230_15, w230_16, w230_19, w230_20, w230_22, w230_25, w230_26_r, w230_27, w230_30, w230_31, w230_32, w230_35, ↓ip_ka0, ip_uI_I, ip_uI_sh, ↓reduceIte, gS_108 hG, h36, lf, h]
  | succ n ih =>
    intro p hp hn
    have np := eq_false (ip_nn p (by omega))
    have cp := ip_nc p (by omega)
    have lf : (Int32.ofNat p < Int32.ofNat f) = (p < f) := ip_nlt _ _ (by omega) (by omega)
    have e1 : Int32.ofNat p + 1 = Int32.ofNat (p + 1) := ip_oa p 1
    rw [rd_sk]
    by_cases h : p < f
    · have l2 : (p < 200) = True := eq_true (by omega)
      by_cases h2 : M.2.1 120 p = 32
      · rw [if_pos ⟨h, h2⟩, ← ih (p + 1) (by omega) (by omega)]
        have step : ∀ Z : Prop, ip_wp X 230 0 [.ref 108] [] (ip_uI M 108 34 (Int32.ofNat (p + 1))) K = Z → ip_wp X 230 0 [.ref 108] [] (ip_uI M 108 34 (Int32.ofNat p)) K = Z := by
          intro Z hZ
          simp (config := { maxSteps := 10000000, maxDischargeDepth := 30, decide := true }) only [w230_0, w230_1, w230_4, w230_5, w230_8, w230_11, w230_12, w230_15, w230_16, w230_19, w230_20, w230_22, w230_25, w230_26_r, w230_27, w230_30, w230_31, w230_32, ↓ip_ka0, ip_uI_I, ip_uI_R, ip_uI_sh, ip_vr_some, ↓reduceIte, false_and, and_self, not_false_eq_true, ip_ix_eq, gS_108 hG, gS_120 hG, gR_108_31 hG, h36, np, cp, lf, h, l2, h2, e1, ip_uI_uI]
          rw [w230_35]
          exact hZ
        exact step _ rfl
      · rw [if_neg (fun q => h2 q.2)]
        simp (config := { maxSteps := 10000000, maxDischargeDepth := 30, decide := true }) only [w230_0, w230_1, w230_4, w230_5, w230_8, w230_11, w230_12, w230_15, w230_16, w230_19, w230_20, w230_22, w230_25, w230_26_r, w230_27, w230_30, w230_31, w230_32, ↓ip_ka0, ip_uI_I, ip_uI_R, ip_uI_sh, ip_vr_some, ↓reduceIte, false_and, and_self, not_false_eq_true, ip_ix_eq, gS_108 hG, gS_120 hG, gR_108_31 hG, h36, np, cp, lf, h, l2, h2]
    · rw [if_neg (fun q => h q.1)]
      simp (config := { maxSteps := 10000000, maxDischargeDepth := 30, decide := true }) only [w230_0, w230_1, w230_4, w230_5, w230_8, w230_11, w230_12, w230_15, w230_16, w230_19, w230_20, w230_22, w230_25, w230_26_r, w230_27, w230_30, w230_31, w230_32, ↓ip_ka0, ip_uI_I, ip_uI_sh, ↓reduceIte, gS_108 hG, h36, lf, h]

set_option maxHeartbeats 40000000 in
set_option maxRecDepth 100000 in
theorem s_230b (X : ip_X) (M : ip_H) (K : Option Value → ip_H → Prop) (f : Nat) (hf : f ≤ 200) (h36 : M.2.1 108 36 = Int32.ofNat f) (hG : ip_G M) : ∀ (n p : Nat) (t : Int32), p ≤ 1000 → f ≤ p + n → ip_wp X 230 118 [.ref 108] [] (ip_uI (ip_uI M 108 34 (Int32.ofNat p)) 108 37 t) K = K none (ip_uI (ip_uI M 108 34 (Int32.ofNat (rd_dg (M.2.1 120) f n p t).1)) 108 37 (rd_dg (M.2.1 120) f n p t).2) := by
  intro n
  induction n with
  | zero =>
    intro p t hp hn
    have h : rdf (M.2.1 120) f p = false := by unfold rdf; rw [decide_eq_false (by omega)]; rfl
    have h29 := fun K => s_229 X (ip_uI (ip_uI M 108 34 (Int32.ofNat p)) 108 37 t) K p f hp hf rfl h36 hG
    have hr : (ip_uI (ip_uI M 108 34 (Int32.ofNat p)) 108 37 t).2.1 120 = M.2.1 120 := rfl
    rw [hr, h] at h29
    rw [rd_dg]
    simp (config := { maxSteps := 10000000, maxDischargeDepth := 30, decide := true }) only [w230_118, w230_119, w230_122, w230_177, ↓ip_ka0, ip_uI_sh, Option.toList_some, List.nil_append, List.cons_append, List.length_nil, ↓reduceIte, Nat.zero_le, ip_b_f, gS_108 hG, h29]
  | succ n ih =>
    intro p t hp hn
    have np := eq_false (ip_nn p (by omega))
    have cp := ip_nc p (by omega)
    have lf : (Int32.ofNat p < Int32.ofNat f) = (p < f) := ip_nlt _ _ (by omega) (by omega)
    have e1 : Int32.ofNat p + 1 = Int32.ofNat (p + 1) := ip_oa p 1
    have h29 := fun K => s_229 X (ip_uI (ip_uI M 108 34 (Int32.ofNat p)) 108 37 t) K p f hp hf rfl h36 hG
    have hr : (ip_uI (ip_uI M 108 34 (Int32.ofNat p)) 108 37 t).2.1 120 = M.2.1 120 := rfl
    rw [hr] at h29
    rw [rd_dg]
    cases h : rdf (M.2.1 120) f p
    · rw [h] at h29
      rw [if_neg (by decide)]
      simp (config := { maxSteps := 10000000, maxDischargeDepth := 30, decide := true }) only [w230_118, w230_119, w230_122, w230_177, ↓ip_ka0, ip_uI_sh, Option.toList_some, List.nil_append, List.cons_append, List.length_nil, ↓reduceIte, Nat.zero_le, ip_b_f, gS_108 hG, h29]
    · rw [h] at h29
      have hl : p < f := by
        unfold rdf at h
        simp only [Bool.and_eq_true, decide_eq_true_eq] at h
        exact h.1
      have l2 : (p < 200) = True := eq_true (by omega)
      rw [if_pos rfl, ← ih (p + 1) _ (by omega) (by omega)]
      have step : ∀ Z : Prop, ip_wp X 230 118 [.ref 108] [] (ip_uI (ip_uI M 108 34 (Int32.ofNat (p + 1))) 108 37 (rd_cap (10 * t + M.2.1 120 p - 48))) K = Z → ip_wp X 230 118 [.ref 108] [] (ip_uI (ip_uI M 108 34 (Int32.ofNat p)) 108 37 t) K = Z := by
        intro Z hZ
        unfold rd_cap at hZ
        by_cases h100 : 100 < 10 * t + M.2.1 120 p - 48
        · rw [if_pos h100] at hZ
          simp (config := { maxSteps := 10000000, maxDischargeDepth := 30, decide := true }) only [w230_118, w230_119, w230_122, w230_125, w230_126, w230_128, w230_129, w230_132, w230_133, w230_134, w230_137, w230_138, w230_141, w230_142, w230_143, w230_145, w230_146, w230_149, w230_150, w230_153, w230_155, w230_158, w230_159, w230_161, w230_164, w230_165_r, w230_166, w230_169, w230_170, w230_171, ↓ip_ka0, ip_uI_I, ip_uI_R, ip_uI_sh, ip_vr_some, Option.toList_some, List.nil_append, List.cons_append, List.length_nil, ↓reduceIte, Nat.reduceLT, Nat.zero_le, false_and, and_self, not_false_eq_true, ip_b_t, ip_ix_eq, gS_108 hG, gS_120 hG, gR_108_31 hG, h29, np, cp, l2, e1, h100, ip_uI_uI, nf_II]
          rw [w230_174]
          exact hZ
        · rw [if_neg h100] at hZ
          simp (config := { maxSteps := 10000000, maxDischargeDepth := 30, decide := true }) only [w230_118, w230_119, w230_122, w230_125, w230_126, w230_128, w230_129, w230_132, w230_133, w230_134, w230_137, w230_138, w230_141, w230_142, w230_143, w230_145, w230_146, w230_149, w230_150, w230_153, w230_155, w230_158, w230_159, w230_161, w230_164, w230_165_r, w230_166, w230_169, w230_170, w230_171, ↓ip_ka0, ip_uI_I, ip_uI_R, ip_uI_sh, ip_vr_some, Option.toList_some, List.nil_append, List.cons_append, List.length_nil, ↓reduceIte, Nat.reduceLT, Nat.zero_le, false_and, and_self, not_false_eq_true, ip_b_t, ip_ix_eq, gS_108 hG, gS_120 hG, gR_108_31 hG, h29, np, cp, l2, e1, h100, ip_uI_uI, nf_II]
          rw [w230_174]
          exact hZ
      exact step _ rfl
end
noncomputable section
-- PART 76.read2
-- THE REFERENCE: a text read
def rd_w (s : rd_S) : Bool := !decide (s.2.2.1 < 0) && decide (s.2.2.1 < 100)
/-- one number more: whether, what is read, where it stands -/
def rd_1 (T : Nat → Int32) (f k : Nat) (D : Nat → Int32) (s : rd_S) : Bool × (Nat → Int32) × rd_S :=
  if rd_w s = true then
    if rd_w (rd T f s) = true then
      if (decide ((rd T f (rd T f s)).2.2.1 = -2) && decide ((rd T f (rd T f s)).2.2.2 = 116)) = true then (true, (fun b => if b = 3 * k + 2 then 1 else if b = 3 * k + 1 then (rd T f s).2.2.1 else if b = 3 * k then s.2.2.1 else D b), rd T f (rd T f (rd T f s)))
      else (true, (fun b => if b = 3 * k + 2 then 0 else if b = 3 * k + 1 then (rd T f s).2.2.1 else if b = 3 * k then s.2.2.1 else D b), rd T f (rd T f s))
    else (false, (fun b => if b = 3 * k then s.2.2.1 else D b), rd T f s)
  else (false, D, s)
/-- all: how many (none: 0), what is read, where it stands -/
def rd_all (T : Nat → Int32) (f : Nat) : Nat → Nat → (Nat → Int32) → rd_S → Nat × (Nat → Int32) × rd_S
  | 0, _, D, s => (0, D, s)
  | n + 1, k, D, s => if (rd_1 T f k D s).1 = true then
      if (rd_1 T f k D s).2.2.2.2.1 = -1 then (k + 1, (rd_1 T f k D s).2.1, (rd_1 T f k D s).2.2)
      else if (rd_1 T f k D s).2.2.2.2.2 = 59 ∧ (rd_1 T f k D s).2.2.2.2.1 = -2 then rd_all T f n (k + 1) (rd_1 T f k D s).2.1 (rd T f (rd_1 T f k D s).2.2)
      else (0, (rd_1 T f k D s).2.1, (rd_1 T f k D s).2.2)
    else (0, (rd_1 T f k D s).2.1, (rd_1 T f k D s).2.2)
theorem c_rs_34 (M : ip_H) (s : rd_S) (p : Nat) : ip_uI (c_rs M s) 108 34 (Int32.ofNat p) = c_rs M (p, s.2) := by
  unfold c_rs
  simp (decide := true) only [nf_II, ip_uI_uI]
theorem c_rs_37 (M : ip_H) (s : rd_S) (t : Int32) : ip_uI (c_rs M s) 108 37 t = c_rs M (s.1, s.2.1, t, s.2.2.2) := by
  unfold c_rs
  simp (decide := true) only [nf_II, ip_uI_uI]
def c_rD (M : ip_H) (D : Nat → Int32) (s : rd_S) : ip_H := c_rs (ip_sI M 121 D) s
theorem c_rD_sI (M : ip_H) (D : Nat → Int32) (s : rd_S) (j : Nat) (v : Int32) : ip_uI (c_rD M D s) 121 j v = c_rD M (fun b => if b = j then v else D b) s := by
  have e : (ip_uI (c_rD M D s) 121 j v).2.1 = (c_rD M (fun b => if b = j then v else D b) s).2.1 := by
    funext a b
    unfold c_rD
    simp only [ip_uI_I, c_rs_I, ip_sI_I]
    by_cases h : a = 121
    · subst h
      simp (decide := true) only [false_and, true_and, ↓reduceIte]
    · simp only [h, false_and, ↓reduceIte]
  exact Prod.ext rfl (Prod.ext e rfl)

set_option maxHeartbeats 40000000 in
set_option maxRecDepth 100000 in
theorem s_230 (X : ip_X) (M : ip_H) (K : Option Value → ip_H → Prop) (s : rd_S) (f : Nat) (hp : s.1 ≤ 700) (hf : f ≤ 200) (h36 : M.2.1 108 36 = Int32.ofNat f) (hG : ip_G M) : ip_wp X 230 0 [.ref 108] [] (c_rs M s) K = K none (c_rs M (rd (M.2.1 120) f s)) := by
  have ge : ip_G (c_rs M s) := gG_rs _ _ hG
  have e36 : (c_rs M s).2.1 108 36 = Int32.ofNat f := h36
  have ha := s_230a X (c_rs M s) K f hf e36 ge f s.1 (by omega) (by omega)
  rw [ip_uI_id (M := c_rs M s) (k := 108) (j := 34) (v := Int32.ofNat s.1) rfl] at ha
  have eT : (c_rs M s).2.1 120 = M.2.1 120 := rfl
  rw [eT] at ha
  rw [ha]
  clear ha
  have hle := rd_sk_le (M.2.1 120) f f s.1
  have hle2 := rd_le (M.2.1 120) f s 900 (by omega) (by omega)
  unfold rd at hle2 ⊢
  generalize (rd_sk (M.2.1 120) f f s.1) = p at *
  have np := eq_false (ip_nn p (by omega))
  have cp := ip_nc p (by omega)
  have lf : (Int32.ofNat p < Int32.ofNat f) = (p < f) := ip_nlt _ _ (by omega) (by omega)
  have e1 : Int32.ofNat p + 1 = Int32.ofNat (p + 1) := ip_oa p 1
  have hmid : ∀ (v t : Int32), (p < f → v = M.2.1 120 p ∧ t = -2) → (¬ p < f → v = -1 ∧ t = -1) → ip_wp X 230 38 [.ref 108] [] (ip_uI (c_rs M s) 108 34 (Int32.ofNat p)) K = ip_wp X 230 95 [.ref 108] [] (c_rs M (p, p, t, v)) K := by
    intro v t hv1 hv2
    have key : ∀ M1, M1 = c_rs M (p, p, t, v) → ip_wp X 230 95 [.ref 108] [] M1 K = ip_wp X 230 95 [.ref 108] [] (c_rs M (p, p, t, v)) K := fun M1 h => by rw [h]
    by_cases h : p < f
    · obtain ⟨rfl, rfl⟩ := hv1 h
      have l2 : (p < 200) = True := eq_true (by omega)
      simp (config := { maxSteps := 10000000, maxDischargeDepth := 30, decide := true }) only [w230_38, w230_39, w230_40, w230_43, w230_46, w230_47, w230_48, w230_51, w230_52, w230_55, w230_58, w230_59, w230_62, w230_63, w230_66, w230_67, w230_70, w230_71, w230_74, w230_75, w230_76, w230_79, w230_80, w230_83, w230_86, w230_88, w230_91, w230_92, ↓ip_ka0, ip_uI_I, ip_uI_R, ip_uI_sh, ip_vr_some, ↓reduceIte, false_and, and_self, not_false_eq_true, ip_ix_eq, gS_108 hG, gS_120 hG, gR_108_31 hG, gG_rs, h36, np, cp, lf, l2, h, c_rs_1, c_rs_R, c_rs_L, c_rs_sh, gG_rs, c_rs_I]
      apply key
      unfold c_rs
      simp (decide := true) only [nf_II, ip_uI_uI]
    · obtain ⟨rfl, rfl⟩ := hv2 h
      simp (config := { maxSteps := 10000000, maxDischargeDepth := 30, decide := true }) only [w230_38, w230_39, w230_40, w230_43, w230_46, w230_47, w230_48, w230_51, w230_52, w230_55, w230_58, w230_59, w230_62, w230_63, w230_66, w230_67, w230_70, w230_71, w230_74, w230_75, w230_76, w230_79, w230_80, w230_83, w230_86, w230_88, w230_91, w230_92, ↓ip_ka0, ip_uI_I, ip_uI_sh, ↓reduceIte, gS_108 hG, h36, lf, h, c_rs_1, c_rs_R, c_rs_L, c_rs_sh, gG_rs, c_rs_I]
      apply key
      unfold c_rs
      simp (decide := true) only [nf_II, ip_uI_uI]
  have h29 : ∀ (v t : Int32) K, ip_wp X 229 0 [.ref 108] [] (c_rs M (p, p, t, v)) K = K (some (.int (ip_b (rdf (M.2.1 120) f p)))) (c_rs M (p, p, t, v)) := fun v t K => s_229 X (c_rs M (p, p, t, v)) K p f (by omega) hf rfl h36 hG
  cases hr : rdf (M.2.1 120) f p
  · rw [if_neg (by decide)]
    have key : ∀ M1 t v, M1 = c_rs M (p + 1, p, t, v) → (t = (if p < f then -2 else -1)) → (v = (if p < f then M.2.1 120 p else -1)) → K none M1 = K none (c_rs M (p + 1, p, (if p < f then -2 else -1), (if p < f then M.2.1 120 p else -1))) := fun M1 t v h h1 h2 => by rw [h, h1, h2]
    have fin : ∀ v t, ip_wp X 230 95 [.ref 108] [] (c_rs M (p, p, t, v)) K = K none (c_rs M (p + 1, p, t, v)) := by
      intro v t
      have gE : ip_G (c_rs M (p, p, t, v)) := gG_rs _ _ hG
      have g8 := gS_108 gE
      have key : ∀ M1, M1 = c_rs M (p + 1, p, t, v) → K none M1 = K none (c_rs M (p + 1, p, t, v)) := fun M1 h => by rw [h]
      simp (config := { maxSteps := 10000000, maxDischargeDepth := 30, decide := true }) only [w230_95, w230_96, w230_99, w230_102, w230_103_r, w230_104, w230_107, w230_108, w230_109, w230_112, ↓ip_ka0, Option.toList_some, List.nil_append, List.cons_append, List.length_nil, ↓reduceIte, Nat.zero_le, ip_b_f, gE, g8, h29, hr, e1, c_rs_1, c_rs_R, c_rs_L, c_rs_sh, gG_rs, c_rs_I]
      apply key
      unfold c_rs
      simp (decide := true) only [nf_II, ip_uI_uI]
    by_cases h : p < f
    · rw [hmid (M.2.1 120 p) (-2) (fun _ => ⟨rfl, rfl⟩) (fun q => absurd h q), fin, if_pos h, if_pos h]
    · rw [hmid (-1) (-1) (fun q => absurd q h) (fun _ => ⟨rfl, rfl⟩), fin, if_neg h, if_neg h]
  · rw [if_pos rfl]
    have h : p < f := by
      unfold rdf at hr
      simp only [Bool.and_eq_true, decide_eq_true_eq] at hr
      exact hr.1
    rw [hmid (M.2.1 120 p) (-2) (fun _ => ⟨rfl, rfl⟩) (fun q => absurd h q), if_pos h]
    have gE : ip_G (c_rs M (p, p, -2, M.2.1 120 p)) := gG_rs _ _ hG
    have g8 := gS_108 gE
    have gE2 : ip_G (c_rs M (p, p, 0, M.2.1 120 p)) := gG_rs _ _ hG
    have hb := s_230b X (c_rs M (p, p, 0, M.2.1 120 p)) K f hf h36 gE2 f p 0 (by omega) (by omega)
    rw [ip_uI_id (M := c_rs M (p, p, 0, M.2.1 120 p)) (k := 108) (j := 34) (v := Int32.ofNat p) rfl, ip_uI_id (M := c_rs M (p, p, 0, M.2.1 120 p)) (k := 108) (j := 37) (v := 0) rfl] at hb
    have eT : (c_rs M (p, p, 0, M.2.1 120 p)).2.1 120 = M.2.1 120 := rfl
    rw [eT] at hb
    have t1 : ip_wp X 230 95 [.ref 108] [] (c_rs M (p, p, -2, M.2.1 120 p)) K = ip_wp X 230 118 [.ref 108] [] (c_rs M (p, p, 0, M.2.1 120 p)) K := by
      have key : ∀ M1, M1 = c_rs M (p, p, 0, M.2.1 120 p) → ip_wp X 230 118 [.ref 108] [] M1 K = ip_wp X 230 118 [.ref 108] [] (c_rs M (p, p, 0, M.2.1 120 p)) K := fun M1 h => by rw [h]
      simp (config := { maxSteps := 10000000, maxDischargeDepth := 30, decide := true }) only [w230_95, w230_96, w230_99, w230_102, w230_103_r, w230_104, w230_107, w230_108, w230_109, w230_112, w230_113, w230_114, w230_115, ↓ip_ka0, Option.toList_some, List.nil_append, List.cons_append, List.length_nil, ↓reduceIte, Nat.zero_le, ip_b_t, gE, g8, h29, hr, c_rs_1, c_rs_R, c_rs_L, c_rs_sh, gG_rs, c_rs_I]
      apply key
      unfold c_rs
      simp (decide := true) only [nf_II, ip_uI_uI]
    rw [t1, hb, c_rs_34, c_rs_37]

set_option maxHeartbeats 40000000 in
set_option maxRecDepth 100000 in
theorem s_231 (X : ip_X) (M : ip_H) (K : Option Value → ip_H → Prop) (s : rd_S) (hG : ip_G M) : ip_wp X 231 0 [.ref 108] [] (c_rs M s) K = K (some (.int (ip_b (rd_w s)))) (c_rs M s) := by
  unfold rd_w
  have gE : ip_G (c_rs M s) := gG_rs _ _ hG
  have g8 := gS_108 gE
  by_cases h1 : s.2.2.1 < 0
  · simp (config := { maxSteps := 10000000, maxDischargeDepth := 30, decide := true }) only [w231_0, w231_1, w231_4, w231_7, w231_8, w231_11, w231_13, w231_16, w231_17, w231_20, w231_21, ↓ip_ka0, ↓reduceIte, or_false, ip_b_f, gE, g8, h1, c_rs_1, c_rs_R, c_rs_L, c_rs_sh, gG_rs, c_rs_I, decide_true, Bool.not_true, Bool.false_and]
  · by_cases h2 : s.2.2.1 < 100
    · simp (config := { maxSteps := 10000000, maxDischargeDepth := 30, decide := true }) only [w231_0, w231_1, w231_4, w231_7, w231_8, w231_11, w231_13, w231_16, w231_17, w231_20, w231_21, ↓ip_ka0, ↓reduceIte, or_true, ip_b_t, gE, g8, h1, h2, c_rs_1, c_rs_R, c_rs_L, c_rs_sh, gG_rs, c_rs_I, decide_true, decide_false, Bool.not_false, Bool.and_true]
    · simp (config := { maxSteps := 10000000, maxDischargeDepth := 30, decide := true }) only [w231_0, w231_1, w231_4, w231_7, w231_8, w231_11, w231_13, w231_16, w231_17, w231_20, w231_21, ↓ip_ka0, ↓reduceIte, or_false, ip_b_f, gE, g8, h1, h2, c_rs_1, c_rs_R, c_rs_L, c_rs_sh, gG_rs, c_rs_I, decide_false, Bool.not_false, Bool.and_false]

set_option maxHeartbeats 40000000 in
set_option maxRecDepth 100000 in
theorem s_232 (X : ip_X) (M : ip_H) (K : Option Value → ip_H → Prop) (k f : Nat) (hk : k < 40) (D : Nat → Int32) (s : rd_S) (hp : s.1 ≤ 600) (hf : f ≤ 200) (h36 : M.2.1 108 36 = Int32.ofNat f) (hG : ip_G M) : ip_wp X 232 0 [.ref 108, .int (Int32.ofNat k), .retAddr 1] [] (c_rD M D s) K = K (some (.int (ip_b (rd_1 (M.2.1 120) f k D s).1))) (c_rD M (rd_1 (M.2.1 120) f k D s).2.1 (rd_1 (M.2.1 120) f k D s).2.2) := by
  have e0 : 3 * Int32.ofNat k = Int32.ofNat (3 * k) := ip_om 3 k
  have e00 : Int32.ofNat (3 * k) + 0 = Int32.ofNat (3 * k) := ip_oa _ 0
  have n0 := eq_false (ip_nn (3 * k) (by omega))
  have c0 := ip_nc (3 * k) (by omega)
  have l0 : (3 * k < 120) = True := eq_true (by omega)
  have e1 : Int32.ofNat (3 * k) + 1 = Int32.ofNat (3 * k + 1) := ip_oa _ 1
  have n1 := eq_false (ip_nn (3 * k + 1) (by omega))
  have c1 := ip_nc (3 * k + 1) (by omega)
  have l1 : (3 * k + 1 < 120) = True := eq_true (by omega)
  have e2 : Int32.ofNat (3 * k) + 2 = Int32.ofNat (3 * k + 2) := ip_oa _ 2
  have n2 := eq_false (ip_nn (3 * k + 2) (by omega))
  have c2 := ip_nc (3 * k + 2) (by omega)
  have l2 : (3 * k + 2 < 120) = True := eq_true (by omega)
  have gr : ∀ D s, ip_G (c_rD M D s) := fun D s => hG
  have g8 : ∀ D s, ip_sh (c_rD M D s) 108 = (0, 11, 48) := fun D s => gS_108 hG
  have g21 : ∀ D s, ip_sh (c_rD M D s) 121 = (1, 0, 120) := fun D s => gS_121 hG
  have r39 : ∀ D s, (c_rD M D s).2.2.2 108 39 = some 121 := fun D s => gR_108_39 hG
  have t37 : ∀ D s, (c_rD M D s).2.1 108 37 = s.2.2.1 := fun D s => Eq.trans rfl rfl
  have t38 : ∀ D s, (c_rD M D s).2.1 108 38 = s.2.2.2 := fun D s => Eq.trans rfl rfl
  have hw : ∀ D s K, ip_wp X 231 0 [.ref 108] [] (c_rD M D s) K = K (some (.int (ip_b (rd_w s)))) (c_rD M D s) := fun D s K => s_231 X (ip_sI M 121 D) K s hG
  have b1 := rd_le (M.2.1 120) f s 600 hp (by omega)
  have b2 := rd_le (M.2.1 120) f (rd (M.2.1 120) f s) 601 b1.1 (by omega)
  have hr0 : ∀ D K, ip_wp X 230 0 [.ref 108] [] (c_rD M D s) K = K none (c_rD M D (rd (M.2.1 120) f s)) := fun D K => s_230 X (ip_sI M 121 D) K s f (by omega) hf h36 hG
  have hr1 : ∀ D K, ip_wp X 230 0 [.ref 108] [] (c_rD M D (rd (M.2.1 120) f s)) K = K none (c_rD M D (rd (M.2.1 120) f (rd (M.2.1 120) f s))) := fun D K => s_230 X (ip_sI M 121 D) K _ f (by omega) hf h36 hG
  have hr2 : ∀ D K, ip_wp X 230 0 [.ref 108] [] (c_rD M D (rd (M.2.1 120) f (rd (M.2.1 120) f s))) K = K none (c_rD M D (rd (M.2.1 120) f (rd (M.2.1 120) f (rd (M.2.1 120) f s)))) := fun D K => s_230 X (ip_sI M 121 D) K _ f (by omega) hf h36 hG
  unfold rd_1
  cases w0 : rd_w s
  · rw [if_neg (by decide)]
    simp (config := { maxSteps := 10000000, maxDischargeDepth := 30, decide := true }) only [w232_0, w232_1, w232_2, w232_3, w232_4, w232_7, w232_8, w232_11, w232_14, w232_15, w232_16, w232_17, w232_20, w232_21, w232_22, w232_23, w232_24, w232_25, w232_26, w232_29, w232_30, w232_31, w232_34, w232_37, w232_40, w232_41, w232_44, w232_46, w232_49, w232_50, w232_53, w232_55, w232_58, w232_59, w232_62, w232_63, w232_64, w232_65, w232_68, w232_69, w232_70, w232_71, w232_72, w232_73, w232_74, w232_77, w232_78, w232_81, w232_82, w232_83, w232_84, w232_87, w232_88, w232_91, w232_92, ↓ip_ka0, ↓ip_ki2, ip_get_0, ip_get_s, ip_set1, ip_clr_s, ip_cat_i, List.set_cons_zero, List.set_cons_succ, Option.toList_some, List.nil_append, List.cons_append, List.length_nil, ↓reduceIte, Nat.reduceEqDiff, Nat.zero_le, or_false, ip_b_f, g8, hw, w0]
  rw [if_pos rfl]
  cases w1 : rd_w (rd (M.2.1 120) f s)
  · rw [if_neg (by decide)]
    simp (config := { maxSteps := 10000000, maxDischargeDepth := 30, decide := true }) only [w232_0, w232_1, w232_2, w232_3, w232_4, w232_7, w232_8, w232_11, w232_14, w232_15, w232_16, w232_17, w232_20, w232_21, w232_22, w232_23, w232_24, w232_25, w232_26, w232_29, w232_30, w232_31, w232_34, w232_37, w232_40, w232_41, w232_44, w232_46, w232_49, w232_50, w232_53, w232_55, w232_58, w232_59, w232_62, w232_63, w232_64, w232_65, w232_68, w232_69, w232_70, w232_71, w232_72, w232_73, w232_74, w232_77, w232_78, w232_81, w232_82, w232_83, w232_84, w232_87, w232_88, w232_91, w232_92, ↓ip_ka0, ↓ip_ki1, ↓ip_ki2, ip_get_0, ip_get_s, ip_set1, ip_clr_s, ip_cat_i, List.set_cons_zero, List.set_cons_succ, ip_vr_some, Option.toList_some, Option.toList_none, List.nil_append, List.cons_append, List.length_nil, ↓reduceIte, Nat.reduceEqDiff, Nat.zero_le, or_false, and_self, not_false_eq_true, ip_b_t, ip_b_f, Int32.reduceAdd, ip_ix_eq, g8, g21, r39, t37, hw, hr0, w0, w1, c_rD_sI, e0, e00, n0, c0, l0]
  rw [if_pos rfl]
  by_cases h1 : (rd (M.2.1 120) f (rd (M.2.1 120) f s)).2.2.1 = -2
  · by_cases h2 : (rd (M.2.1 120) f (rd (M.2.1 120) f s)).2.2.2 = 116
    · rw [decide_eq_true h1, decide_eq_true h2, Bool.true_and, if_pos rfl]
      simp (config := { maxSteps := 10000000, maxDischargeDepth := 30, decide := true }) only [w232_0, w232_1, w232_2, w232_3, w232_4, w232_7, w232_8, w232_11, w232_14, w232_15, w232_16, w232_17, w232_20, w232_21, w232_22, w232_23, w232_24, w232_25, w232_26, w232_29, w232_30, w232_31, w232_34, w232_37, w232_40, w232_41, w232_44, w232_46, w232_49, w232_50, w232_53, w232_55, w232_58, w232_59, w232_62, w232_63, w232_64, w232_65, w232_68, w232_69, w232_70, w232_71, w232_72, w232_73, w232_74, w232_77, w232_78, w232_81, w232_82, w232_83, w232_84, w232_87, w232_88, w232_91, w232_92, ↓ip_ka0, ↓ip_ki1, ↓ip_ki2, ip_get_0, ip_get_s, ip_set1, ip_clr_s, ip_cat_i, List.set_cons_zero, List.set_cons_succ, ip_vr_some, Option.toList_some, Option.toList_none, List.nil_append, List.cons_append, List.length_nil, ↓reduceIte, Nat.reduceEqDiff, Nat.zero_le, or_true, and_self, not_false_eq_true, ip_b_t, Int32.reduceAdd, ip_ix_eq, g8, g21, r39, t37, t38, hw, hr0, hr1, hr2, w0, w1, c_rD_sI, h1, h2, e0, e00, n0, c0, l0, e1, n1, c1, l1, e2, n2, c2, l2]
    · rw [decide_eq_true h1, decide_eq_false h2, Bool.true_and, if_neg (by decide)]
      simp (config := { maxSteps := 10000000, maxDischargeDepth := 30, decide := true }) only [w232_0, w232_1, w232_2, w232_3, w232_4, w232_7, w232_8, w232_11, w232_14, w232_15, w232_16, w232_17, w232_20, w232_21, w232_22, w232_23, w232_24, w232_25, w232_26, w232_29, w232_30, w232_31, w232_34, w232_37, w232_40, w232_41, w232_44, w232_46, w232_49, w232_50, w232_53, w232_55, w232_58, w232_59, w232_62, w232_63, w232_64, w232_65, w232_68, w232_69, w232_70, w232_71, w232_72, w232_73, w232_74, w232_77, w232_78, w232_81, w232_82, w232_83, w232_84, w232_87, w232_88, w232_91, w232_92, ↓ip_ka0, ↓ip_ki1, ↓ip_ki2, ip_get_0, ip_get_s, ip_set1, ip_clr_s, ip_cat_i, List.set_cons_zero, List.set_cons_succ, ip_vr_some, Option.toList_some, Option.toList_none, List.nil_append, List.cons_append, List.length_nil, ↓reduceIte, Nat.reduceEqDiff, Nat.zero_le, or_true, and_self, not_false_eq_true, ip_b_t, Int32.reduceAdd, ip_ix_eq, g8, g21, r39, t37, t38, hw, hr0, hr1, hr2, w0, w1, c_rD_sI, h1, h2, e0, e00, n0, c0, l0, e1, n1, c1, l1, e2, n2, c2, l2]
  · rw [decide_eq_false h1, Bool.false_and, if_neg (by decide)]
    simp (config := { maxSteps := 10000000, maxDischargeDepth := 30, decide := true }) only [w232_0, w232_1, w232_2, w232_3, w232_4, w232_7, w232_8, w232_11, w232_14, w232_15, w232_16, w232_17, w232_20, w232_21, w232_22, w232_23, w232_24, w232_25, w232_26, w232_29, w232_30, w232_31, w232_34, w232_37, w232_40, w232_41, w232_44, w232_46, w232_49, w232_50, w232_53, w232_55, w232_58, w232_59, w232_62, w232_63, w232_64, w232_65, w232_68, w232_69, w232_70, w232_71, w232_72, w232_73, w232_74, w232_77, w232_78, w232_81, w232_82, w232_83, w232_84, w232_87, w232_88, w232_91, w232_92, ↓ip_ka0, ↓ip_ki1, ↓ip_ki2, ip_get_0, ip_get_s, ip_set1, ip_clr_s, ip_cat_i, List.set_cons_zero, List.set_cons_succ, ip_vr_some, Option.toList_some, Option.toList_none, List.nil_append, List.cons_append, List.length_nil, ↓reduceIte, Nat.reduceEqDiff, Nat.zero_le, or_true, and_self, not_false_eq_true, ip_b_t, Int32.reduceAdd, ip_ix_eq, g8, g21, r39, t37, t38, hw, hr0, hr1, hr2, w0, w1, c_rD_sI, h1, e0, e00, n0, c0, l0, e1, n1, c1, l1, e2, n2, c2, l2]

theorem rd_1_le (T : Nat → Int32) (f k : Nat) (D : Nat → Int32) (s : rd_S) (m : Nat) (h : s.1 ≤ m) (hm : f ≤ m) : (rd_1 T f k D s).2.2.1 ≤ m + 3 := by
  have b1 := rd_le T f s m h hm
  have b2 := rd_le T f (rd T f s) (m + 1) b1.1 (by omega)
  have b3 := rd_le T f (rd T f (rd T f s)) (m + 2) b2.1 (by omega)
  unfold rd_1
  split
  · split
    · split
      · exact b3.1
      · dsimp only; omega
    · dsimp only; omega
  · dsimp only; omega
set_option maxHeartbeats 40000000 in
set_option maxRecDepth 100000 in
theorem s_233l (X : ip_X) (M : ip_H) (K : Option Value → ip_H → Prop) (f : Nat) (hf : f ≤ 200) (h36 : M.2.1 108 36 = Int32.ofNat f) (hG : ip_G M) : ∀ (n k : Nat) (D : Nat → Int32) (s : rd_S), k + n = 40 → s.1 ≤ 210 + 4 * k → ∀ q, q = (rd_all (M.2.1 120) f n k D s) → ip_wp X 233 6 [.ref 108, .int (Int32.ofNat k)] [] (c_rD M D s) K = K (some (.int (if q.1 = 0 then -1 else Int32.ofNat q.1))) (c_rD M q.2.1 q.2.2) := by
  have gr : ∀ D s, ip_G (c_rD M D s) := fun D s => hG
  have g8 : ∀ D s, ip_sh (c_rD M D s) 108 = (0, 11, 48) := fun D s => gS_108 hG
  have t37 : ∀ D s, (c_rD M D s).2.1 108 37 = s.2.2.1 := fun D s => Eq.trans rfl rfl
  have t38 : ∀ D s, (c_rD M D s).2.1 108 38 = s.2.2.2 := fun D s => Eq.trans rfl rfl
  intro n
  induction n with
  | zero =>
    intro k D s h hp q hq
    rw [rd_all] at hq
    subst hq
    have hk : k = 40 := by omega
    subst hk
    have hlt : (Int32.ofNat 40 < 40) = False := by decide +kernel
    simp (config := { maxSteps := 10000000, maxDischargeDepth := 30, decide := true }) only [w233_6, w233_7, w233_9, w233_12, w233_13, w233_14, w233_17, w233_20, w233_23, w233_24, w233_27, w233_28, w233_31, w233_32, w233_33, w233_34, w233_37, w233_39, w233_42, w233_43, w233_46, w233_48, w233_51, w233_52, w233_53, w233_54, w233_57, w233_60, w233_61, ↓ip_ki1, ↓reduceIte, Int32.reduceOfNat]
  | succ n ih =>
    intro k D s h hp q hq
    have hlt : (Int32.ofNat k < 40) = True := by rw [show (40 : Int32) = Int32.ofNat 40 from rfl, ip_nlt _ _ (by omega) (by decide)]; exact eq_true (by omega)
    have ei : Int32.ofNat k + 1 = Int32.ofNat (k + 1) := ip_oa k 1
    have hle := rd_1_le (M.2.1 120) f k D s (210 + 4 * k) hp (by omega)
    have h32 : ∀ K, ip_wp X 232 0 [.ref 108, .int (Int32.ofNat k), .retAddr 1] [] (c_rD M D s) K = K (some (.int (ip_b (rd_1 (M.2.1 120) f k D s).1))) (c_rD M (rd_1 (M.2.1 120) f k D s).2.1 (rd_1 (M.2.1 120) f k D s).2.2) := fun K => s_232 X M K k f (by omega) D s (by omega) hf h36 hG
    rw [rd_all] at hq
    generalize rd_1 (M.2.1 120) f k D s = r at *
    obtain ⟨b, D1, s1⟩ := r
    dsimp only at *
    cases b
    · rw [if_neg (by decide)] at hq
      subst hq
      simp (config := { maxSteps := 10000000, maxDischargeDepth := 30, decide := true }) only [w233_6, w233_7, w233_9, w233_12, w233_13, w233_14, w233_17, w233_20, w233_23, w233_24, w233_27, w233_28, w233_31, w233_32, w233_33, w233_34, w233_37, w233_39, w233_42, w233_43, w233_46, w233_48, w233_51, w233_52, w233_53, w233_54, w233_60, w233_61, ↓ip_ka0, ↓ip_ki1, Option.toList_some, List.nil_append, List.cons_append, List.length_nil, ↓reduceIte, Nat.zero_le, ip_b_f, g8, hlt, h32]
    rw [if_pos rfl] at hq
    by_cases ht : s1.2.2.1 = -1
    · rw [if_pos ht] at hq
      subst hq
      simp (config := { maxSteps := 10000000, maxDischargeDepth := 30, decide := true }) only [w233_6, w233_7, w233_9, w233_12, w233_13, w233_14, w233_17, w233_20, w233_23, w233_24, w233_27, w233_28, w233_31, w233_32, w233_33, w233_34, w233_37, w233_39, w233_42, w233_43, w233_46, w233_48, w233_51, w233_52, w233_53, w233_54, w233_60, w233_61, ↓ip_ka0, ↓ip_ki1, ip_get_0, ip_set1, ip_clr_s, ip_cat_r, List.set_cons_zero, List.set_cons_succ, Option.toList_some, List.nil_append, List.cons_append, List.length_nil, ↓reduceIte, Nat.reduceEqDiff, Nat.zero_le, ip_b_t, g8, t37, t38, hlt, ei, h32, ht, Nat.add_one_ne_zero]
    rw [if_neg ht] at hq
    by_cases h59 : s1.2.2.2 = 59
    · by_cases h2 : s1.2.2.1 = -2
      · rw [if_pos ⟨h59, h2⟩] at hq
        have b1 := rd_le (M.2.1 120) f s1 (213 + 4 * k) (by omega) (by omega)
        have h30 : ∀ K, ip_wp X 230 0 [.ref 108] [] (c_rD M D1 s1) K = K none (c_rD M D1 (rd (M.2.1 120) f s1)) := fun K => s_230 X (ip_sI M 121 D1) K s1 f (by omega) hf h36 hG
        rw [← ih (k + 1) D1 (rd (M.2.1 120) f s1) (by omega) (by omega) q hq]
        have step : ∀ Z : Prop, ip_wp X 233 6 [.ref 108, .int (Int32.ofNat (k + 1))] [] (c_rD M D1 (rd (M.2.1 120) f s1)) K = Z → ip_wp X 233 6 [.ref 108, .int (Int32.ofNat k)] [] (c_rD M D s) K = Z := by
          intro Z hZ
          simp (config := { maxSteps := 10000000, maxDischargeDepth := 30, decide := true }) only [w233_6, w233_7, w233_9, w233_12, w233_13, w233_14, w233_17, w233_20, w233_23, w233_24, w233_27, w233_28, w233_31, w233_32, w233_33, w233_34, w233_37, w233_39, w233_42, w233_43, w233_46, w233_48, w233_51, w233_52, w233_53, w233_54, ↓ip_ka0, ↓ip_ki1, ip_get_0, ip_set1, ip_clr_s, ip_cat_r, List.set_cons_zero, List.set_cons_succ, Option.toList_some, Option.toList_none, List.nil_append, List.cons_append, List.length_nil, ↓reduceIte, Nat.reduceEqDiff, Nat.zero_le, ip_b_t, g8, t37, t38, hlt, ei, h32, h30, h59, h2]
          rw [w233_57]
          exact hZ
        exact step _ rfl
      · rw [if_neg (fun q => h2 q.2)] at hq
        subst hq
        simp (config := { maxSteps := 10000000, maxDischargeDepth := 30, decide := true }) only [w233_6, w233_7, w233_9, w233_12, w233_13, w233_14, w233_17, w233_20, w233_23, w233_24, w233_27, w233_28, w233_31, w233_32, w233_33, w233_34, w233_37, w233_39, w233_42, w233_43, w233_46, w233_48, w233_51, w233_52, w233_53, w233_54, w233_60, w233_61, ↓ip_ka0, ↓ip_ki1, ip_get_0, ip_set1, ip_clr_s, ip_cat_r, List.set_cons_zero, List.set_cons_succ, Option.toList_some, List.nil_append, List.cons_append, List.length_nil, ↓reduceIte, Nat.reduceEqDiff, Nat.zero_le, ip_b_t, g8, t37, t38, hlt, ei, h32, ht, h59, h2]
    · rw [if_neg (fun q => h59 q.1)] at hq
      subst hq
      simp (config := { maxSteps := 10000000, maxDischargeDepth := 30, decide := true }) only [w233_6, w233_7, w233_9, w233_12, w233_13, w233_14, w233_17, w233_20, w233_23, w233_24, w233_27, w233_28, w233_31, w233_32, w233_33, w233_34, w233_37, w233_39, w233_42, w233_43, w233_46, w233_48, w233_51, w233_52, w233_53, w233_54, w233_60, w233_61, ↓ip_ka0, ↓ip_ki1, ip_get_0, ip_set1, ip_clr_s, ip_cat_r, List.set_cons_zero, List.set_cons_succ, Option.toList_some, List.nil_append, List.cons_append, List.length_nil, ↓reduceIte, Nat.reduceEqDiff, Nat.zero_le, ip_b_t, g8, t37, t38, hlt, ei, h32, ht, h59]
end
noncomputable section
-- PART 77.read3
-- THE REFERENCE: read
theorem ip_any (x : Int32) : ∃ n : Nat, x = Int32.ofNat n := ⟨x.toBitVec.toNat, by
  apply Int32.toBitVec_inj.mp
  show x.toBitVec = BitVec.ofNat 32 x.toBitVec.toNat
  simp⟩
def wdk (D : Nat → Int32) (k : Nat) : Prop := (0 ≤ (D (3 * k)).toInt ∧ (D (3 * k)).toInt ≤ 99) ∧ (0 ≤ (D (3 * k + 1)).toInt ∧ (D (3 * k + 1)).toInt ≤ 99) ∧ (D (3 * k + 2) = 0 ∨ D (3 * k + 2) = 1)
theorem rd_w_b {s : rd_S} (h : rd_w s = true) : 0 ≤ s.2.2.1.toInt ∧ s.2.2.1.toInt ≤ 99 := by
  unfold rd_w at h
  rw [Bool.and_eq_true, Bool.not_eq_true', decide_eq_false_iff_not, decide_eq_true_eq, Int32.lt_iff_toInt_lt, Int32.lt_iff_toInt_lt] at h
  have e0 : (0 : Int32).toInt = 0 := rfl
  have e1 : (100 : Int32).toInt = 100 := rfl
  omega
theorem rd_1_ok (T : Nat → Int32) (f k : Nat) (D : Nat → Int32) (s : rd_S) (h : (rd_1 T f k D s).1 = true) : wdk (rd_1 T f k D s).2.1 k ∧ ∀ b, b < 3 * k → (rd_1 T f k D s).2.1 b = D b := by
  unfold rd_1 at *
  split at h
  · rename_i h1
    split at h
    · rename_i h2
      have b1 := rd_w_b h1
      have b2 := rd_w_b h2
      rw [if_pos h1, if_pos h2]
      split
      · refine ⟨⟨?_, ?_, ?_⟩, ?_⟩
        · dsimp only; rw [if_neg (by omega), if_neg (by omega), if_pos rfl]; exact b1
        · dsimp only; rw [if_neg (by omega), if_pos rfl]; exact b2
        · dsimp only; rw [if_pos rfl]; exact Or.inr rfl
        · intro b hb
          dsimp only
          rw [if_neg (by omega), if_neg (by omega), if_neg (by omega)]
      · refine ⟨⟨?_, ?_, ?_⟩, ?_⟩
        · dsimp only; rw [if_neg (by omega), if_neg (by omega), if_pos rfl]; exact b1
        · dsimp only; rw [if_neg (by omega), if_pos rfl]; exact b2
        · dsimp only; rw [if_pos rfl]; exact Or.inl rfl
        · intro b hb
          dsimp only
          rw [if_neg (by omega), if_neg (by omega), if_neg (by omega)]
    · cases h
  · cases h
theorem rd_all_ok (T : Nat → Int32) (f : Nat) : ∀ (n k : Nat) (D : Nat → Int32) (s : rd_S), (∀ j, j < k → wdk D j) → (rd_all T f n k D s).1 ≠ 0 → (rd_all T f n k D s).1 ≤ k + n ∧ ∀ j, j < (rd_all T f n k D s).1 → wdk (rd_all T f n k D s).2.1 j := by
  intro n
  induction n with
  | zero => intro k D s h h0; exact absurd rfl h0
  | succ n ih =>
    intro k D s h h0
    rw [rd_all] at h0 ⊢
    cases hb : (rd_1 T f k D s).1
    · rw [hb, if_neg (by decide)] at h0
      exact absurd rfl h0
    · rw [hb, if_pos rfl] at h0
      rw [if_pos rfl]
      obtain ⟨o1, o2⟩ := rd_1_ok T f k D s hb
      have hall : ∀ j, j < k + 1 → wdk (rd_1 T f k D s).2.1 j := by
        intro j hj
        by_cases e : j = k
        · rw [e]; exact o1
        · have := h j (by omega)
          unfold wdk at *
          rw [o2 _ (by omega), o2 _ (by omega), o2 _ (by omega)]
          exact this
      split
      · exact ⟨by dsimp only; omega, hall⟩
      · rename_i ht
        rw [if_neg ht] at h0
        split
        · rename_i hc
          rw [if_pos hc] at h0
          obtain ⟨i1, i2⟩ := ih (k + 1) _ _ hall h0
          exact ⟨by omega, i2⟩
        · rename_i hc
          rw [if_neg hc] at h0
          exact absurd rfl h0
/-- where the TAPE is taken from the beginning -/
def c_r0 (M : ip_H) : ip_H := ip_uI (ip_uI M 108 32 0) 108 36 (M.2.1 108 32)
def c_wd (M : ip_H) (D : Nat → Int32) (m : Nat) : ip_H := ip_sI M 109 (c_cp (fun b => if b = 8 then Int32.ofNat m else M.2.1 109 b) D 33 0 (3 * m))

set_option maxHeartbeats 40000000 in
set_option maxRecDepth 100000 in
theorem s_234l (X : ip_X) (M : ip_H) (K : Option Value → ip_H → Prop) (m : Nat) (hm : m ≤ 40) (hG : ip_G M) : ∀ (n i : Nat), i + n = 3 * m → ip_wp X 234 73 [.ref 108, .int (Int32.ofNat m), .int (Int32.ofNat i)] [] (ip_sI M 109 (c_cp (M.2.1 109) (M.2.1 121) 33 0 i)) K = ip_wp X 234 101 [.ref 108, .int (Int32.ofNat m), .int (Int32.ofNat (3 * m))] [] (ip_sI M 109 (c_cp (M.2.1 109) (M.2.1 121) 33 0 (3 * m))) K := by
  have e3 : 3 * Int32.ofNat m = Int32.ofNat (3 * m) := ip_om 3 m
  intro n
  induction n with
  | zero =>
    intro i h
    have hi : i = 3 * m := by omega
    subst hi
    have hk : (Int32.ofNat (3 * m) < Int32.ofNat (3 * m)) = False := by rw [ip_nlt _ _ (by omega) (by omega)]; exact eq_false (by omega)
    simp (config := { maxSteps := 10000000, maxDischargeDepth := 30, decide := true }) only [w234_73, w234_74, w234_75, w234_76, w234_77, ↓ip_ki1, ↓ip_ki2, ↓reduceIte, hk, e3]
  | succ n ih =>
    intro i h
    have hk : (Int32.ofNat i < Int32.ofNat (3 * m)) = True := by rw [ip_nlt _ _ (by omega) (by omega)]; exact eq_true (by omega)
    have ei : Int32.ofNat i + 1 = Int32.ofNat (i + 1) := ip_oa i 1
    have et : 33 + Int32.ofNat i = Int32.ofNat (33 + i) := by rw [show (33 : Int32) = Int32.ofNat 33 from rfl, ip_oa]
    have nt := eq_false (ip_nn (33 + i) (by omega))
    have ct := ip_nc (33 + i) (by omega)
    have lt : (33 + i < 821) = True := eq_true (by omega)
    have ns := eq_false (ip_nn i (by omega))
    have cs := ip_nc i (by omega)
    have ls : (i < 120) = True := eq_true (by omega)
    have eM : (ip_sI M 109 (c_cp (M.2.1 109) (M.2.1 121) 33 0 (i + 1))) = ip_uI (ip_sI M 109 (c_cp (M.2.1 109) (M.2.1 121) 33 0 i)) 109 (33 + i) (M.2.1 121 i) := by
      rw [ip_uI_sI, ← c_cp_s]
      simp only [Nat.zero_add]
    have step : ∀ Z : Prop, ip_wp X 234 73 [.ref 108, .int (Int32.ofNat m), .int (Int32.ofNat (i + 1))] [] (ip_uI (ip_sI M 109 (c_cp (M.2.1 109) (M.2.1 121) 33 0 i)) 109 (33 + i) (M.2.1 121 i)) K = Z → ip_wp X 234 73 [.ref 108, .int (Int32.ofNat m), .int (Int32.ofNat i)] [] (ip_sI M 109 (c_cp (M.2.1 109) (M.2.1 121) 33 0 i)) K = Z := by
      intro Z hZ
      simp (config := { maxSteps := 10000000, maxDischargeDepth := 30, decide := true }) only [w234_73, w234_74, w234_75, w234_76, w234_77, w234_80, w234_81, w234_84, w234_86, w234_87, w234_88, w234_89, w234_92, w234_93, w234_94, w234_95, ↓ip_ka0, ↓ip_ki1, ↓ip_ki2, ip_get_0, ip_get_s, ip_set1, ip_clr_s, ip_cat_i, List.set_cons_zero, List.set_cons_succ, ip_vr_some, ↓reduceIte, Nat.reduceEqDiff, and_self, not_false_eq_true, ip_sI_I, ip_sI_R, ip_sI_sh, ip_ix_eq, gS_108 hG, gS_109 hG, gS_121 hG, gR_108_1 hG, gR_108_39 hG, hk, e3, ei, et, nt, ct, lt, ns, cs, ls]
      rw [w234_98]
      exact hZ
    exact step _ ((congrArg (fun q => ip_wp X 234 73 [.ref 108, .int (Int32.ofNat m), .int (Int32.ofNat (i + 1))] [] q K) eM.symm).trans (ih (i + 1) (by omega)))

set_option maxHeartbeats 40000000 in
set_option maxRecDepth 100000 in
theorem s_233 (X : ip_X) (M : ip_H) (K : Option Value → ip_H → Prop) (f : Nat) (hf : f ≤ 200) (h36 : M.2.1 108 36 = Int32.ofNat f) (hG : ip_G M) (D : Nat → Int32) (s : rd_S) (hs : s.1 ≤ 200) : ∀ q, q = rd_all (M.2.1 120) f 40 0 D (rd (M.2.1 120) f s) → ip_wp X 233 0 [.ref 108, .retAddr 1] [] (c_rD M D s) K = K (some (.int (if q.1 = 0 then -1 else Int32.ofNat q.1))) (c_rD M q.2.1 q.2.2) := by
  intro q hq
  have b1 := rd_le (M.2.1 120) f s 200 (by omega) (by omega)
  have h30 : ∀ K, ip_wp X 230 0 [.ref 108] [] (c_rD M D s) K = K none (c_rD M D (rd (M.2.1 120) f s)) := fun K => s_230 X (ip_sI M 121 D) K s f (by omega) hf h36 hG
  have hl := s_233l X M K f hf h36 hG 40 0 D (rd (M.2.1 120) f s) (by omega) (by omega) q hq
  have e0 : Int32.ofNat 0 = 0 := by decide
  rw [e0] at hl
  rw [← hl]
  have gr : ∀ D s, ip_G (c_rD M D s) := fun D s => hG
  have g8 : ∀ D s, ip_sh (c_rD M D s) 108 = (0, 11, 48) := fun D s => gS_108 hG
  simp (config := { maxSteps := 10000000, maxDischargeDepth := 30, decide := true }) only [w233_0, w233_1, w233_2, w233_3, ↓ip_ka0, ip_set1, ip_clr_s, List.set_cons_zero, List.set_cons_succ, Option.toList_none, List.nil_append, List.length_nil, ↓reduceIte, Nat.zero_le, g8, h30]

theorem c_r0_e (M : ip_H) (b0 : Nat) (hb : M.2.1 108 35 = Int32.ofNat b0) : ip_uI (ip_uI (ip_uI M 108 36 (M.2.1 108 32)) 108 34 0) 108 32 0 = c_rD (c_r0 M) (M.2.1 121) (0, b0, M.2.1 108 37, M.2.1 108 38) := by
  have e0 : Int32.ofNat 0 = 0 := by decide
  have e : (ip_uI (ip_uI (ip_uI M 108 36 (M.2.1 108 32)) 108 34 0) 108 32 0).2.1 = (c_rD (c_r0 M) (M.2.1 121) (0, b0, M.2.1 108 37, M.2.1 108 38)).2.1 := by
    funext a b
    unfold c_rD c_r0
    simp only [c_rs_I, ip_sI_I, ip_uI_I]
    by_cases h : a = 108
    · subst h
      by_cases h38 : b = 38
      · subst h38
        simp (decide := true) only [true_and, and_self, ↓reduceIte]
      by_cases h37 : b = 37
      · subst h37
        simp (decide := true) only [true_and, and_self, ↓reduceIte]
      by_cases h35 : b = 35
      · subst h35
        simp (decide := true) only [true_and, and_self, ↓reduceIte, hb]
      by_cases h34 : b = 34
      · subst h34
        simp (decide := true) only [true_and, and_self, ↓reduceIte, e0]
      by_cases h36 : b = 36
      · subst h36
        simp (decide := true) only [true_and, and_self, ↓reduceIte]
      · simp (decide := true) only [true_and, h38, h37, h35, h34, h36, ↓reduceIte]
    · by_cases h1 : a = 121
      · subst h1
        simp (decide := true) only [false_and, ↓reduceIte]
      · simp only [h, h1, false_and, ↓reduceIte]
  exact Prod.ext rfl (Prod.ext e rfl)
set_option maxHeartbeats 40000000 in
set_option maxRecDepth 100000 in
theorem s_234a (X : ip_X) (M : ip_H) (K : Option Value → ip_H → Prop) (hG : ip_G M) (ht : M.2.1 108 0 = 0) (b0 : Nat) (hb : M.2.1 108 35 = Int32.ofNat b0) (v : Int32) (R : ip_H) (h33 : ∀ K, ip_wp X 233 0 [.ref 108, .retAddr 1] [] (c_rD (c_r0 M) (M.2.1 121) (0, b0, M.2.1 108 37, M.2.1 108 38)) K = K (some (.int v)) R) : ip_wp X 234 0 [.ref 108, .retAddr 1, .retAddr 1] [] M K = ip_wp X 234 28 [.ref 108, .int v, .retAddr 1] [] R K := by
  have et : ip_uI M 108 0 0 = M := ip_uI_id ht
  have e0 := c_r0_e M b0 hb
  have g8 : ∀ D s, ip_sh (c_rD (c_r0 M) D s) 108 = (0, 11, 48) := fun D s => gS_108 hG
  simp (config := { maxSteps := 10000000, maxDischargeDepth := 30, decide := true }) only [w234_0, w234_1, w234_2, w234_5, w234_6, w234_7, w234_10, w234_13, w234_14, w234_15, w234_18, w234_19, w234_20, w234_23, w234_24, w234_27, ↓ip_ka0, ip_set1, ip_clr_s, List.set_cons_zero, List.set_cons_succ, ip_uI_sh, Option.toList_some, List.nil_append, List.cons_append, List.length_nil, ↓reduceIte, Nat.zero_le, gS_108 hG, et, e0, g8, h33]

set_option maxHeartbeats 40000000 in
set_option maxRecDepth 100000 in
theorem s_234b (X : ip_X) (M : ip_H) (K : Option Value → ip_H → Prop) (hG : ip_G M) (b : Nat) (hb : M.2.1 108 35 = Int32.ofNat b) : ip_wp X 234 28 [.ref 108, .int (-1), .retAddr 1] [] M K = K (some (.int (-6))) (c_no (ip_uI M 108 33 (Int32.ofNat b)) 6 (-6)) := by
  simp (config := { maxSteps := 10000000, maxDischargeDepth := 30, decide := true }) only [w234_28, w234_29, w234_30, w234_31, w234_34, w234_35, w234_38, w234_41, w234_42, w234_45, w234_46, w234_47, w234_50, w234_51, w234_53, w234_56, w234_57, w234_58, ↓ip_ka0, ↓ip_ki1, ip_uI_sh, Option.toList_some, List.nil_append, List.cons_append, List.length_nil, ↓reduceIte, Nat.zero_le, gG_uI, gS_108 hG, hG, hb, s_167_6]

set_option maxHeartbeats 40000000 in
set_option maxRecDepth 100000 in
theorem s_234d (X : ip_X) (M : ip_H) (K : Option Value → ip_H → Prop) (m : Nat) (hm : m ≤ 40) (hG : ip_G M) : ip_wp X 234 63 [.ref 108, .int (Int32.ofNat m), .retAddr 1] [] M K = K (some (.int (Int32.ofNat m))) (c_ye (c_wd M (M.2.1 121) m)) := by
  have gk : ip_G (ip_uI M 109 8 (Int32.ofNat m)) := hG
  have gw : ip_G (c_wd M (M.2.1 121) m) := hG
  have g8 := gS_108 gw
  have hl := s_234l X (ip_uI M 109 8 (Int32.ofNat m)) K m hm gk (3 * m) 0 (by omega)
  have e0 : Int32.ofNat 0 = 0 := by decide
  have eA : ip_sI (ip_uI M 109 8 (Int32.ofNat m)) 109 (c_cp ((ip_uI M 109 8 (Int32.ofNat m)).2.1 109) ((ip_uI M 109 8 (Int32.ofNat m)).2.1 121) 33 0 0) = ip_uI M 109 8 (Int32.ofNat m) := by
    rw [c_cp_0]
    exact ip_sI_id _ _ _ (fun _ => rfl)
  have eB : ip_sI (ip_uI M 109 8 (Int32.ofNat m)) 109 (c_cp ((ip_uI M 109 8 (Int32.ofNat m)).2.1 109) ((ip_uI M 109 8 (Int32.ofNat m)).2.1 121) 33 0 (3 * m)) = c_wd M (M.2.1 121) m := by
    have f1 : (ip_uI M 109 8 (Int32.ofNat m)).2.1 109 = fun b => if b = 8 then Int32.ofNat m else M.2.1 109 b := by
      funext b
      simp only [ip_uI_I, true_and]
    have f2 : (ip_uI M 109 8 (Int32.ofNat m)).2.1 121 = M.2.1 121 := by
      funext b
      simp (decide := true) only [ip_uI_I, false_and, ↓reduceIte]
    rw [f1, f2]
    unfold c_wd
    have e : (ip_sI (ip_uI M 109 8 (Int32.ofNat m)) 109 (c_cp (fun b => if b = 8 then Int32.ofNat m else M.2.1 109 b) (M.2.1 121) 33 0 (3 * m))).2.1 = (ip_sI M 109 (c_cp (fun b => if b = 8 then Int32.ofNat m else M.2.1 109 b) (M.2.1 121) 33 0 (3 * m))).2.1 := by
      funext a b
      simp only [ip_sI_I, ip_uI_I]
      by_cases h : a = 109
      · rw [if_pos h, if_pos h]
      · simp only [h, false_and, ↓reduceIte]
    exact Prod.ext rfl (Prod.ext e rfl)
  rw [eA, eB, e0] at hl
  have t1 : ip_wp X 234 63 [.ref 108, .int (Int32.ofNat m), .retAddr 1] [] M K = ip_wp X 234 73 [.ref 108, .int (Int32.ofNat m), .int 0] [] (ip_uI M 109 8 (Int32.ofNat m)) K := by
    simp (config := { maxSteps := 10000000, maxDischargeDepth := 30, decide := true }) only [w234_63, w234_64, w234_67, w234_69, w234_70, w234_71, w234_72, ↓ip_ka0, ↓ip_ki1, ip_get_0, ip_get_s, ip_set1, ip_clr_s, ip_cat_i, List.set_cons_zero, List.set_cons_succ, ip_vr_some, ↓reduceIte, Nat.reduceEqDiff, Int32.reduceToNatClampNeg, ip_ix_eq, gS_108 hG, gS_109 hG, gR_108_1 hG]
  rw [t1, hl]
  simp (config := { maxSteps := 10000000, maxDischargeDepth := 30, decide := true }) only [w234_101, w234_102, w234_103, w234_106, ↓ip_ka0, ↓ip_ki1, Option.toList_some, List.nil_append, List.cons_append, List.length_nil, Nat.zero_le, gw, g8, s_168]

set_option maxHeartbeats 40000000 in
set_option maxRecDepth 100000 in
theorem s_234c (X : ip_X) (M : ip_H) (K : Option Value → ip_H → Prop) (m : Nat) (h0 : m ≠ 0) (hm : m ≤ 40) (hG : ip_G M) (h8 : m8 (M.2.1 108 12) = true) : ip_wp X 234 28 [.ref 108, .int (Int32.ofNat m), .retAddr 1] [] M K = K (some (.int (Int32.ofNat m))) (c_ye (c_wd (c_ks (ip_uI M 108 33 (-1)) 8) (M.2.1 121) m)) := by
  have hne : (Int32.ofNat m = -1) = False := by
    refine eq_false fun q => ?_
    have := congrArg Int32.toInt q
    rw [Int32.toInt_ofNat_of_lt (by omega)] at this
    have e : (-1 : Int32).toInt = -1 := rfl
    omega
  have gM : ip_G (ip_uI M 108 33 (-1)) := hG
  have gk : ip_G (c_ks (ip_uI M 108 33 (-1)) 8) := gG_ks _ _ hG
  have k21 : (c_ks (ip_uI M 108 33 (-1)) 8).2.1 121 = M.2.1 121 := by
    funext b
    exact c_ks_I _ _ _ _ (by decide) (by decide) (by omega)
  have hd := s_234d X (c_ks (ip_uI M 108 33 (-1)) 8) K m hm gk
  rw [k21] at hd
  rw [← hd]
  have h70 : ∀ K, ip_wp X 170 0 [.ref 108, .int 8, .retAddr 1] [] (ip_uI M 108 33 (-1)) K = K none (c_ks (ip_uI M 108 33 (-1)) 8) := fun K => s_170u X _ K 8 gM h8
  simp (config := { maxSteps := 10000000, maxDischargeDepth := 30, decide := true }) only [w234_28, w234_29, w234_30, w234_31, w234_34, w234_35, w234_38, w234_41, w234_42, w234_45, w234_46, w234_47, w234_50, w234_51, w234_53, w234_56, w234_57, w234_58, w234_60, ↓ip_ka0, ↓ip_ki1, ip_uI_sh, Option.toList_none, List.nil_append, List.length_nil, ↓reduceIte, Nat.zero_le, gS_108 hG, hne, h70]

theorem o_234 (X : ip_X) (M : ip_H) (K : Option Value → ip_H → Prop) (hG : ip_G M) (hq : q3 (M.2.1 109 1) = true) (hm : m8 (M.2.1 108 12) = true) (ht : M.2.1 108 0 = 0) (f : Nat) (hf : f ≤ 200) (h32 : M.2.1 108 32 = Int32.ofNat f)
    (h : ∀ b0 q, q = rd_all (M.2.1 120) f 40 0 (M.2.1 121) (rd (M.2.1 120) f (0, b0, M.2.1 108 37, M.2.1 108 38)) →
      (q.1 = 0 → K (some (.int (-6))) (c_no (ip_uI (c_rD (c_r0 M) q.2.1 q.2.2) 108 33 (Int32.ofNat q.2.2.2.1)) 6 (-6))) ∧ (q.1 ≠ 0 → q.1 ≤ 40 → (∀ j, j < q.1 → wdk q.2.1 j) → K (some (.int (Int32.ofNat q.1))) (c_ye (c_wd (c_ks (ip_uI (c_rD (c_r0 M) q.2.1 q.2.2) 108 33 (-1)) 8) q.2.1 q.1)))) : ip_wp X 234 0 [.ref 108, .retAddr 1, .retAddr 1] [] M K := by
  obtain ⟨b0, hb0⟩ := ip_any (M.2.1 108 35)
  obtain ⟨ha, hb⟩ := h b0 _ rfl
  have g0 : ip_G (c_r0 M) := hG
  have h36 : (c_r0 M).2.1 108 36 = Int32.ofNat f := h32
  have h33 := fun K => s_233 X (c_r0 M) K f hf h36 g0 (M.2.1 121) (0, b0, M.2.1 108 37, M.2.1 108 38) (Nat.zero_le _) _ rfl
  have hok := rd_all_ok (M.2.1 120) f 40 0 (M.2.1 121) (rd (M.2.1 120) f (0, b0, M.2.1 108 37, M.2.1 108 38)) (fun j hj => absurd hj (Nat.not_lt_zero _))
  have eT : (c_r0 M).2.1 120 = M.2.1 120 := by
    funext b
    unfold c_r0
    simp (decide := true) only [ip_uI_I, false_and, and_false, ↓reduceIte]
  rw [eT] at h33
  generalize rd_all (M.2.1 120) f 40 0 (M.2.1 121) (rd (M.2.1 120) f (0, b0, M.2.1 108 37, M.2.1 108 38)) = q at *
  have e1 := s_234a X M K hG ht b0 hb0 _ _ h33
  refine Eq.mpr e1 ?_
  have gR : ip_G (c_rD (c_r0 M) q.2.1 q.2.2) := gG_rs _ _ (gG_sI _ _ _ (gG_uI _ _ _ _ (gG_uI _ _ _ _ hG)))
  by_cases h0 : q.1 = 0
  · rw [if_pos h0]
    exact Eq.mpr (s_234b X _ K gR q.2.2.2.1 rfl) (ha h0)
  · rw [if_neg h0]
    obtain ⟨o1, o2⟩ := hok h0
    have hm' : m8 ((c_rD (c_r0 M) q.2.1 q.2.2).2.1 108 12) = true := hm
    have e121 : (c_rD (c_r0 M) q.2.1 q.2.2).2.1 121 = q.2.1 := by
      funext b
      rfl
    have hc := s_234c X (c_rD (c_r0 M) q.2.1 q.2.2) K q.1 h0 (by omega) gR hm'
    rw [e121] at hc
    exact Eq.mpr hc (hb h0 (by omega) o2)
end
noncomputable section
-- PART 78.solve1
-- THE REFERENCE: SQUARES of a word, one behind another
theorem q_pl_nn {B : Bool} {a b : Int64} (ha : 0 ≤ a.toInt) (hb : 0 ≤ b.toInt) : 0 ≤ (q_pl B a b).1.toInt := by
  unfold q_pl
  by_cases h : (9223372036854775807 - b < a)
  · rw [decide_eq_true h, Bool.or_true, if_pos rfl]
    decide
  · rw [decide_eq_false h, Bool.or_false]
    cases B
    · rw [if_neg (by decide)]
      rw [Int64.lt_iff_toInt_lt, Int64.toInt_sub, show (9223372036854775807 : Int64).toInt = 9223372036854775807 from rfl, Int.bmod_eq_of_le_mul_two (by have := b.toInt_lt; omega) (by have := b.toInt_lt; omega)] at h
      show 0 ≤ (a + b).toInt
      rw [Int64.toInt_add, Int.bmod_eq_of_le_mul_two (by omega) (by omega)]
      omega
    · rw [if_pos rfl]
      decide
theorem q_ti_nn {B : Bool} {a b : Int64} (ha : 0 ≤ a.toInt) (hb : 0 ≤ b.toInt) : 0 ≤ (q_ti B a b).1.toInt := by
  unfold q_ti
  by_cases h0 : b = 0
  · subst h0
    show 0 ≤ (if _ then (0 : Int64) else a * 0).toInt
    rw [Int64.mul_zero, ite_self]
    decide
  rw [decide_eq_false h0]
  by_cases h : (9223372036854775807 / b < a)
  · rw [decide_eq_true h, Bool.not_false, Bool.true_and, Bool.or_true, if_pos rfl]
    decide
  · rw [decide_eq_false h, Bool.and_false, Bool.or_false]
    cases B
    · rw [if_neg (by decide)]
      have hb0 : b.toInt ≠ 0 := fun q => h0 (Int64.toInt_inj.mp q)
      rw [Int64.lt_iff_toInt_lt, Int64.toInt_div, show (9223372036854775807 : Int64).toInt = 9223372036854775807 from rfl] at h
      have hd : (9223372036854775807 : Int).tdiv b.toInt = 9223372036854775807 / b.toInt := Int.tdiv_eq_ediv_of_nonneg (by decide)
      have hle : (9223372036854775807 : Int) / b.toInt ≤ 9223372036854775807 := Int.ediv_le_self _ (by decide)
      have hge : 0 ≤ (9223372036854775807 : Int) / b.toInt := Int.ediv_nonneg (by decide) hb
      rw [hd, Int.bmod_eq_of_le_mul_two (by omega) (by omega)] at h
      have h1 : a.toInt ≤ 9223372036854775807 / b.toInt := by omega
      have h2 : a.toInt * b.toInt ≤ 9223372036854775807 := (Int.le_ediv_iff_mul_le (by omega)).mp h1
      have h3 : 0 ≤ a.toInt * b.toInt := Int.mul_nonneg ha hb
      show 0 ≤ (a * b).toInt
      rw [Int64.toInt_mul, Int.bmod_eq_of_le_mul_two (by omega) (by omega)]
      exact h3
    · rw [if_pos rfl]
      decide
theorem q_row_nn {B : Bool} {x y z a b : Int64} (hx : 0 ≤ x.toInt) (hy : 0 ≤ y.toInt) (hz : 0 ≤ z.toInt) (ha : 0 ≤ a.toInt) (hb : 0 ≤ b.toInt) : 0 ≤ (q_row B x y z a b).1.toInt := by
  unfold q_row
  exact q_pl_nn hx (q_pl_nn (q_ti_nn hy ha) (q_ti_nn hz hb))
theorem q_nx_nn {B : Bool} {g : Nat → Int64} {a b : Int64} {t : Bool} (hg : ∀ j, j < 9 → 0 ≤ (g j).toInt) (ha : 0 ≤ a.toInt) (hb : 0 ≤ b.toInt) (j : Nat) (hj : j < 9) : 0 ≤ (q_nx B g a b t j).toInt := by
  have g0 := hg 0 (by decide)
  have g1 := hg 1 (by decide)
  have g2 := hg 2 (by decide)
  have g3 := hg 3 (by decide)
  have g4 := hg 4 (by decide)
  have g5 := hg 5 (by decide)
  have g6 := hg 6 (by decide)
  have g7 := hg 7 (by decide)
  have g8 := hg 8 (by decide)
  have hA : 0 ≤ (q_a B g a b).1.toInt := q_row_nn g0 g1 g2 ha hb
  have hB : 0 ≤ (q_b B g a b).1.toInt := q_row_nn g3 g4 g5 ha hb
  have hC : 0 ≤ (q_c B g a b).1.toInt := q_row_nn g6 g7 g8 ha hb
  unfold q_nx
  split
  · split <;> assumption
  split
  · split <;> assumption
  split
  · exact hA
  split
  · split <;> assumption
  split
  · split <;> assumption
  split
  · exact hB
  split
  · split <;> assumption
  split
  · split <;> assumption
  · exact hC
/-- round, next and whether beyond -/
def c_rN (M : ip_H) (R S : Nat → Int64) (B : Bool) : ip_H := ip_uI (ip_sL (ip_sL M 118 S) 123 R) 108 29 (ip_b B)
theorem c_rN_I (M : ip_H) (R S : Nat → Int64) (B : Bool) (a b : Nat) : (c_rN M R S B).2.1 a b = if a = 108 ∧ b = 29 then ip_b B else M.2.1 a b := rfl
theorem c_rN_L (M : ip_H) (R S : Nat → Int64) (B : Bool) (a b : Nat) : (c_rN M R S B).2.2.1 a b = if a = 123 then R b else if a = 118 then S b else M.2.2.1 a b := by
  unfold c_rN
  simp only [ip_uI_L, ip_sL_L]
theorem c_rN_109 (M : ip_H) (R S : Nat → Int64) (B : Bool) : (c_rN M R S B).2.1 109 = M.2.1 109 := by
  funext b
  rw [c_rN_I, if_neg (by omega)]
theorem c_rN_123 (M : ip_H) (R S : Nat → Int64) (B : Bool) : (c_rN M R S B).2.2.1 123 = R := by
  funext b
  rw [c_rN_L, if_pos rfl]
/-- the square of the unit: 1 where row and column are alike -/
def c_one (R : Nat → Int64) (j : Nat) : Int64 := if j < 9 then (if j % 4 = 0 then 1 else 0) else R j
theorem c_one_nn (R : Nat → Int64) (j : Nat) (h : j < 9) : 0 ≤ (c_one R j).toInt := by
  unfold c_one
  rw [if_pos h]
  split <;> decide

set_option maxHeartbeats 40000000 in
set_option maxRecDepth 100000 in
theorem s_262 (X : ip_X) (M : ip_H) (K : Option Value → ip_H → Prop) (hG : ip_G M) : ip_wp X 262 0 [.ref 108, .retAddr 1] [] M K = K none (c_rN M (c_one (M.2.2.1 123)) (M.2.2.1 118) false) := by
  have key : ∀ M1, M1 = c_rN M (c_one (M.2.2.1 123)) (M.2.2.1 118) false → K none M1 = K none (c_rN M (c_one (M.2.2.1 123)) (M.2.2.1 118) false) := fun M1 h => by rw [h]
  simp (config := { maxSteps := 10000000, maxDischargeDepth := 30, decide := true }) only [w262_0, w262_1, w262_2, w262_3, w262_5, w262_8, w262_9, w262_12, w262_13, w262_14, w262_15, w262_16, w262_19, w262_20, w262_23, w262_24, w262_25, w262_28, w262_31, w262_32, w262_33, w262_36, ↓ip_ka0, ↓ip_ki1, ip_set1, ip_clr_s, List.set_cons_zero, List.set_cons_succ, ip_uL_R, ip_uL_sh, ip_vr_some, ↓reduceIte, or_false, not_false_eq_true, Int32.reduceSub, Int32.reduceAdd, Int32.reduceMul, Int32.reduceToNatClampNeg, ip_ix_eq, Int32.reduceDiv, gS_108 hG, gS_123 hG, gR_108_43 hG, Int32.reduceMod]
  apply key
  refine Prod.ext rfl (Prod.ext rfl (Prod.ext ?_ rfl))
  funext a b
  rw [c_rN_L]
  unfold c_one
  simp only [ip_uI_L, ip_uL_L]
  by_cases h : a = 123
  · subst h
    by_cases hb : b < 9
    · have hj : b = 0 ∨ b = 1 ∨ b = 2 ∨ b = 3 ∨ b = 4 ∨ b = 5 ∨ b = 6 ∨ b = 7 ∨ b = 8 := by omega
      rcases hj with rfl | rfl | rfl | rfl | rfl | rfl | rfl | rfl | rfl <;> simp (decide := true) only [true_and, ↓reduceIte]
    · have e0 : ¬ b = 0 := by omega
      have e1 : ¬ b = 1 := by omega
      have e2 : ¬ b = 2 := by omega
      have e3 : ¬ b = 3 := by omega
      have e4 : ¬ b = 4 := by omega
      have e5 : ¬ b = 5 := by omega
      have e6 : ¬ b = 6 := by omega
      have e7 : ¬ b = 7 := by omega
      have e8 : ¬ b = 8 := by omega
      simp only [e0, e1, e2, e3, e4, e5, e6, e7, e8, hb, and_false, ↓reduceIte]
  · simp only [h, false_and, ↓reduceIte]
    by_cases h2 : a = 118
    · subst h2; rw [if_pos rfl]
    · rw [if_neg h2]

set_option maxHeartbeats 40000000 in
set_option maxRecDepth 100000 in
theorem s_263l (X : ip_X) (M : ip_H) (K : Option Value → ip_H → Prop) (k : Int32) (hG : ip_G M) : ∀ (n i : Nat), i + n = 9 → ip_wp X 263 32 [.ref 108, .int k, .int (Int32.ofNat i)] [] (ip_sL M 123 (c_cp (M.2.2.1 123) (M.2.2.1 118) (0) (0) i)) K = ip_wp X 263 56 [.ref 108, .int k, .int (Int32.ofNat 9)] [] (ip_sL M 123 (c_cp (M.2.2.1 123) (M.2.2.1 118) (0) (0) 9)) K := by
  intro n
  induction n with
  | zero =>
    intro i h
    have hi : i = 9 := by omega
    subst hi
    have hk : (Int32.ofNat 9 < 9) = False := by decide +kernel
    simp (config := { maxSteps := 10000000, maxDischargeDepth := 30, decide := true }) only [w263_32, w263_33, w263_35, w263_38, ↓ip_ki2, ↓reduceIte, Int32.reduceOfNat]
  | succ n ih =>
    intro i h
    have hk : (Int32.ofNat i < 9) = True := by rw [show (9 : Int32) = Int32.ofNat 9 from rfl, ip_nlt _ _ (by omega) (by decide)]; exact eq_true (by omega)
    have ei : Int32.ofNat i + 1 = Int32.ofNat (i + 1) := ip_oa i 1
    have et : True := trivial
    have nt : (Int32.ofNat (i) < 0) = False := eq_false (ip_nn _ (by omega))
    have ct : (Int32.ofNat (i)).toNatClampNeg = i := ip_nc _ (by omega)
    have lt : (i < 9) = True := eq_true (by omega)
    have es : True := trivial
    have ns : (Int32.ofNat (i) < 0) = False := eq_false (ip_nn _ (by omega))
    have cs : (Int32.ofNat (i)).toNatClampNeg = i := ip_nc _ (by omega)
    have ls : (i < 9) = True := eq_true (by omega)
    have hrd : True := trivial
    have eM : (ip_sL M 123 (c_cp (M.2.2.1 123) (M.2.2.1 118) (0) (0) (i + 1))) = ip_uL (ip_sL M 123 (c_cp (M.2.2.1 123) (M.2.2.1 118) (0) (0) i)) 123 (i) (M.2.2.1 118 (i)) := by rw [ip_uL_sL, ← c_cp_s]; simp only [Nat.zero_add]
    have step : ∀ Z : Prop, ip_wp X 263 32 [.ref 108, .int k, .int (Int32.ofNat (i + 1))] [] (ip_uL (ip_sL M 123 (c_cp (M.2.2.1 123) (M.2.2.1 118) (0) (0) i)) 123 (i) (M.2.2.1 118 (i))) K = Z → ip_wp X 263 32 [.ref 108, .int k, .int (Int32.ofNat i)] [] (ip_sL M 123 (c_cp (M.2.2.1 123) (M.2.2.1 118) (0) (0) i)) K = Z := by
      intro Z hZ
      simp (config := { maxSteps := 10000000, maxDischargeDepth := 30, decide := true }) only [w263_32, w263_33, w263_35, w263_38, w263_39, w263_42, w263_43, w263_44, w263_47, w263_48, w263_49, w263_50, ↓ip_ka0, ↓ip_ki2, ip_get_0, ip_get_s, ip_set1, ip_clr_s, ip_cat_i, List.set_cons_zero, List.set_cons_succ, ip_vr_some, ↓reduceIte, Nat.reduceEqDiff, and_self, not_false_eq_true, ip_sL_L, ip_sL_R, ip_sL_sh, ip_ix_eq, hk, ei, nt, ct, lt, gS_108 hG, gS_118 hG, gS_123 hG, gR_108_28 hG, gR_108_43 hG]
      rw [w263_53]
      exact hZ
    exact step _ ((congrArg (fun q => ip_wp X 263 32 [.ref 108, .int k, .int (Int32.ofNat (i + 1))] [] q K) eM.symm).trans (ih (i + 1) (by omega)))
theorem s_263l0 (X : ip_X) (M : ip_H) (K : Option Value → ip_H → Prop) (k : Int32) (hG : ip_G M) : ip_wp X 263 32 [.ref 108, .int k, .int (Int32.ofNat 0)] [] M K = ip_wp X 263 56 [.ref 108, .int k, .int (Int32.ofNat 9)] [] (ip_sL M 123 (c_cp (M.2.2.1 123) (M.2.2.1 118) (0) (0) 9)) K := by
  have h := s_263l X M K k hG 9 0 rfl
  rw [c_cp_0, ip_sL_id _ _ _ (fun _ => rfl)] at h
  exact h

set_option maxHeartbeats 40000000 in
set_option maxRecDepth 100000 in
theorem s_269_01 (X : ip_X) (M : ip_H) (K : Option Value → ip_H → Prop) (hG : ip_G M) : ip_wp X 269 0 [.ref 108, .int 0, .int 1] [] M K = K (some (.long (M.2.2.1 123 0 * M.2.2.1 123 4 - M.2.2.1 123 1 * M.2.2.1 123 3))) M := by
  simp (config := { maxSteps := 10000000, maxDischargeDepth := 30, decide := true }) only [w269_0, w269_1, w269_4, w269_5, w269_6, w269_7, w269_8, w269_9, w269_12, w269_13, w269_14, w269_15, w269_16, w269_17, w269_18, w269_21, w269_22, w269_23, w269_24, w269_25, w269_26, w269_27, w269_28, w269_31, w269_32, w269_33, w269_34, w269_35, w269_36, w269_37, w269_38, w269_39, ↓ip_ka0, ↓ip_ki1, ↓ip_ki2, ip_vr_some, Int32.reduceAdd, Int32.reduceMul, Int32.reduceToNatClampNeg, ip_ix_eq, gS_108 hG, gS_123 hG, gR_108_43 hG]

set_option maxHeartbeats 40000000 in
set_option maxRecDepth 100000 in
theorem s_269_02 (X : ip_X) (M : ip_H) (K : Option Value → ip_H → Prop) (hG : ip_G M) : ip_wp X 269 0 [.ref 108, .int 0, .int 2] [] M K = K (some (.long (M.2.2.1 123 0 * M.2.2.1 123 8 - M.2.2.1 123 2 * M.2.2.1 123 6))) M := by
  simp (config := { maxSteps := 10000000, maxDischargeDepth := 30, decide := true }) only [w269_0, w269_1, w269_4, w269_5, w269_6, w269_7, w269_8, w269_9, w269_12, w269_13, w269_14, w269_15, w269_16, w269_17, w269_18, w269_21, w269_22, w269_23, w269_24, w269_25, w269_26, w269_27, w269_28, w269_31, w269_32, w269_33, w269_34, w269_35, w269_36, w269_37, w269_38, w269_39, ↓ip_ka0, ↓ip_ki1, ↓ip_ki2, ip_vr_some, Int32.reduceAdd, Int32.reduceMul, Int32.reduceToNatClampNeg, ip_ix_eq, gS_108 hG, gS_123 hG, gR_108_43 hG]

set_option maxHeartbeats 40000000 in
set_option maxRecDepth 100000 in
theorem s_269_12 (X : ip_X) (M : ip_H) (K : Option Value → ip_H → Prop) (hG : ip_G M) : ip_wp X 269 0 [.ref 108, .int 1, .int 2] [] M K = K (some (.long (M.2.2.1 123 4 * M.2.2.1 123 8 - M.2.2.1 123 5 * M.2.2.1 123 7))) M := by
  simp (config := { maxSteps := 10000000, maxDischargeDepth := 30, decide := true }) only [w269_0, w269_1, w269_4, w269_5, w269_6, w269_7, w269_8, w269_9, w269_12, w269_13, w269_14, w269_15, w269_16, w269_17, w269_18, w269_21, w269_22, w269_23, w269_24, w269_25, w269_26, w269_27, w269_28, w269_31, w269_32, w269_33, w269_34, w269_35, w269_36, w269_37, w269_38, w269_39, ↓ip_ka0, ↓ip_ki1, ↓ip_ki2, ip_vr_some, Int32.reduceAdd, Int32.reduceMul, Int32.reduceToNatClampNeg, ip_ix_eq, gS_108 hG, gS_123 hG, gR_108_43 hG]

def c_2nd (M : ip_H) (a b c d : Int32) : ip_H := ip_uI (ip_uI (ip_uI (ip_uI M 125 0 a) 125 1 b) 125 2 c) 125 3 d

set_option maxHeartbeats 40000000 in
set_option maxRecDepth 100000 in
theorem s_285 (X : ip_X) (M : ip_H) (K : Option Value → ip_H → Prop) (a b c d : Int32) (hG : ip_G M) : ip_wp X 285 0 [.ref 108, .int a, .int b, .int c, .int d] [] M K = K none (c_2nd M a b c d) := by
  unfold c_2nd
  simp (config := { maxSteps := 10000000, maxDischargeDepth := 30, decide := true }) only [w285_0, w285_1, w285_4, w285_5, w285_6, w285_7, w285_8, w285_11, w285_12, w285_13, w285_14, w285_15, w285_18, w285_19, w285_20, w285_21, w285_22, w285_25, w285_26, w285_28, w285_29, ↓ip_ka0, ↓ip_ki1, ↓ip_ki2, ↓ip_ki3, ↓ip_ki4, ip_uI_R, ip_uI_sh, ip_vr_some, Int32.reduceToNatClampNeg, ip_ix_eq, gS_108 hG, gS_125 hG, gR_108_45 hG]

set_option maxHeartbeats 40000000 in
set_option maxRecDepth 100000 in
theorem s_244 (X : ip_X) (M : ip_H) (K : Option Value → ip_H → Prop) (a : Int32) : ip_wp X 244 0 [.int a] [] M K = K (some (.int (if a - a / 2 * 2 = 0 then 1 else -1))) M := by
  by_cases h : a - a / 2 * 2 = 0
  · rw [if_pos h]
    simp (config := { maxSteps := 10000000, maxDischargeDepth := 30, decide := true }) only [w244_0, w244_1, w244_2, w244_3, w244_6, w244_7, w244_10, w244_11, ↓ip_ki0, ↓reduceIte, not_false_eq_true, h]
  · rw [if_neg h]
    simp (config := { maxSteps := 10000000, maxDischargeDepth := 30, decide := true }) only [w244_0, w244_1, w244_2, w244_3, w244_6, w244_7, w244_10, w244_11, ↓ip_ki0, ↓reduceIte, not_false_eq_true, h]
end
noncomputable section
-- PART 79.solve2
-- THE REFERENCE: solve
def e_f (R : Nat → Int) : Int := R 4 * R 8 - R 5 * R 7
def e_g (R : Nat → Int) : Int := -R 4 - R 8
def e_1 (R : Nat → Int) : Int := R 5 * R 6 - R 3 * R 8
def e_2 (R : Nat → Int) : Int := R 7 * R 3 - R 6 * R 4
def e_z1 (p q r : Int) (R : Nat → Int) : Int × Int × Int × Int := zQ4 p q r (e_1 R, R 3, 0, 1) (e_f R, e_g R, 1, 1)
def e_z2 (p q r : Int) (R : Nat → Int) : Int × Int × Int × Int := zQ4 p q r (e_2 R, R 6, 0, 1) (e_f R, e_g R, 1, 1)
def e_b (R : Nat → Int) : Prop := ∀ j, j < 9 → 0 ≤ R j ∧ R j ≤ 99
theorem e_mul {a b : Int} (ha : 0 ≤ a ∧ a ≤ 99) (hb : 0 ≤ b ∧ b ≤ 99) : 0 ≤ a * b ∧ a * b ≤ 9801 := by
  refine ⟨Int.mul_nonneg ha.1 hb.1, ?_⟩
  have h := Int.mul_le_mul ha.2 hb.2 hb.1 (by decide : (0 : Int) ≤ 99)
  omega
theorem e_ff {R : Nat → Int} (h : e_b R) : c_fb (e_f R, e_g R, 1, 1) := by
  have a := e_mul (h 4 (by decide)) (h 8 (by decide))
  have b := e_mul (h 5 (by decide)) (h 7 (by decide))
  have c := h 4 (by decide)
  have d := h 8 (by decide)
  refine ⟨?_, ?_, ?_, by dsimp only; decide, by dsimp only; decide⟩
  · unfold zb e_f; dsimp only; omega
  · unfold zb e_g; dsimp only; omega
  · unfold zb; dsimp only; decide
theorem e_f1 {R : Nat → Int} (h : e_b R) : c_fb (e_1 R, R 3, 0, 1) := by
  have a := e_mul (h 5 (by decide)) (h 6 (by decide))
  have b := e_mul (h 3 (by decide)) (h 8 (by decide))
  have c := h 3 (by decide)
  refine ⟨?_, ?_, ?_, by dsimp only; decide, by dsimp only; decide⟩
  · unfold zb e_1; dsimp only; omega
  · unfold zb; dsimp only; omega
  · unfold zb; dsimp only; decide
theorem e_f2 {R : Nat → Int} (h : e_b R) : c_fb (e_2 R, R 6, 0, 1) := by
  have a := e_mul (h 7 (by decide)) (h 3 (by decide))
  have b := e_mul (h 6 (by decide)) (h 4 (by decide))
  have c := h 6 (by decide)
  refine ⟨?_, ?_, ?_, by dsimp only; decide, by dsimp only; decide⟩
  · unfold zb e_2; dsimp only; omega
  · unfold zb; dsimp only; omega
  · unfold zb; dsimp only; decide
theorem e_nz (R : Nat → Int) : c_nz (e_f R, e_g R, 1, 1) := fun h => absurd h.2.2 (by dsimp only; decide)
def c_ft (M : ip_H) (z : Int × Int × Int × Int) : ip_H := ip_uI (ip_uI (ip_uI (ip_uI M 124 0 (Int32.ofInt z.1)) 124 1 (Int32.ofInt z.2.1)) 124 2 (Int32.ofInt z.2.2.1)) 124 3 (Int32.ofInt z.2.2.2)
theorem c_x4_13 (M : ip_H) (z : Int × Int × Int × Int) : (c_x4 M z).2.2.1 108 13 = Int64.ofInt z.1 := by unfold c_x4; simp (decide := true) only [ip_x4_L, ↓reduceIte]
theorem c_x4_14 (M : ip_H) (z : Int × Int × Int × Int) : (c_x4 M z).2.2.1 108 14 = Int64.ofInt z.2.1 := by unfold c_x4; simp (decide := true) only [ip_x4_L, ↓reduceIte]
theorem c_x4_15 (M : ip_H) (z : Int × Int × Int × Int) : (c_x4 M z).2.2.1 108 15 = Int64.ofInt z.2.2.1 := by unfold c_x4; simp (decide := true) only [ip_x4_L, ↓reduceIte]
theorem c_x4_16 (M : ip_H) (z : Int × Int × Int × Int) : (c_x4 M z).2.2.1 108 16 = Int64.ofInt z.2.2.2 := by unfold c_x4; simp (decide := true) only [ip_x4_L, ↓reduceIte]
theorem c_x4_L (M : ip_H) (z : Int × Int × Int × Int) (a b : Nat) (h : ¬ a = 108) : (c_x4 M z).2.2.1 a b = M.2.2.1 a b := by unfold c_x4; simp only [ip_x4_L, h, false_and, ↓reduceIte]
theorem gG_cx4 (M : ip_H) (z : Int × Int × Int × Int) (h : ip_G M) : ip_G (c_x4 M z) := gG_x4 _ _ _ _ _ h
theorem s_190z (X : ip_X) (M : ip_H) (K : Option Value → ip_H → Prop) (z : Int × Int × Int × Int) (hG : ip_G M) : ip_wp X 190 0 [.ref 108] [] (c_x4 M z) K = K (some (.int (ip_b (zcan z)))) (c_x4 M z) := by
  have h := s_190 X (c_x4 M z) K (gG_cx4 M z hG)
  rw [c_x4_13, c_x4_14, c_x4_15, c_x4_16] at h
  exact h

set_option maxHeartbeats 40000000 in
set_option maxRecDepth 100000 in
theorem s_281a (X : ip_X) (M : ip_H) (K : Option Value → ip_H → Prop) (R : Nat → Int) (hR : ∀ j, j < 9 → M.2.2.1 123 j = Int64.ofInt (R j)) (hb : e_b R) (hG : ip_G M) (hF : zF (M.2.1 109 0).toInt (M.2.1 109 1).toInt (M.2.1 109 2).toInt = true) : ip_wp X 281 0 [.ref 108, .retAddr 1, .retAddr 1, .retAddr 1, .retAddr 1] [] M K = ip_wp X 281 91 [.ref 108, .long (Int64.ofInt (e_f R)), .retAddr 1, .long (Int64.ofInt (e_g R)), .retAddr 1] [] (c_x4 M (e_z1 (M.2.1 109 0).toInt (M.2.1 109 1).toInt (M.2.1 109 2).toInt R)) K := by
  have r3 := hR 3 (by decide)
  have r4 := hR 4 (by decide)
  have r5 := hR 5 (by decide)
  have r6 := hR 6 (by decide)
  have r7 := hR 7 (by decide)
  have r8 := hR 8 (by decide)
  obtain ⟨a1, a2, a3, a4, a5⟩ := e_ff hb
  obtain ⟨b1, b2, b3, b4, b5⟩ := e_f1 hb
  simp (config := { maxSteps := 10000000, maxDischargeDepth := 30, decide := true }) only [w281_0, w281_1, w281_4, w281_5, w281_6, w281_7, w281_10, w281_12, w281_13, w281_14, w281_15, w281_18, w281_19, w281_20, w281_21, w281_24, w281_26, w281_27, w281_28, w281_29, w281_30, w281_31, w281_34, w281_35, w281_36, w281_37, w281_38, w281_41, w281_43, w281_44, w281_45, w281_46, w281_47, w281_48, w281_51, w281_52, w281_53, w281_54, w281_57, w281_59, w281_60, w281_61, w281_62, w281_65, w281_66, w281_67, w281_68, w281_71, w281_73, w281_74, w281_75, w281_76, w281_77, w281_80, w281_81, w281_82, w281_83, w281_84, w281_85, w281_86, w281_87, w281_88, ↓ip_ka0, ↓ip_kl1, ↓ip_kl3, ip_get_0, ip_get_s, ip_set2, ip_clr_s, ip_cat_a, List.set_cons_zero, List.set_cons_succ, ip_vr_some, List.length_nil, ↓reduceIte, Nat.reduceAdd, Nat.reduceEqDiff, Nat.zero_le, Int32.reduceToNatClampNeg, ip_ix_eq, gS_108 hG, gS_123 hG, gR_108_43 hG, r3, r4, r5, r6, r7, r8, z_l1, ← Int64.ofInt_mul, ← Int64.ofInt_sub, ← Int64.ofInt_neg, z_l0]
  exact (s_192 X M _ (e_1 R) (R 3) 0 1 (e_f R) (e_g R) 1 1 hG hF b1 b2 b3 ⟨b4, b5⟩ ⟨a4, a5⟩ a1 a2 a3 (e_nz R))

set_option maxHeartbeats 40000000 in
set_option maxRecDepth 100000 in
theorem s_281c (X : ip_X) (M : ip_H) (K : Option Value → ip_H → Prop) (R : Nat → Int) (z : Int × Int × Int × Int) (hR : ∀ j, j < 9 → M.2.2.1 123 j = Int64.ofInt (R j)) (hb : e_b R) (hG : ip_G M) (hF : zF (M.2.1 109 0).toInt (M.2.1 109 1).toInt (M.2.1 109 2).toInt = true) (h13 : M.2.2.1 108 13 = Int64.ofInt z.1) (h14 : M.2.2.1 108 14 = Int64.ofInt z.2.1) (h15 : M.2.2.1 108 15 = Int64.ofInt z.2.2.1) (h16 : M.2.2.1 108 16 = Int64.ofInt z.2.2.2) : ip_wp X 281 100 [.ref 108, .long (Int64.ofInt (e_f R)), .retAddr 1, .long (Int64.ofInt (e_g R)), .retAddr 1] [] M K = ip_wp X 281 190 [.ref 108, .long (Int64.ofInt (e_f R)), .retAddr 1, .long (Int64.ofInt (e_g R)), .retAddr 1] [] (c_x4 (c_ft M z) (e_z2 (M.2.1 109 0).toInt (M.2.1 109 1).toInt (M.2.1 109 2).toInt R)) K := by
  have r3 := hR 3 (by decide)
  have r4 := hR 4 (by decide)
  have r5 := hR 5 (by decide)
  have r6 := hR 6 (by decide)
  have r7 := hR 7 (by decide)
  have r8 := hR 8 (by decide)
  obtain ⟨a1, a2, a3, a4, a5⟩ := e_ff hb
  obtain ⟨b1, b2, b3, b4, b5⟩ := e_f2 hb
  have hG2 : ip_G (c_ft M z) := gG_uI _ _ _ _ (gG_uI _ _ _ _ (gG_uI _ _ _ _ (gG_uI _ _ _ _ hG)))
  have ef : (c_ft M z).2.1 109 = M.2.1 109 := by
    funext b
    unfold c_ft
    simp (decide := true) only [ip_uI_I, false_and, ↓reduceIte]
  have hF2 : zF ((c_ft M z).2.1 109 0).toInt ((c_ft M z).2.1 109 1).toInt ((c_ft M z).2.1 109 2).toInt = true := by rw [ef]; exact hF
  have h92 := fun K => s_192 X (c_ft M z) K (e_2 R) (R 6) 0 1 (e_f R) (e_g R) 1 1 hG2 hF2 b1 b2 b3 ⟨b4, b5⟩ ⟨a4, a5⟩ a1 a2 a3 (e_nz R)
  rw [ef] at h92
  simp (config := { maxSteps := 10000000, maxDischargeDepth := 30, decide := true }) only [w281_100, w281_101, w281_104, w281_105, w281_106, w281_109, w281_110, w281_111, w281_112, w281_115, w281_116, w281_117, w281_120, w281_121, w281_122, w281_123, w281_126, w281_127, w281_128, w281_131, w281_132, w281_133, w281_134, w281_137, w281_138, w281_139, w281_142, w281_143, w281_144, w281_145, w281_146, w281_149, w281_151, w281_152, w281_153, w281_156, w281_157, w281_158, w281_159, w281_160, w281_163, w281_165, w281_166, w281_167, w281_170, w281_171, w281_172, w281_173, w281_174, w281_175, w281_178, w281_180, w281_181, w281_182, w281_183, w281_184, w281_185, w281_186, w281_187, ↓ip_ka0, ↓ip_kl1, ↓ip_kl3, ip_uI_L, ip_uI_R, ip_uI_sh, ip_vr_some, List.length_nil, Nat.zero_le, Int32.reduceToNatClampNeg, ip_ix_eq, gS_108 hG, gS_123 hG, gS_124 hG, gR_108_43 hG, gR_108_44 hG, h13, h14, h15, h16, z_l2i, r3, r4, r5, r6, r7, r8, z_l1, ← Int64.ofInt_mul, ← Int64.ofInt_sub, z_l0]
  exact h92 _

set_option maxHeartbeats 40000000 in
set_option maxRecDepth 100000 in
theorem o_281 (X : ip_X) (M : ip_H) (K : Option Value → ip_H → Prop) (R : Nat → Int) (hR : ∀ j, j < 9 → M.2.2.1 123 j = Int64.ofInt (R j)) (hb : e_b R) (hG : ip_G M) (hF : zF (M.2.1 109 0).toInt (M.2.1 109 1).toInt (M.2.1 109 2).toInt = true)
    (h0 : zcan (e_z1 (M.2.1 109 0).toInt (M.2.1 109 1).toInt (M.2.1 109 2).toInt R) = false → K (some (.int 0)) (c_x4 M (e_z1 (M.2.1 109 0).toInt (M.2.1 109 1).toInt (M.2.1 109 2).toInt R)))
    (h1 : zcan (e_z1 (M.2.1 109 0).toInt (M.2.1 109 1).toInt (M.2.1 109 2).toInt R) = true → K (some (.int (ip_b (zcan (e_z2 (M.2.1 109 0).toInt (M.2.1 109 1).toInt (M.2.1 109 2).toInt R))))) (c_x4 (c_ft (c_x4 M (e_z1 (M.2.1 109 0).toInt (M.2.1 109 1).toInt (M.2.1 109 2).toInt R)) (e_z1 (M.2.1 109 0).toInt (M.2.1 109 1).toInt (M.2.1 109 2).toInt R)) (e_z2 (M.2.1 109 0).toInt (M.2.1 109 1).toInt (M.2.1 109 2).toInt R))) : ip_wp X 281 0 [.ref 108, .retAddr 1, .retAddr 1, .retAddr 1, .retAddr 1] [] M K := by
  refine Eq.mpr (s_281a X M K R hR hb hG hF) ?_
  have hRn : ∀ z, ∀ j, j < 9 → (c_x4 M z).2.2.1 123 j = Int64.ofInt (R j) := fun z j hj => (c_x4_L M z 123 j (by decide)).trans (hR j hj)
  have hFn : ∀ z, zF ((c_x4 M z).2.1 109 0).toInt ((c_x4 M z).2.1 109 1).toInt ((c_x4 M z).2.1 109 2).toInt = true := fun z => hF
  have hc := fun z => s_281c X (c_x4 M z) K R z (hRn z) hb hG (hFn z) (c_x4_13 M z) (c_x4_14 M z) (c_x4_15 M z) (c_x4_16 M z)
  have e109 : ∀ z, (c_x4 M z).2.1 109 = M.2.1 109 := fun z => rfl
  simp only [e109] at hc
  generalize e_z1 (M.2.1 109 0).toInt (M.2.1 109 1).toInt (M.2.1 109 2).toInt R = z at *
  generalize e_z2 (M.2.1 109 0).toInt (M.2.1 109 1).toInt (M.2.1 109 2).toInt R = z2 at *
  have g8 : ∀ z, ip_sh (c_x4 M z) 108 = (0, 11, 48) := fun z => gS_108 hG
  have h90 := fun K => s_190z X M K z hG
  cases hz : zcan z
  · have h0 := h0 hz
    rw [hz] at h90
    simp (config := { maxSteps := 10000000, maxDischargeDepth := 30, decide := true }) only [w281_91, w281_92, w281_95, w281_98, w281_99, ↓ip_ka0, Option.toList_some, List.nil_append, List.cons_append, List.length_nil, ↓reduceIte, Nat.zero_le, or_false, ip_b_f, g8, h90]
    exact h0
  · have h1 := h1 hz
    rw [hz] at h90
    have t : ip_wp X 281 91 [.ref 108, .long (Int64.ofInt (e_f R)), .retAddr 1, .long (Int64.ofInt (e_g R)), .retAddr 1] [] (c_x4 M z) K = ip_wp X 281 100 [.ref 108, .long (Int64.ofInt (e_f R)), .retAddr 1, .long (Int64.ofInt (e_g R)), .retAddr 1] [] (c_x4 M z) K := by
      simp (config := { maxSteps := 10000000, maxDischargeDepth := 30, decide := true }) only [w281_91, w281_92, w281_95, ↓ip_ka0, Option.toList_some, List.nil_append, List.cons_append, List.length_nil, ↓reduceIte, Nat.zero_le, ip_b_t, g8, h90]
    refine Eq.mpr (t.trans (hc z)) ?_
    have gf : ip_G (c_ft (c_x4 M z) z) := gG_uI _ _ _ _ (gG_uI _ _ _ _ (gG_uI _ _ _ _ (gG_uI _ _ _ _ (gG_cx4 _ _ hG))))
    have g9 : ip_sh (c_x4 (c_ft (c_x4 M z) z) z2) 108 = (0, 11, 48) := gS_108 hG
    have h90 := fun K => s_190z X (c_ft (c_x4 M z) z) K z2 gf
    simp (config := { maxSteps := 10000000, maxDischargeDepth := 30, decide := true }) only [w281_190, w281_191, w281_194, ↓ip_ka0, Option.toList_some, List.nil_append, List.cons_append, List.length_nil, Nat.zero_le, ip_b_0, ip_b_1, g9, h90, ip_b_ft]
    exact h1
end
