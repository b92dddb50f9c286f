noncomputable section
-- PART 63.rows
-- ROWS COPIED WHOLE
def c_cp {α : Type} (f g : Nat → α) (to so n : Nat) : Nat → α := fun j => if to ≤ j ∧ j < to + n then g (j - to + so) else f j
theorem c_cp_0 {α : Type} (f g : Nat → α) (to so : Nat) : c_cp f g to so 0 = f := by
  funext j
  unfold c_cp
  rw [if_neg (by omega)]
theorem c_cp_s {α : Type} (f g : Nat → α) (to so i : Nat) : (fun b => if b = to + i then g (so + i) else c_cp f g to so i b) = c_cp f g to so (i + 1) := by
  funext j
  unfold c_cp
  by_cases h : j = to + i
  · rw [if_pos h, if_pos (by omega), h, Nat.add_sub_cancel_left, Nat.add_comm]
  · rw [if_neg h]
    by_cases h2 : to ≤ j ∧ j < to + i
    · rw [if_pos h2, if_pos (by omega)]
    · rw [if_neg h2, if_neg (by omega)]
theorem c_cp_out {α : Type} (f g : Nat → α) (to so n j : Nat) (h : ¬ (to ≤ j ∧ j < to + n)) : c_cp f g to so n j = f j := if_neg h
theorem c_cp_in {α : Type} (f g : Nat → α) (to so n j : Nat) (h : j < n) : c_cp f g to so n (to + j) = g (so + j) := by
  unfold c_cp
  rw [if_pos (by omega), Nat.add_sub_cancel_left, Nat.add_comm]
theorem ip_oa (a b : Nat) : Int32.ofNat a + Int32.ofNat b = Int32.ofNat (a + b) := (Int32.ofNat_add a b).symm
theorem ip_om (a b : Nat) : Int32.ofNat a * Int32.ofNat b = Int32.ofNat (a * b) := (Int32.ofNat_mul a b).symm
theorem ip_osb (a b : Nat) (h : b ≤ a) : Int32.ofNat a - Int32.ofNat b = Int32.ofNat (a - b) := by
  have e : Int32.ofNat a = Int32.ofNat (a - b) + Int32.ofNat b := by rw [ip_oa]; congr 1; omega
  rw [e]
  apply Int32.toInt_inj.mp
  have : Int32.ofNat (a - b) + Int32.ofNat b - Int32.ofNat b = Int32.ofNat (a - b) := by grind
  rw [this]

set_option maxHeartbeats 40000000 in
set_option maxRecDepth 100000 in
theorem s_170a (X : ip_X) (M : ip_H) (K : Option Value → ip_H → Prop) (what : Int32) (hG : ip_G M) : ∀ (n i : Nat), i + n = 5747 → ip_wp X 170 13 [.ref 108, .int what, .int (Int32.ofNat (821 + i))] [] (ip_sI M 112 (c_cp (M.2.1 112) (M.2.1 112) (0) (821) i)) K = ip_wp X 170 42 [.ref 108, .int what, .int (Int32.ofNat 6568)] [] (ip_sI M 112 (c_cp (M.2.1 112) (M.2.1 112) (0) (821) 5747)) K := by
  intro n
  induction n with
  | zero =>
    intro i h
    have hi : i = 5747 := by omega
    subst hi
    have hk : (Int32.ofNat (821 + 5747) < 6568) = False := by decide +kernel
    simp (config := { maxSteps := 10000000, maxDischargeDepth := 30, decide := true }) only [w170_13, w170_14, w170_17, ↓ip_ki2, ↓reduceIte, Nat.reduceAdd, Int32.reduceOfNat, Nat.reduceAdd]
  | succ n ih =>
    intro i h
    have hk : (Int32.ofNat (821 + i) < 6568) = True := by rw [show (6568 : Int32) = Int32.ofNat 6568 from rfl, ip_nlt _ _ (by omega) (by decide)]; exact eq_true (by omega)
    have ei : Int32.ofNat (821 + i) + 1 = Int32.ofNat (821 + (i + 1)) := ip_oa (821 + i) 1
    have et : Int32.ofNat (821 + i) - 821 = Int32.ofNat (i) := by rw [show (821 : Int32) = Int32.ofNat 821 from rfl, ip_osb _ _ (by omega)]; congr 1; omega
    have nt : (Int32.ofNat (i) < 0) = False := eq_false (ip_nn _ (by omega))
    have ct : (Int32.ofNat (i)).toNatClampNeg = i := ip_nc _ (by omega)
    have lt : (i < 6568) = True := eq_true (by omega)
    have es : True := trivial
    have ns : (Int32.ofNat (821 + i) < 0) = False := eq_false (ip_nn _ (by omega))
    have cs : (Int32.ofNat (821 + i)).toNatClampNeg = 821 + i := ip_nc _ (by omega)
    have ls : (821 + i < 6568) = True := eq_true (by omega)
    have hrd : (c_cp (M.2.1 112) (M.2.1 112) (0) (821) i) (821 + i) = M.2.1 112 (821 + i) := c_cp_out _ _ _ _ _ _ (by omega)
    have eM : (ip_sI M 112 (c_cp (M.2.1 112) (M.2.1 112) (0) (821) (i + 1))) = ip_uI (ip_sI M 112 (c_cp (M.2.1 112) (M.2.1 112) (0) (821) i)) 112 (i) (M.2.1 112 (821 + i)) := by rw [ip_uI_sI, ← c_cp_s]; simp only [Nat.zero_add]
    have step : ∀ Z : Prop, ip_wp X 170 13 [.ref 108, .int what, .int (Int32.ofNat (821 + (i + 1)))] [] (ip_uI (ip_sI M 112 (c_cp (M.2.1 112) (M.2.1 112) (0) (821) i)) 112 (i) (M.2.1 112 (821 + i))) K = Z → ip_wp X 170 13 [.ref 108, .int what, .int (Int32.ofNat (821 + i))] [] (ip_sI M 112 (c_cp (M.2.1 112) (M.2.1 112) (0) (821) i)) K = Z := by
      intro Z hZ
      simp (config := { maxSteps := 10000000, maxDischargeDepth := 30, decide := true }) only [w170_13, w170_14, w170_17, w170_20, w170_21, w170_24, w170_25, w170_28, w170_29, w170_30, w170_33, w170_34, w170_35, w170_36, ↓ip_ka0, ↓ip_ki2, ip_get_0, ip_get_s, ip_set1, ip_clr_s, ip_cat_i, List.set_cons_zero, List.set_cons_succ, ip_vr_some, ↓reduceIte, Nat.reduceEqDiff, and_self, not_false_eq_true, ip_sI_I, ip_sI_R, ip_sI_sh, ip_ix_eq, hk, ei, et, nt, ct, lt, ns, cs, ls, hrd, gS_108 hG, gS_112 hG, gR_108_6 hG]
      rw [w170_39]
      exact hZ
    exact step _ ((congrArg (fun q => ip_wp X 170 13 [.ref 108, .int what, .int (Int32.ofNat (821 + (i + 1)))] [] q K) eM.symm).trans (ih (i + 1) (by omega)))
theorem s_170a0 (X : ip_X) (M : ip_H) (K : Option Value → ip_H → Prop) (what : Int32) (hG : ip_G M) : ip_wp X 170 13 [.ref 108, .int what, .int (Int32.ofNat 821)] [] M K = ip_wp X 170 42 [.ref 108, .int what, .int (Int32.ofNat 6568)] [] (ip_sI M 112 (c_cp (M.2.1 112) (M.2.1 112) (0) (821) 5747)) K := by
  have h := s_170a X M K what hG 5747 0 rfl
  rw [c_cp_0, ip_sI_id _ _ _ (fun _ => rfl)] at h
  exact h

set_option maxHeartbeats 40000000 in
set_option maxRecDepth 100000 in
theorem s_170b (X : ip_X) (M : ip_H) (K : Option Value → ip_H → Prop) (what : Int32) (hG : ip_G M) : ∀ (n i : Nat), i + n = 63 → ip_wp X 170 45 [.ref 108, .int what, .int (Int32.ofNat (9 + i))] [] (ip_sL M 115 (c_cp (M.2.2.1 115) (M.2.2.1 115) (0) (9) i)) K = ip_wp X 170 72 [.ref 108, .int what, .int (Int32.ofNat 72)] [] (ip_sL M 115 (c_cp (M.2.2.1 115) (M.2.2.1 115) (0) (9) 63)) K := by
  intro n
  induction n with
  | zero =>
    intro i h
    have hi : i = 63 := by omega
    subst hi
    have hk : (Int32.ofNat (9 + 63) < 72) = False := by decide +kernel
    simp (config := { maxSteps := 10000000, maxDischargeDepth := 30, decide := true }) only [w170_45, w170_46, w170_48, w170_51, ↓ip_ki2, ↓reduceIte, Nat.reduceAdd, Int32.reduceOfNat, Nat.reduceAdd]
  | succ n ih =>
    intro i h
    have hk : (Int32.ofNat (9 + i) < 72) = True := by rw [show (72 : Int32) = Int32.ofNat 72 from rfl, ip_nlt _ _ (by omega) (by decide)]; exact eq_true (by omega)
    have ei : Int32.ofNat (9 + i) + 1 = Int32.ofNat (9 + (i + 1)) := ip_oa (9 + i) 1
    have et : Int32.ofNat (9 + i) - 9 = Int32.ofNat (i) := by rw [show (9 : Int32) = Int32.ofNat 9 from rfl, ip_osb _ _ (by omega)]; congr 1; omega
    have nt : (Int32.ofNat (i) < 0) = False := eq_false (ip_nn _ (by omega))
    have ct : (Int32.ofNat (i)).toNatClampNeg = i := ip_nc _ (by omega)
    have lt : (i < 72) = True := eq_true (by omega)
    have es : True := trivial
    have ns : (Int32.ofNat (9 + i) < 0) = False := eq_false (ip_nn _ (by omega))
    have cs : (Int32.ofNat (9 + i)).toNatClampNeg = 9 + i := ip_nc _ (by omega)
    have ls : (9 + i < 72) = True := eq_true (by omega)
    have hrd : (c_cp (M.2.2.1 115) (M.2.2.1 115) (0) (9) i) (9 + i) = M.2.2.1 115 (9 + i) := c_cp_out _ _ _ _ _ _ (by omega)
    have eM : (ip_sL M 115 (c_cp (M.2.2.1 115) (M.2.2.1 115) (0) (9) (i + 1))) = ip_uL (ip_sL M 115 (c_cp (M.2.2.1 115) (M.2.2.1 115) (0) (9) i)) 115 (i) (M.2.2.1 115 (9 + i)) := by rw [ip_uL_sL, ← c_cp_s]; simp only [Nat.zero_add]
    have step : ∀ Z : Prop, ip_wp X 170 45 [.ref 108, .int what, .int (Int32.ofNat (9 + (i + 1)))] [] (ip_uL (ip_sL M 115 (c_cp (M.2.2.1 115) (M.2.2.1 115) (0) (9) i)) 115 (i) (M.2.2.1 115 (9 + i))) K = Z → ip_wp X 170 45 [.ref 108, .int what, .int (Int32.ofNat (9 + i))] [] (ip_sL M 115 (c_cp (M.2.2.1 115) (M.2.2.1 115) (0) (9) i)) K = Z := by
      intro Z hZ
      simp (config := { maxSteps := 10000000, maxDischargeDepth := 30, decide := true }) only [w170_45, w170_46, w170_48, w170_51, w170_52, w170_55, w170_56, w170_58, w170_59, w170_60, w170_63, w170_64, w170_65, w170_66, ↓ip_ka0, ↓ip_ki2, ip_get_0, ip_get_s, ip_set1, ip_clr_s, ip_cat_i, List.set_cons_zero, List.set_cons_succ, ip_vr_some, ↓reduceIte, Nat.reduceEqDiff, and_self, not_false_eq_true, ip_sL_L, ip_sL_R, ip_sL_sh, ip_ix_eq, hk, ei, et, nt, ct, lt, ns, cs, ls, hrd, gS_108 hG, gS_115 hG, gR_108_9 hG]
      rw [w170_69]
      exact hZ
    exact step _ ((congrArg (fun q => ip_wp X 170 45 [.ref 108, .int what, .int (Int32.ofNat (9 + (i + 1)))] [] q K) eM.symm).trans (ih (i + 1) (by omega)))
theorem s_170b0 (X : ip_X) (M : ip_H) (K : Option Value → ip_H → Prop) (what : Int32) (hG : ip_G M) : ip_wp X 170 45 [.ref 108, .int what, .int (Int32.ofNat 9)] [] M K = ip_wp X 170 72 [.ref 108, .int what, .int (Int32.ofNat 72)] [] (ip_sL M 115 (c_cp (M.2.2.1 115) (M.2.2.1 115) (0) (9) 63)) K := by
  have h := s_170b X M K what hG 63 0 rfl
  rw [c_cp_0, ip_sL_id _ _ _ (fun _ => rfl)] at h
  exact h

set_option maxHeartbeats 40000000 in
set_option maxRecDepth 100000 in
theorem s_170c (X : ip_X) (M : ip_H) (K : Option Value → ip_H → Prop) (what : Int32) (hG : ip_G M) : ∀ (n i : Nat), i + n = 7 → ip_wp X 170 74 [.ref 108, .int what, .int (Int32.ofNat (1 + i))] [] (ip_sI M 113 (c_cp (M.2.1 113) (M.2.1 113) (0) (1) i)) K = ip_wp X 170 100 [.ref 108, .int what, .int (Int32.ofNat 8)] [] (ip_sI M 113 (c_cp (M.2.1 113) (M.2.1 113) (0) (1) 7)) K := by
  intro n
  induction n with
  | zero =>
    intro i h
    have hi : i = 7 := by omega
    subst hi
    have hk : (Int32.ofNat (1 + 7) < 8) = False := by decide +kernel
    simp (config := { maxSteps := 10000000, maxDischargeDepth := 30, decide := true }) only [w170_74, w170_75, w170_77, w170_80, ↓ip_ki2, ↓reduceIte, Nat.reduceAdd, Int32.reduceOfNat, Nat.reduceAdd]
  | succ n ih =>
    intro i h
    have hk : (Int32.ofNat (1 + i) < 8) = True := by rw [show (8 : Int32) = Int32.ofNat 8 from rfl, ip_nlt _ _ (by omega) (by decide)]; exact eq_true (by omega)
    have ei : Int32.ofNat (1 + i) + 1 = Int32.ofNat (1 + (i + 1)) := ip_oa (1 + i) 1
    have et : Int32.ofNat (1 + i) - 1 = Int32.ofNat (i) := by rw [show (1 : Int32) = Int32.ofNat 1 from rfl, ip_osb _ _ (by omega)]; congr 1; omega
    have nt : (Int32.ofNat (i) < 0) = False := eq_false (ip_nn _ (by omega))
    have ct : (Int32.ofNat (i)).toNatClampNeg = i := ip_nc _ (by omega)
    have lt : (i < 8) = True := eq_true (by omega)
    have es : True := trivial
    have ns : (Int32.ofNat (1 + i) < 0) = False := eq_false (ip_nn _ (by omega))
    have cs : (Int32.ofNat (1 + i)).toNatClampNeg = 1 + i := ip_nc _ (by omega)
    have ls : (1 + i < 8) = True := eq_true (by omega)
    have hrd : (c_cp (M.2.1 113) (M.2.1 113) (0) (1) i) (1 + i) = M.2.1 113 (1 + i) := c_cp_out _ _ _ _ _ _ (by omega)
    have eM : (ip_sI M 113 (c_cp (M.2.1 113) (M.2.1 113) (0) (1) (i + 1))) = ip_uI (ip_sI M 113 (c_cp (M.2.1 113) (M.2.1 113) (0) (1) i)) 113 (i) (M.2.1 113 (1 + i)) := by rw [ip_uI_sI, ← c_cp_s]; simp only [Nat.zero_add]
    have step : ∀ Z : Prop, ip_wp X 170 74 [.ref 108, .int what, .int (Int32.ofNat (1 + (i + 1)))] [] (ip_uI (ip_sI M 113 (c_cp (M.2.1 113) (M.2.1 113) (0) (1) i)) 113 (i) (M.2.1 113 (1 + i))) K = Z → ip_wp X 170 74 [.ref 108, .int what, .int (Int32.ofNat (1 + i))] [] (ip_sI M 113 (c_cp (M.2.1 113) (M.2.1 113) (0) (1) i)) K = Z := by
      intro Z hZ
      simp (config := { maxSteps := 10000000, maxDischargeDepth := 30, decide := true }) only [w170_74, w170_75, w170_77, w170_80, w170_81, w170_84, w170_85, w170_86, w170_87, w170_88, w170_91, w170_92, w170_93, w170_94, ↓ip_ka0, ↓ip_ki2, ip_get_0, ip_get_s, ip_set1, ip_clr_s, ip_cat_i, List.set_cons_zero, List.set_cons_succ, ip_vr_some, ↓reduceIte, Nat.reduceEqDiff, and_self, not_false_eq_true, ip_sI_I, ip_sI_R, ip_sI_sh, ip_ix_eq, hk, ei, et, nt, ct, lt, ns, cs, ls, hrd, gS_108 hG, gS_113 hG, gR_108_7 hG]
      rw [w170_97]
      exact hZ
    exact step _ ((congrArg (fun q => ip_wp X 170 74 [.ref 108, .int what, .int (Int32.ofNat (1 + (i + 1)))] [] q K) eM.symm).trans (ih (i + 1) (by omega)))
theorem s_170c0 (X : ip_X) (M : ip_H) (K : Option Value → ip_H → Prop) (what : Int32) (hG : ip_G M) : ip_wp X 170 74 [.ref 108, .int what, .int (Int32.ofNat 1)] [] M K = ip_wp X 170 100 [.ref 108, .int what, .int (Int32.ofNat 8)] [] (ip_sI M 113 (c_cp (M.2.1 113) (M.2.1 113) (0) (1) 7)) K := by
  have h := s_170c X M K what hG 7 0 rfl
  rw [c_cp_0, ip_sI_id _ _ _ (fun _ => rfl)] at h
  exact h

set_option maxHeartbeats 40000000 in
set_option maxRecDepth 100000 in
theorem s_170d (X : ip_X) (M : ip_H) (K : Option Value → ip_H → Prop) (what : Int32) (m : Nat) (hm : m ≤ 7) (h12 : M.2.1 108 12 = Int32.ofNat m) (hG : ip_G M) : ∀ (n i : Nat), i + n = 821 → ip_wp X 170 112 [.ref 108, .int what, .int (Int32.ofNat i)] [] (ip_sI M 112 (c_cp (M.2.1 112) (M.2.1 109) (821 * m) (0) i)) K = ip_wp X 170 146 [.ref 108, .int what, .int (Int32.ofNat 821)] [] (ip_sI M 112 (c_cp (M.2.1 112) (M.2.1 109) (821 * m) (0) 821)) K := by
  intro n
  induction n with
  | zero =>
    intro i h
    have hi : i = 821 := by omega
    subst hi
    have hk : (Int32.ofNat 821 < 821) = False := by decide +kernel
    simp (config := { maxSteps := 10000000, maxDischargeDepth := 30, decide := true }) only [w170_112, w170_113, w170_116, ↓ip_ki2, ↓reduceIte, Int32.reduceOfNat]
  | succ n ih =>
    intro i h
    have hk : (Int32.ofNat i < 821) = True := by rw [show (821 : Int32) = Int32.ofNat 821 from rfl, ip_nlt _ _ (by omega) (by decide)]; exact eq_true (by omega)
    have ei : Int32.ofNat i + 1 = Int32.ofNat (i + 1) := ip_oa i 1
    have et : 821 * Int32.ofNat m + Int32.ofNat i = Int32.ofNat (821 * m + i) := by rw [show (821 : Int32) = Int32.ofNat 821 from rfl, ip_om, ip_oa]
    have nt : (Int32.ofNat (821 * m + i) < 0) = False := eq_false (ip_nn _ (by omega))
    have ct : (Int32.ofNat (821 * m + i)).toNatClampNeg = 821 * m + i := ip_nc _ (by omega)
    have lt : (821 * m + i < 6568) = True := eq_true (by omega)
    have es : True := trivial
    have ns : (Int32.ofNat (i) < 0) = False := eq_false (ip_nn _ (by omega))
    have cs : (Int32.ofNat (i)).toNatClampNeg = i := ip_nc _ (by omega)
    have ls : (i < 821) = True := eq_true (by omega)
    have hrd : True := trivial
    have eM : (ip_sI M 112 (c_cp (M.2.1 112) (M.2.1 109) (821 * m) (0) (i + 1))) = ip_uI (ip_sI M 112 (c_cp (M.2.1 112) (M.2.1 109) (821 * m) (0) i)) 112 (821 * m + i) (M.2.1 109 (i)) := by rw [ip_uI_sI, ← c_cp_s]; simp only [Nat.zero_add]
    have step : ∀ Z : Prop, ip_wp X 170 112 [.ref 108, .int what, .int (Int32.ofNat (i + 1))] [] (ip_uI (ip_sI M 112 (c_cp (M.2.1 112) (M.2.1 109) (821 * m) (0) i)) 112 (821 * m + i) (M.2.1 109 (i))) K = Z → ip_wp X 170 112 [.ref 108, .int what, .int (Int32.ofNat i)] [] (ip_sI M 112 (c_cp (M.2.1 112) (M.2.1 109) (821 * m) (0) i)) K = Z := by
      intro Z hZ
      simp (config := { maxSteps := 10000000, maxDischargeDepth := 30, decide := true }) only [w170_112, w170_113, w170_116, w170_119, w170_120, w170_123, w170_126, w170_127, w170_130, w170_131, w170_132, w170_133, w170_134, w170_137, w170_138, w170_139, w170_140, ↓ip_ka0, ↓ip_ki2, ip_get_0, ip_get_s, ip_set1, ip_clr_s, ip_cat_i, List.set_cons_zero, List.set_cons_succ, ip_vr_some, ↓reduceIte, Nat.reduceEqDiff, and_self, not_false_eq_true, ip_sI_I, ip_sI_R, ip_sI_sh, ip_ix_eq, hk, ei, et, nt, ct, lt, ns, cs, ls, gS_108 hG, gS_109 hG, gS_112 hG, gR_108_1 hG, gR_108_6 hG, h12]
      rw [w170_143]
      exact hZ
    exact step _ ((congrArg (fun q => ip_wp X 170 112 [.ref 108, .int what, .int (Int32.ofNat (i + 1))] [] q K) eM.symm).trans (ih (i + 1) (by omega)))
theorem s_170d0 (X : ip_X) (M : ip_H) (K : Option Value → ip_H → Prop) (what : Int32) (m : Nat) (hm : m ≤ 7) (h12 : M.2.1 108 12 = Int32.ofNat m) (hG : ip_G M) : ip_wp X 170 112 [.ref 108, .int what, .int (Int32.ofNat 0)] [] M K = ip_wp X 170 146 [.ref 108, .int what, .int (Int32.ofNat 821)] [] (ip_sI M 112 (c_cp (M.2.1 112) (M.2.1 109) (821 * m) (0) 821)) K := by
  have h := s_170d X M K what m hm h12 hG 821 0 rfl
  rw [c_cp_0, ip_sI_id _ _ _ (fun _ => rfl)] at h
  exact h

set_option maxHeartbeats 40000000 in
set_option maxRecDepth 100000 in
theorem s_170e (X : ip_X) (M : ip_H) (K : Option Value → ip_H → Prop) (what : Int32) (m : Nat) (hm : m ≤ 7) (h12 : M.2.1 108 12 = Int32.ofNat m) (hG : ip_G M) : ∀ (n i : Nat), i + n = 9 → ip_wp X 170 148 [.ref 108, .int what, .int (Int32.ofNat i)] [] (ip_sL M 115 (c_cp (M.2.2.1 115) (M.2.2.1 110) (9 * m) (0) i)) K = ip_wp X 170 180 [.ref 108, .int what, .int (Int32.ofNat 9)] [] (ip_sL M 115 (c_cp (M.2.2.1 115) (M.2.2.1 110) (9 * m) (0) 9)) K := by
  intro n
  induction n with
  | zero =>
    intro i h
    have hi : i = 9 := by omega
    subst hi
    have hk : (Int32.ofNat 9 < 9) = False := by decide +kernel
    simp (config := { maxSteps := 10000000, maxDischargeDepth := 30, decide := true }) only [w170_148, w170_149, w170_151, w170_154, ↓ip_ki2, ↓reduceIte, Int32.reduceOfNat]
  | succ n ih =>
    intro i h
    have hk : (Int32.ofNat i < 9) = True := by rw [show (9 : Int32) = Int32.ofNat 9 from rfl, ip_nlt _ _ (by omega) (by decide)]; exact eq_true (by omega)
    have ei : Int32.ofNat i + 1 = Int32.ofNat (i + 1) := ip_oa i 1
    have et : 9 * Int32.ofNat m + Int32.ofNat i = Int32.ofNat (9 * m + i) := by rw [show (9 : Int32) = Int32.ofNat 9 from rfl, ip_om, ip_oa]
    have nt : (Int32.ofNat (9 * m + i) < 0) = False := eq_false (ip_nn _ (by omega))
    have ct : (Int32.ofNat (9 * m + i)).toNatClampNeg = 9 * m + i := ip_nc _ (by omega)
    have lt : (9 * m + i < 72) = True := eq_true (by omega)
    have es : True := trivial
    have ns : (Int32.ofNat (i) < 0) = False := eq_false (ip_nn _ (by omega))
    have cs : (Int32.ofNat (i)).toNatClampNeg = i := ip_nc _ (by omega)
    have ls : (i < 9) = True := eq_true (by omega)
    have hrd : True := trivial
    have eM : (ip_sL M 115 (c_cp (M.2.2.1 115) (M.2.2.1 110) (9 * m) (0) (i + 1))) = ip_uL (ip_sL M 115 (c_cp (M.2.2.1 115) (M.2.2.1 110) (9 * m) (0) i)) 115 (9 * m + i) (M.2.2.1 110 (i)) := by rw [ip_uL_sL, ← c_cp_s]; simp only [Nat.zero_add]
    have step : ∀ Z : Prop, ip_wp X 170 148 [.ref 108, .int what, .int (Int32.ofNat (i + 1))] [] (ip_uL (ip_sL M 115 (c_cp (M.2.2.1 115) (M.2.2.1 110) (9 * m) (0) i)) 115 (9 * m + i) (M.2.2.1 110 (i))) K = Z → ip_wp X 170 148 [.ref 108, .int what, .int (Int32.ofNat i)] [] (ip_sL M 115 (c_cp (M.2.2.1 115) (M.2.2.1 110) (9 * m) (0) i)) K = Z := by
      intro Z hZ
      simp (config := { maxSteps := 10000000, maxDischargeDepth := 30, decide := true }) only [w170_148, w170_149, w170_151, w170_154, w170_155, w170_158, w170_160, w170_161, w170_164, w170_165, w170_166, w170_167, w170_168, w170_171, w170_172, w170_173, w170_174, ↓ip_ka0, ↓ip_ki2, ip_get_0, ip_get_s, ip_set1, ip_clr_s, ip_cat_i, List.set_cons_zero, List.set_cons_succ, ip_vr_some, ↓reduceIte, Nat.reduceEqDiff, and_self, not_false_eq_true, ip_sL_I, ip_sL_L, ip_sL_R, ip_sL_sh, ip_ix_eq, hk, ei, et, nt, ct, lt, ns, cs, ls, gS_108 hG, gS_110 hG, gS_115 hG, gR_108_2 hG, gR_108_9 hG, h12]
      rw [w170_177]
      exact hZ
    exact step _ ((congrArg (fun q => ip_wp X 170 148 [.ref 108, .int what, .int (Int32.ofNat (i + 1))] [] q K) eM.symm).trans (ih (i + 1) (by omega)))
theorem s_170e0 (X : ip_X) (M : ip_H) (K : Option Value → ip_H → Prop) (what : Int32) (m : Nat) (hm : m ≤ 7) (h12 : M.2.1 108 12 = Int32.ofNat m) (hG : ip_G M) : ip_wp X 170 148 [.ref 108, .int what, .int (Int32.ofNat 0)] [] M K = ip_wp X 170 180 [.ref 108, .int what, .int (Int32.ofNat 9)] [] (ip_sL M 115 (c_cp (M.2.2.1 115) (M.2.2.1 110) (9 * m) (0) 9)) K := by
  have h := s_170e X M K what m hm h12 hG 9 0 rfl
  rw [c_cp_0, ip_sL_id _ _ _ (fun _ => rfl)] at h
  exact h

set_option maxHeartbeats 40000000 in
set_option maxRecDepth 100000 in
theorem s_171a (X : ip_X) (M : ip_H) (K : Option Value → ip_H → Prop) (m : Nat) (hm : m ≤ 7) (h12 : M.2.1 108 12 = Int32.ofNat m) (hG : ip_G M) : ∀ (n i : Nat), i + n = 821 → ip_wp X 171 2 [.ref 108, .int (Int32.ofNat i)] [] (ip_sI M 109 (c_cp (M.2.1 109) (M.2.1 112) (0) (821 * m) i)) K = ip_wp X 171 36 [.ref 108, .int (Int32.ofNat 821)] [] (ip_sI M 109 (c_cp (M.2.1 109) (M.2.1 112) (0) (821 * m) 821)) K := by
  intro n
  induction n with
  | zero =>
    intro i h
    have hi : i = 821 := by omega
    subst hi
    have hk : (Int32.ofNat 821 < 821) = False := by decide +kernel
    simp (config := { maxSteps := 10000000, maxDischargeDepth := 30, decide := true }) only [w171_2, w171_3, w171_6, ↓ip_ki1, ↓reduceIte, Int32.reduceOfNat]
  | succ n ih =>
    intro i h
    have hk : (Int32.ofNat i < 821) = True := by rw [show (821 : Int32) = Int32.ofNat 821 from rfl, ip_nlt _ _ (by omega) (by decide)]; exact eq_true (by omega)
    have ei : Int32.ofNat i + 1 = Int32.ofNat (i + 1) := ip_oa i 1
    have et : True := trivial
    have nt : (Int32.ofNat (i) < 0) = False := eq_false (ip_nn _ (by omega))
    have ct : (Int32.ofNat (i)).toNatClampNeg = i := ip_nc _ (by omega)
    have lt : (i < 821) = True := eq_true (by omega)
    have es : 821 * Int32.ofNat m + Int32.ofNat i = Int32.ofNat (821 * m + i) := by rw [show (821 : Int32) = Int32.ofNat 821 from rfl, ip_om, ip_oa]
    have ns : (Int32.ofNat (821 * m + i) < 0) = False := eq_false (ip_nn _ (by omega))
    have cs : (Int32.ofNat (821 * m + i)).toNatClampNeg = 821 * m + i := ip_nc _ (by omega)
    have ls : (821 * m + i < 6568) = True := eq_true (by omega)
    have hrd : True := trivial
    have eM : (ip_sI M 109 (c_cp (M.2.1 109) (M.2.1 112) (0) (821 * m) (i + 1))) = ip_uI (ip_sI M 109 (c_cp (M.2.1 109) (M.2.1 112) (0) (821 * m) i)) 109 (i) (M.2.1 112 (821 * m + i)) := by rw [ip_uI_sI, ← c_cp_s]; simp only [Nat.zero_add]
    have step : ∀ Z : Prop, ip_wp X 171 2 [.ref 108, .int (Int32.ofNat (i + 1))] [] (ip_uI (ip_sI M 109 (c_cp (M.2.1 109) (M.2.1 112) (0) (821 * m) i)) 109 (i) (M.2.1 112 (821 * m + i))) K = Z → ip_wp X 171 2 [.ref 108, .int (Int32.ofNat i)] [] (ip_sI M 109 (c_cp (M.2.1 109) (M.2.1 112) (0) (821 * m) i)) K = Z := by
      intro Z hZ
      simp (config := { maxSteps := 10000000, maxDischargeDepth := 30, decide := true }) only [w171_2, w171_3, w171_6, w171_9, w171_10, w171_13, w171_14, w171_15, w171_18, w171_21, w171_22, w171_25, w171_26, w171_27, w171_28, w171_29, w171_30, ↓ip_ka0, ↓ip_ki1, ip_get_0, ip_set1, ip_clr_s, ip_cat_r, List.set_cons_zero, List.set_cons_succ, ip_vr_some, ↓reduceIte, Nat.reduceEqDiff, and_self, not_false_eq_true, ip_sI_I, ip_sI_R, ip_sI_sh, ip_ix_eq, hk, ei, nt, ct, lt, es, ns, cs, ls, gS_108 hG, gS_109 hG, gS_112 hG, gR_108_1 hG, gR_108_6 hG, h12]
      rw [w171_33]
      exact hZ
    exact step _ ((congrArg (fun q => ip_wp X 171 2 [.ref 108, .int (Int32.ofNat (i + 1))] [] q K) eM.symm).trans (ih (i + 1) (by omega)))
theorem s_171a0 (X : ip_X) (M : ip_H) (K : Option Value → ip_H → Prop) (m : Nat) (hm : m ≤ 7) (h12 : M.2.1 108 12 = Int32.ofNat m) (hG : ip_G M) : ip_wp X 171 2 [.ref 108, .int (Int32.ofNat 0)] [] M K = ip_wp X 171 36 [.ref 108, .int (Int32.ofNat 821)] [] (ip_sI M 109 (c_cp (M.2.1 109) (M.2.1 112) (0) (821 * m) 821)) K := by
  have h := s_171a X M K m hm h12 hG 821 0 rfl
  rw [c_cp_0, ip_sI_id _ _ _ (fun _ => rfl)] at h
  exact h

set_option maxHeartbeats 40000000 in
set_option maxRecDepth 100000 in
theorem s_171b (X : ip_X) (M : ip_H) (K : Option Value → ip_H → Prop) (m : Nat) (hm : m ≤ 7) (h12 : M.2.1 108 12 = Int32.ofNat m) (hG : ip_G M) : ∀ (n i : Nat), i + n = 9 → ip_wp X 171 38 [.ref 108, .int (Int32.ofNat i)] [] (ip_sL M 110 (c_cp (M.2.2.1 110) (M.2.2.1 115) (0) (9 * m) i)) K = ip_wp X 171 70 [.ref 108, .int (Int32.ofNat 9)] [] (ip_sL M 110 (c_cp (M.2.2.1 110) (M.2.2.1 115) (0) (9 * m) 9)) K := by
  intro n
  induction n with
  | zero =>
    intro i h
    have hi : i = 9 := by omega
    subst hi
    have hk : (Int32.ofNat 9 < 9) = False := by decide +kernel
    simp (config := { maxSteps := 10000000, maxDischargeDepth := 30, decide := true }) only [w171_38, w171_39, w171_41, w171_44, ↓ip_ki1, ↓reduceIte, Int32.reduceOfNat]
  | succ n ih =>
    intro i h
    have hk : (Int32.ofNat i < 9) = True := by rw [show (9 : Int32) = Int32.ofNat 9 from rfl, ip_nlt _ _ (by omega) (by decide)]; exact eq_true (by omega)
    have ei : Int32.ofNat i + 1 = Int32.ofNat (i + 1) := ip_oa i 1
    have et : True := trivial
    have nt : (Int32.ofNat (i) < 0) = False := eq_false (ip_nn _ (by omega))
    have ct : (Int32.ofNat (i)).toNatClampNeg = i := ip_nc _ (by omega)
    have lt : (i < 9) = True := eq_true (by omega)
    have es : 9 * Int32.ofNat m + Int32.ofNat i = Int32.ofNat (9 * m + i) := by rw [show (9 : Int32) = Int32.ofNat 9 from rfl, ip_om, ip_oa]
    have ns : (Int32.ofNat (9 * m + i) < 0) = False := eq_false (ip_nn _ (by omega))
    have cs : (Int32.ofNat (9 * m + i)).toNatClampNeg = 9 * m + i := ip_nc _ (by omega)
    have ls : (9 * m + i < 72) = True := eq_true (by omega)
    have hrd : True := trivial
    have eM : (ip_sL M 110 (c_cp (M.2.2.1 110) (M.2.2.1 115) (0) (9 * m) (i + 1))) = ip_uL (ip_sL M 110 (c_cp (M.2.2.1 110) (M.2.2.1 115) (0) (9 * m) i)) 110 (i) (M.2.2.1 115 (9 * m + i)) := by rw [ip_uL_sL, ← c_cp_s]; simp only [Nat.zero_add]
    have step : ∀ Z : Prop, ip_wp X 171 38 [.ref 108, .int (Int32.ofNat (i + 1))] [] (ip_uL (ip_sL M 110 (c_cp (M.2.2.1 110) (M.2.2.1 115) (0) (9 * m) i)) 110 (i) (M.2.2.1 115 (9 * m + i))) K = Z → ip_wp X 171 38 [.ref 108, .int (Int32.ofNat i)] [] (ip_sL M 110 (c_cp (M.2.2.1 110) (M.2.2.1 115) (0) (9 * m) i)) K = Z := by
      intro Z hZ
      simp (config := { maxSteps := 10000000, maxDischargeDepth := 30, decide := true }) only [w171_38, w171_39, w171_41, w171_44, w171_45, w171_48, w171_49, w171_50, w171_53, w171_55, w171_56, w171_59, w171_60, w171_61, w171_62, w171_63, w171_64, ↓ip_ka0, ↓ip_ki1, ip_get_0, ip_set1, ip_clr_s, ip_cat_r, List.set_cons_zero, List.set_cons_succ, ip_vr_some, ↓reduceIte, Nat.reduceEqDiff, and_self, not_false_eq_true, ip_sL_I, ip_sL_L, ip_sL_R, ip_sL_sh, ip_ix_eq, hk, ei, nt, ct, lt, es, ns, cs, ls, gS_108 hG, gS_110 hG, gS_115 hG, gR_108_2 hG, gR_108_9 hG, h12]
      rw [w171_67]
      exact hZ
    exact step _ ((congrArg (fun q => ip_wp X 171 38 [.ref 108, .int (Int32.ofNat (i + 1))] [] q K) eM.symm).trans (ih (i + 1) (by omega)))
theorem s_171b0 (X : ip_X) (M : ip_H) (K : Option Value → ip_H → Prop) (m : Nat) (hm : m ≤ 7) (h12 : M.2.1 108 12 = Int32.ofNat m) (hG : ip_G M) : ip_wp X 171 38 [.ref 108, .int (Int32.ofNat 0)] [] M K = ip_wp X 171 70 [.ref 108, .int (Int32.ofNat 9)] [] (ip_sL M 110 (c_cp (M.2.2.1 110) (M.2.2.1 115) (0) (9 * m) 9)) K := by
  have h := s_171b X M K m hm h12 hG 9 0 rfl
  rw [c_cp_0, ip_sL_id _ _ _ (fun _ => rfl)] at h
  exact h

set_option maxHeartbeats 40000000 in
set_option maxRecDepth 100000 in
theorem s_174a (X : ip_X) (M : ip_H) (K : Option Value → ip_H → Prop) (m : Nat) (hm : m ≤ 1) (hG : ip_G M) : ∀ (n i : Nat), i + n = 821 → ip_wp X 174 22 [.ref 108, .int (Int32.ofNat m), .int (Int32.ofNat i)] [] (ip_sI M 114 (c_cp (M.2.1 114) (M.2.1 109) (821 * m) (0) i)) K = ip_wp X 174 53 [.ref 108, .int (Int32.ofNat m), .int (Int32.ofNat 821)] [] (ip_sI M 114 (c_cp (M.2.1 114) (M.2.1 109) (821 * m) (0) 821)) K := by
  intro n
  induction n with
  | zero =>
    intro i h
    have hi : i = 821 := by omega
    subst hi
    have hk : (Int32.ofNat 821 < 821) = False := by decide +kernel
    simp (config := { maxSteps := 10000000, maxDischargeDepth := 30, decide := true }) only [w174_22, w174_23, w174_26, ↓ip_ki2, ↓reduceIte, Int32.reduceOfNat]
  | succ n ih =>
    intro i h
    have hk : (Int32.ofNat i < 821) = True := by rw [show (821 : Int32) = Int32.ofNat 821 from rfl, ip_nlt _ _ (by omega) (by decide)]; exact eq_true (by omega)
    have ei : Int32.ofNat i + 1 = Int32.ofNat (i + 1) := ip_oa i 1
    have et : 821 * Int32.ofNat m + Int32.ofNat i = Int32.ofNat (821 * m + i) := by rw [show (821 : Int32) = Int32.ofNat 821 from rfl, ip_om, ip_oa]
    have nt : (Int32.ofNat (821 * m + i) < 0) = False := eq_false (ip_nn _ (by omega))
    have ct : (Int32.ofNat (821 * m + i)).toNatClampNeg = 821 * m + i := ip_nc _ (by omega)
    have lt : (821 * m + i < 1642) = True := eq_true (by omega)
    have es : True := trivial
    have ns : (Int32.ofNat (i) < 0) = False := eq_false (ip_nn _ (by omega))
    have cs : (Int32.ofNat (i)).toNatClampNeg = i := ip_nc _ (by omega)
    have ls : (i < 821) = True := eq_true (by omega)
    have hrd : True := trivial
    have eM : (ip_sI M 114 (c_cp (M.2.1 114) (M.2.1 109) (821 * m) (0) (i + 1))) = ip_uI (ip_sI M 114 (c_cp (M.2.1 114) (M.2.1 109) (821 * m) (0) i)) 114 (821 * m + i) (M.2.1 109 (i)) := by rw [ip_uI_sI, ← c_cp_s]; simp only [Nat.zero_add]
    have step : ∀ Z : Prop, ip_wp X 174 22 [.ref 108, .int (Int32.ofNat m), .int (Int32.ofNat (i + 1))] [] (ip_uI (ip_sI M 114 (c_cp (M.2.1 114) (M.2.1 109) (821 * m) (0) i)) 114 (821 * m + i) (M.2.1 109 (i))) K = Z → ip_wp X 174 22 [.ref 108, .int (Int32.ofNat m), .int (Int32.ofNat i)] [] (ip_sI M 114 (c_cp (M.2.1 114) (M.2.1 109) (821 * m) (0) i)) K = Z := by
      intro Z hZ
      simp (config := { maxSteps := 10000000, maxDischargeDepth := 30, decide := true }) only [w174_22, w174_23, w174_26, w174_29, w174_30, w174_33, w174_36, w174_37, w174_38, w174_39, w174_40, w174_41, w174_44, w174_45, w174_46, w174_47, ↓ip_ka0, ↓ip_ki1, ↓ip_ki2, ip_get_0, ip_get_s, ip_set1, ip_clr_s, ip_cat_i, List.set_cons_zero, List.set_cons_succ, ip_vr_some, ↓reduceIte, Nat.reduceEqDiff, and_self, not_false_eq_true, ip_sI_I, ip_sI_R, ip_sI_sh, ip_ix_eq, hk, ei, et, nt, ct, lt, ns, cs, ls, gS_108 hG, gS_109 hG, gS_114 hG, gR_108_1 hG, gR_108_8 hG]
      rw [w174_50]
      exact hZ
    exact step _ ((congrArg (fun q => ip_wp X 174 22 [.ref 108, .int (Int32.ofNat m), .int (Int32.ofNat (i + 1))] [] q K) eM.symm).trans (ih (i + 1) (by omega)))
theorem s_174a0 (X : ip_X) (M : ip_H) (K : Option Value → ip_H → Prop) (m : Nat) (hm : m ≤ 1) (hG : ip_G M) : ip_wp X 174 22 [.ref 108, .int (Int32.ofNat m), .int (Int32.ofNat 0)] [] M K = ip_wp X 174 53 [.ref 108, .int (Int32.ofNat m), .int (Int32.ofNat 821)] [] (ip_sI M 114 (c_cp (M.2.1 114) (M.2.1 109) (821 * m) (0) 821)) K := by
  have h := s_174a X M K m hm hG 821 0 rfl
  rw [c_cp_0, ip_sI_id _ _ _ (fun _ => rfl)] at h
  exact h

set_option maxHeartbeats 40000000 in
set_option maxRecDepth 100000 in
theorem s_174b (X : ip_X) (M : ip_H) (K : Option Value → ip_H → Prop) (m : Nat) (hm : m ≤ 1) (hG : ip_G M) : ∀ (n i : Nat), i + n = 9 → ip_wp X 174 55 [.ref 108, .int (Int32.ofNat m), .int (Int32.ofNat i)] [] (ip_sL M 116 (c_cp (M.2.2.1 116) (M.2.2.1 110) (9 * m) (0) i)) K = ip_wp X 174 84 [.ref 108, .int (Int32.ofNat m), .int (Int32.ofNat 9)] [] (ip_sL M 116 (c_cp (M.2.2.1 116) (M.2.2.1 110) (9 * m) (0) 9)) K := by
  intro n
  induction n with
  | zero =>
    intro i h
    have hi : i = 9 := by omega
    subst hi
    have hk : (Int32.ofNat 9 < 9) = False := by decide +kernel
    simp (config := { maxSteps := 10000000, maxDischargeDepth := 30, decide := true }) only [w174_55, w174_56, w174_58, w174_61, ↓ip_ki2, ↓reduceIte, Int32.reduceOfNat]
  | succ n ih =>
    intro i h
    have hk : (Int32.ofNat i < 9) = True := by rw [show (9 : Int32) = Int32.ofNat 9 from rfl, ip_nlt _ _ (by omega) (by decide)]; exact eq_true (by omega)
    have ei : Int32.ofNat i + 1 = Int32.ofNat (i + 1) := ip_oa i 1
    have et : 9 * Int32.ofNat m + Int32.ofNat i = Int32.ofNat (9 * m + i) := by rw [show (9 : Int32) = Int32.ofNat 9 from rfl, ip_om, ip_oa]
    have nt : (Int32.ofNat (9 * m + i) < 0) = False := eq_false (ip_nn _ (by omega))
    have ct : (Int32.ofNat (9 * m + i)).toNatClampNeg = 9 * m + i := ip_nc _ (by omega)
    have lt : (9 * m + i < 18) = True := eq_true (by omega)
    have es : True := trivial
    have ns : (Int32.ofNat (i) < 0) = False := eq_false (ip_nn _ (by omega))
    have cs : (Int32.ofNat (i)).toNatClampNeg = i := ip_nc _ (by omega)
    have ls : (i < 9) = True := eq_true (by omega)
    have hrd : True := trivial
    have eM : (ip_sL M 116 (c_cp (M.2.2.1 116) (M.2.2.1 110) (9 * m) (0) (i + 1))) = ip_uL (ip_sL M 116 (c_cp (M.2.2.1 116) (M.2.2.1 110) (9 * m) (0) i)) 116 (9 * m + i) (M.2.2.1 110 (i)) := by rw [ip_uL_sL, ← c_cp_s]; simp only [Nat.zero_add]
    have step : ∀ Z : Prop, ip_wp X 174 55 [.ref 108, .int (Int32.ofNat m), .int (Int32.ofNat (i + 1))] [] (ip_uL (ip_sL M 116 (c_cp (M.2.2.1 116) (M.2.2.1 110) (9 * m) (0) i)) 116 (9 * m + i) (M.2.2.1 110 (i))) K = Z → ip_wp X 174 55 [.ref 108, .int (Int32.ofNat m), .int (Int32.ofNat i)] [] (ip_sL M 116 (c_cp (M.2.2.1 116) (M.2.2.1 110) (9 * m) (0) i)) K = Z := by
      intro Z hZ
      simp (config := { maxSteps := 10000000, maxDischargeDepth := 30, decide := true }) only [w174_55, w174_56, w174_58, w174_61, w174_62, w174_65, w174_67, w174_68, w174_69, w174_70, w174_71, w174_72, w174_75, w174_76, w174_77, w174_78, ↓ip_ka0, ↓ip_ki1, ↓ip_ki2, ip_get_0, ip_get_s, ip_set1, ip_clr_s, ip_cat_i, List.set_cons_zero, List.set_cons_succ, ip_vr_some, ↓reduceIte, Nat.reduceEqDiff, and_self, not_false_eq_true, ip_sL_L, ip_sL_R, ip_sL_sh, ip_ix_eq, hk, ei, et, nt, ct, lt, ns, cs, ls, gS_108 hG, gS_110 hG, gS_116 hG, gR_108_2 hG, gR_108_10 hG]
      rw [w174_81]
      exact hZ
    exact step _ ((congrArg (fun q => ip_wp X 174 55 [.ref 108, .int (Int32.ofNat m), .int (Int32.ofNat (i + 1))] [] q K) eM.symm).trans (ih (i + 1) (by omega)))
theorem s_174b0 (X : ip_X) (M : ip_H) (K : Option Value → ip_H → Prop) (m : Nat) (hm : m ≤ 1) (hG : ip_G M) : ip_wp X 174 55 [.ref 108, .int (Int32.ofNat m), .int (Int32.ofNat 0)] [] M K = ip_wp X 174 84 [.ref 108, .int (Int32.ofNat m), .int (Int32.ofNat 9)] [] (ip_sL M 116 (c_cp (M.2.2.1 116) (M.2.2.1 110) (9 * m) (0) 9)) K := by
  have h := s_174b X M K m hm hG 9 0 rfl
  rw [c_cp_0, ip_sL_id _ _ _ (fun _ => rfl)] at h
  exact h

set_option maxHeartbeats 40000000 in
set_option maxRecDepth 100000 in
theorem s_175a (X : ip_X) (M : ip_H) (K : Option Value → ip_H → Prop) (m : Nat) (hm : m ≤ 1) (hG : ip_G M) : ∀ (n i : Nat), i + n = 821 → ip_wp X 175 38 [.ref 108, .int (Int32.ofNat m), .int (Int32.ofNat i)] [] (ip_sI M 109 (c_cp (M.2.1 109) (M.2.1 114) (0) (821 * m) i)) K = ip_wp X 175 69 [.ref 108, .int (Int32.ofNat m), .int (Int32.ofNat 821)] [] (ip_sI M 109 (c_cp (M.2.1 109) (M.2.1 114) (0) (821 * m) 821)) K := by
  intro n
  induction n with
  | zero =>
    intro i h
    have hi : i = 821 := by omega
    subst hi
    have hk : (Int32.ofNat 821 < 821) = False := by decide +kernel
    simp (config := { maxSteps := 10000000, maxDischargeDepth := 30, decide := true }) only [w175_38, w175_39, w175_42, ↓ip_ki2, ↓reduceIte, Int32.reduceOfNat]
  | succ n ih =>
    intro i h
    have hk : (Int32.ofNat i < 821) = True := by rw [show (821 : Int32) = Int32.ofNat 821 from rfl, ip_nlt _ _ (by omega) (by decide)]; exact eq_true (by omega)
    have ei : Int32.ofNat i + 1 = Int32.ofNat (i + 1) := ip_oa i 1
    have et : True := trivial
    have nt : (Int32.ofNat (i) < 0) = False := eq_false (ip_nn _ (by omega))
    have ct : (Int32.ofNat (i)).toNatClampNeg = i := ip_nc _ (by omega)
    have lt : (i < 821) = True := eq_true (by omega)
    have es : 821 * Int32.ofNat m + Int32.ofNat i = Int32.ofNat (821 * m + i) := by rw [show (821 : Int32) = Int32.ofNat 821 from rfl, ip_om, ip_oa]
    have ns : (Int32.ofNat (821 * m + i) < 0) = False := eq_false (ip_nn _ (by omega))
    have cs : (Int32.ofNat (821 * m + i)).toNatClampNeg = 821 * m + i := ip_nc _ (by omega)
    have ls : (821 * m + i < 1642) = True := eq_true (by omega)
    have hrd : True := trivial
    have eM : (ip_sI M 109 (c_cp (M.2.1 109) (M.2.1 114) (0) (821 * m) (i + 1))) = ip_uI (ip_sI M 109 (c_cp (M.2.1 109) (M.2.1 114) (0) (821 * m) i)) 109 (i) (M.2.1 114 (821 * m + i)) := by rw [ip_uI_sI, ← c_cp_s]; simp only [Nat.zero_add]
    have step : ∀ Z : Prop, ip_wp X 175 38 [.ref 108, .int (Int32.ofNat m), .int (Int32.ofNat (i + 1))] [] (ip_uI (ip_sI M 109 (c_cp (M.2.1 109) (M.2.1 114) (0) (821 * m) i)) 109 (i) (M.2.1 114 (821 * m + i))) K = Z → ip_wp X 175 38 [.ref 108, .int (Int32.ofNat m), .int (Int32.ofNat i)] [] (ip_sI M 109 (c_cp (M.2.1 109) (M.2.1 114) (0) (821 * m) i)) K = Z := by
      intro Z hZ
      simp (config := { maxSteps := 10000000, maxDischargeDepth := 30, decide := true }) only [w175_38, w175_39, w175_42, w175_45, w175_46, w175_49, w175_50, w175_51, w175_54, w175_57, w175_58, w175_59, w175_60, w175_61, w175_62, w175_63, ↓ip_ka0, ↓ip_ki1, ↓ip_ki2, ip_get_0, ip_get_s, ip_set1, ip_clr_s, ip_cat_i, List.set_cons_zero, List.set_cons_succ, ip_vr_some, ↓reduceIte, Nat.reduceEqDiff, and_self, not_false_eq_true, ip_sI_I, ip_sI_R, ip_sI_sh, ip_ix_eq, hk, ei, nt, ct, lt, es, ns, cs, ls, gS_108 hG, gS_109 hG, gS_114 hG, gR_108_1 hG, gR_108_8 hG]
      rw [w175_66]
      exact hZ
    exact step _ ((congrArg (fun q => ip_wp X 175 38 [.ref 108, .int (Int32.ofNat m), .int (Int32.ofNat (i + 1))] [] q K) eM.symm).trans (ih (i + 1) (by omega)))
theorem s_175a0 (X : ip_X) (M : ip_H) (K : Option Value → ip_H → Prop) (m : Nat) (hm : m ≤ 1) (hG : ip_G M) : ip_wp X 175 38 [.ref 108, .int (Int32.ofNat m), .int (Int32.ofNat 0)] [] M K = ip_wp X 175 69 [.ref 108, .int (Int32.ofNat m), .int (Int32.ofNat 821)] [] (ip_sI M 109 (c_cp (M.2.1 109) (M.2.1 114) (0) (821 * m) 821)) K := by
  have h := s_175a X M K m hm hG 821 0 rfl
  rw [c_cp_0, ip_sI_id _ _ _ (fun _ => rfl)] at h
  exact h

set_option maxHeartbeats 40000000 in
set_option maxRecDepth 100000 in
theorem s_175b (X : ip_X) (M : ip_H) (K : Option Value → ip_H → Prop) (m : Nat) (hm : m ≤ 1) (hG : ip_G M) : ∀ (n i : Nat), i + n = 9 → ip_wp X 175 71 [.ref 108, .int (Int32.ofNat m), .int (Int32.ofNat i)] [] (ip_sL M 110 (c_cp (M.2.2.1 110) (M.2.2.1 116) (0) (9 * m) i)) K = ip_wp X 175 100 [.ref 108, .int (Int32.ofNat m), .int (Int32.ofNat 9)] [] (ip_sL M 110 (c_cp (M.2.2.1 110) (M.2.2.1 116) (0) (9 * m) 9)) K := by
  intro n
  induction n with
  | zero =>
    intro i h
    have hi : i = 9 := by omega
    subst hi
    have hk : (Int32.ofNat 9 < 9) = False := by decide +kernel
    simp (config := { maxSteps := 10000000, maxDischargeDepth := 30, decide := true }) only [w175_71, w175_72, w175_74, w175_77, ↓ip_ki2, ↓reduceIte, Int32.reduceOfNat]
  | succ n ih =>
    intro i h
    have hk : (Int32.ofNat i < 9) = True := by rw [show (9 : Int32) = Int32.ofNat 9 from rfl, ip_nlt _ _ (by omega) (by decide)]; exact eq_true (by omega)
    have ei : Int32.ofNat i + 1 = Int32.ofNat (i + 1) := ip_oa i 1
    have et : True := trivial
    have nt : (Int32.ofNat (i) < 0) = False := eq_false (ip_nn _ (by omega))
    have ct : (Int32.ofNat (i)).toNatClampNeg = i := ip_nc _ (by omega)
    have lt : (i < 9) = True := eq_true (by omega)
    have es : 9 * Int32.ofNat m + Int32.ofNat i = Int32.ofNat (9 * m + i) := by rw [show (9 : Int32) = Int32.ofNat 9 from rfl, ip_om, ip_oa]
    have ns : (Int32.ofNat (9 * m + i) < 0) = False := eq_false (ip_nn _ (by omega))
    have cs : (Int32.ofNat (9 * m + i)).toNatClampNeg = 9 * m + i := ip_nc _ (by omega)
    have ls : (9 * m + i < 18) = True := eq_true (by omega)
    have hrd : True := trivial
    have eM : (ip_sL M 110 (c_cp (M.2.2.1 110) (M.2.2.1 116) (0) (9 * m) (i + 1))) = ip_uL (ip_sL M 110 (c_cp (M.2.2.1 110) (M.2.2.1 116) (0) (9 * m) i)) 110 (i) (M.2.2.1 116 (9 * m + i)) := by rw [ip_uL_sL, ← c_cp_s]; simp only [Nat.zero_add]
    have step : ∀ Z : Prop, ip_wp X 175 71 [.ref 108, .int (Int32.ofNat m), .int (Int32.ofNat (i + 1))] [] (ip_uL (ip_sL M 110 (c_cp (M.2.2.1 110) (M.2.2.1 116) (0) (9 * m) i)) 110 (i) (M.2.2.1 116 (9 * m + i))) K = Z → ip_wp X 175 71 [.ref 108, .int (Int32.ofNat m), .int (Int32.ofNat i)] [] (ip_sL M 110 (c_cp (M.2.2.1 110) (M.2.2.1 116) (0) (9 * m) i)) K = Z := by
      intro Z hZ
      simp (config := { maxSteps := 10000000, maxDischargeDepth := 30, decide := true }) only [w175_71, w175_72, w175_74, w175_77, w175_78, w175_81, w175_82, w175_83, w175_86, w175_88, w175_89, w175_90, w175_91, w175_92, w175_93, w175_94, ↓ip_ka0, ↓ip_ki1, ↓ip_ki2, ip_get_0, ip_get_s, ip_set1, ip_clr_s, ip_cat_i, List.set_cons_zero, List.set_cons_succ, ip_vr_some, ↓reduceIte, Nat.reduceEqDiff, and_self, not_false_eq_true, ip_sL_L, ip_sL_R, ip_sL_sh, ip_ix_eq, hk, ei, nt, ct, lt, es, ns, cs, ls, gS_108 hG, gS_110 hG, gS_116 hG, gR_108_2 hG, gR_108_10 hG]
      rw [w175_97]
      exact hZ
    exact step _ ((congrArg (fun q => ip_wp X 175 71 [.ref 108, .int (Int32.ofNat m), .int (Int32.ofNat (i + 1))] [] q K) eM.symm).trans (ih (i + 1) (by omega)))
theorem s_175b0 (X : ip_X) (M : ip_H) (K : Option Value → ip_H → Prop) (m : Nat) (hm : m ≤ 1) (hG : ip_G M) : ip_wp X 175 71 [.ref 108, .int (Int32.ofNat m), .int (Int32.ofNat 0)] [] M K = ip_wp X 175 100 [.ref 108, .int (Int32.ofNat m), .int (Int32.ofNat 9)] [] (ip_sL M 110 (c_cp (M.2.2.1 110) (M.2.2.1 116) (0) (9 * m) 9)) K := by
  have h := s_175b X M K m hm hG 9 0 rfl
  rw [c_cp_0, ip_sL_id _ _ _ (fun _ => rfl)] at h
  exact h

def c_kp (M : ip_H) (what : Int32) (m : Nat) : ip_H := ip_uI (ip_uI (ip_sL (ip_sI M 112 (c_cp (M.2.1 112) (M.2.1 109) (821 * m) 0 821)) 115 (c_cp (M.2.2.1 115) (M.2.2.1 110) (9 * m) 0 9)) 113 m what) 108 12 (Int32.ofNat (m + 1))
/-- the kept rows moved down by one -/
def c_dn (M : ip_H) : ip_H := ip_uI (ip_sI (ip_sL (ip_sI M 112 (c_cp (M.2.1 112) (M.2.1 112) 0 821 5747)) 115 (c_cp (M.2.2.1 115) (M.2.2.1 115) 0 9 63)) 113 (c_cp (M.2.1 113) (M.2.1 113) 0 1 7)) 108 12 (Int32.ofNat 7)
set_option maxHeartbeats 40000000 in
set_option maxRecDepth 100000 in
theorem s_170t (X : ip_X) (M : ip_H) (K : Option Value → ip_H → Prop) (what : Int32) (m : Nat) (hm : m ≤ 7) (h12 : M.2.1 108 12 = Int32.ofNat m) (w : Value) (hG : ip_G M) : ip_wp X 170 110 [.ref 108, .int what, w] [] M K = K none (c_kp M what m) := by
  simp (config := { maxSteps := 10000000, maxDischargeDepth := 30, decide := true }) only [w170_110, w170_111, ip_get_0, ip_get_s, ip_set1, ip_clr_s, ip_cat_i, List.set_cons_zero, List.set_cons_succ, ↓reduceIte, Nat.reduceEqDiff]
  refine (s_170d0 X M K what m hm h12 hG).trans ?_
  simp (config := { maxSteps := 10000000, maxDischargeDepth := 30, decide := true }) only [w170_146, w170_147, ip_get_0, ip_get_s, ip_set1, ip_clr_s, ip_cat_i, List.set_cons_zero, List.set_cons_succ, ↓reduceIte, Nat.reduceEqDiff, Int32.reduceOfNat]
  refine (s_170e0 X (ip_sI M 112 (c_cp (M.2.1 112) (M.2.1 109) (821 * m) 0 821)) K what m hm h12 hG).trans ?_
  have nm : (Int32.ofNat m < 0) = False := eq_false (ip_nn _ (by omega))
  have cm : (Int32.ofNat m).toNatClampNeg = m := ip_nc _ (by omega)
  have lm : (m < 8) = True := eq_true (by omega)
  have ei : Int32.ofNat m + 1 = Int32.ofNat (m + 1) := ip_oa m 1
  unfold c_kp
  simp (config := { maxSteps := 10000000, maxDischargeDepth := 30, decide := true }) only [w170_180, w170_181, w170_184, w170_185, w170_188, w170_189, w170_190, w170_191_r, w170_191_i, w170_192, w170_195, w170_196, w170_197, w170_200, ↓ip_ka0, ↓ip_ki1, ip_uI_I, ip_uI_sh, ip_vr_some, ↓reduceIte, false_and, and_self, not_false_eq_true, ip_sI_I, ip_sI_L, ip_sI_R, ip_sI_sh, ip_sL_I, ip_sL_R, ip_sL_sh, ip_ix_eq, Int32.reduceOfNat, h12, nm, cm, lm, ei, gS_108 hG, gS_113 hG, gR_108_7 hG]

set_option maxHeartbeats 40000000 in
set_option maxRecDepth 100000 in
theorem s_170 (X : ip_X) (M : ip_H) (K : Option Value → ip_H → Prop) (what : Int32) (m : Nat) (hm : m ≤ 7) (h12 : M.2.1 108 12 = Int32.ofNat m) (hG : ip_G M) : ip_wp X 170 0 [.ref 108, .int what, .retAddr 1] [] M K = K none (c_kp M what m) := by
  have hne : (Int32.ofNat m = 8) = False := by rw [show (8 : Int32) = Int32.ofNat 8 from rfl, ip_neq _ _ (by omega) (by decide)]; exact eq_false (by omega)
  simp (config := { maxSteps := 10000000, maxDischargeDepth := 30, decide := true }) only [w170_0, w170_1, w170_4, w170_6, ↓ip_ka0, ↓reduceIte, h12, hne, gS_108 hG]
  exact s_170t X M K what m hm h12 (.retAddr 1) hG

set_option maxHeartbeats 40000000 in
set_option maxRecDepth 100000 in
theorem s_170x (X : ip_X) (M : ip_H) (K : Option Value → ip_H → Prop) (what : Int32) (h12 : M.2.1 108 12 = Int32.ofNat 8) (hG : ip_G M) : ip_wp X 170 0 [.ref 108, .int what, .retAddr 1] [] M K = K none (c_kp (c_dn M) what 7) := by
  have he : (Int32.ofNat 8 = 8) = True := eq_true rfl
  have e7 : Int32.ofNat 8 - 1 = Int32.ofNat 7 := by decide +kernel
  simp (config := { maxSteps := 10000000, maxDischargeDepth := 30, decide := true }) only [w170_0, w170_1, w170_4, w170_6, w170_9, w170_12, ↓ip_ka0, ip_get_0, ip_get_s, ip_set1, ip_clr_s, ip_cat_i, List.set_cons_zero, List.set_cons_succ, ↓reduceIte, Nat.reduceEqDiff, Int32.reduceOfNat, h12, he, gS_108 hG]
  refine (s_170a0 X M K what hG).trans ?_
  simp (config := { maxSteps := 10000000, maxDischargeDepth := 30, decide := true }) only [w170_42, w170_44, ip_get_0, ip_get_s, ip_set1, ip_clr_s, ip_cat_i, List.set_cons_zero, List.set_cons_succ, ↓reduceIte, Nat.reduceEqDiff, Int32.reduceOfNat]
  refine (s_170b0 X (ip_sI M 112 (c_cp (M.2.1 112) (M.2.1 112) 0 821 5747)) K what hG).trans ?_
  simp (config := { maxSteps := 10000000, maxDischargeDepth := 30, decide := true }) only [w170_72, w170_73, ip_get_0, ip_get_s, ip_set1, ip_clr_s, ip_cat_i, List.set_cons_zero, List.set_cons_succ, ↓reduceIte, Nat.reduceEqDiff, ip_sI_L, Int32.reduceOfNat]
  refine (s_170c0 X (ip_sL (ip_sI M 112 (c_cp (M.2.1 112) (M.2.1 112) 0 821 5747)) 115 (c_cp (M.2.2.1 115) (M.2.2.1 115) 0 9 63)) K what hG).trans ?_
  simp (config := { maxSteps := 10000000, maxDischargeDepth := 30, decide := true }) only [w170_100, w170_101_r, w170_102, w170_105, w170_106, w170_107, ↓ip_ka0, ↓reduceIte, ip_sI_I, ip_sI_sh, ip_sL_I, ip_sL_sh, Int32.reduceSub, Int32.reduceOfNat, h12, e7, gS_108 hG]
  exact s_170t X (c_dn M) K what 7 (by decide) rfl _ hG
end
noncomputable section
-- PART 64.small
-- SMALL METHODS of the reference
theorem ip_nn1 : (- -1 : Int32) = 1 := by decide +kernel
theorem ip_nn2 : (- -2 : Int32) = 2 := by decide +kernel
theorem ip_nn3 : (- -3 : Int32) = 3 := by decide +kernel
theorem ip_nn4 : (- -4 : Int32) = 4 := by decide +kernel
theorem ip_nn5 : (- -5 : Int32) = 5 := by decide +kernel
theorem ip_nn6 : (- -6 : Int32) = 6 := by decide +kernel
theorem ip_b_ft (c : Bool) : (c = false ∨ c = true) = True := by cases c <;> simp
def l_sm (v : Int64) : Bool := !decide (v < -150) && !decide (150 < v)
def i_in (v lo hi : Int32) : Bool := !decide (v < lo) && !decide (hi < v)
def c_no (M : ip_H) (n : Nat) (c : Int32) : ip_H := ip_uI (ip_uI M 108 4 c) 111 n (M.2.1 111 n + 1)
def c_ye (M : ip_H) : ip_H := ip_uI M 108 4 0
theorem z_l2i (a : Int) : (Int64.ofInt a).toInt32 = Int32.ofInt a := Int64.toInt32_ofInt
theorem l_sm_z {a : Int} (h : zb 9223372036854775807 a) : (l_sm (Int64.ofInt a) = true) = zb 150 a := by
  have e1 := z_lt (b := -150) h ⟨by decide, by decide⟩
  have e2 := z_lt (a := 150) ⟨by decide, by decide⟩ h
  have f1 : (-150 : Int64) = Int64.ofInt (-150) := rfl
  have f2 : (150 : Int64) = Int64.ofInt 150 := rfl
  apply propext
  unfold l_sm zb
  rw [Bool.and_eq_true, Bool.not_eq_true', Bool.not_eq_true', decide_eq_false_iff_not, decide_eq_false_iff_not, f1, f2, e1, e2]
  omega
theorem l_sm_w {x : Int32} : (l_sm (Int64.ofInt x.toInt) = true) = zb 150 x.toInt := by
  have h1 := Int32.le_toInt x
  have h2 := Int32.toInt_lt x
  exact l_sm_z ⟨by omega, by omega⟩
theorem i_in_z {v lo hi : Int32} : (i_in v lo hi = true) = (lo.toInt ≤ v.toInt ∧ v.toInt ≤ hi.toInt) := by
  apply propext
  unfold i_in
  rw [Bool.and_eq_true, Bool.not_eq_true', Bool.not_eq_true', decide_eq_false_iff_not, decide_eq_false_iff_not, Int32.lt_iff_toInt_lt, Int32.lt_iff_toInt_lt]
  omega
def c_clf (N : Nat → Int32) (p q r : Int32) : Nat → Int32 := fun j => if j = 0 then p else if j = 1 then q else if j = 2 then r else if j = 3 then 0 else if j = 5 then 0 else if j = 6 then -1 else if j = 7 then 0 else if 9 ≤ j ∧ j < 33 then (if j % 4 = 0 then 1 else 0) else N j
def c_cl (M : ip_H) (p q r : Int32) : ip_H := ip_sI M 109 (c_clf (M.2.1 109) p q r)
/-- all is kept, the oldest given up where there are 8 -/
def c_ks (M : ip_H) (what : Int32) : ip_H := if M.2.1 108 12 = 8 then c_kp (c_dn M) what 7 else c_kp M what (M.2.1 108 12).toNatClampNeg
theorem c_ks_ne (M : ip_H) (what : Int32) (P : ip_H → Prop) (h1 : P (c_kp (c_dn M) what 7)) (h2 : P (c_kp M what (M.2.1 108 12).toNatClampNeg)) : P (c_ks M what) := by
  unfold c_ks
  split
  · exact h1
  · exact h2
theorem c_ks_1 (M : ip_H) (w : Int32) : (c_ks M w).1 = M.1 := c_ks_ne M w (fun q => q.1 = M.1) rfl rfl
theorem c_ks_R (M : ip_H) (w : Int32) : (c_ks M w).2.2.2 = M.2.2.2 := c_ks_ne M w (fun q => q.2.2.2 = M.2.2.2) rfl rfl
theorem c_ks_sh (M : ip_H) (w : Int32) (k : Nat) : ip_sh (c_ks M w) k = ip_sh M k := by unfold ip_sh; rw [c_ks_1]
theorem gG_ks (M : ip_H) (w : Int32) (h : ip_G M) : ip_G (c_ks M w) := c_ks_ne M w ip_G h h
/-- 0 .. 8 -/
def m8 (x : Int32) : Bool := decide (0 ≤ x.toInt) && decide (x.toInt ≤ 8)
theorem c_ks_I (M : ip_H) (w : Int32) (a b : Nat) (h1 : ¬ a = 112) (h2 : ¬ a = 113) (h3 : ¬ (a = 108 ∧ b = 12)) : (c_ks M w).2.1 a b = M.2.1 a b := by
  refine c_ks_ne M w (fun q => q.2.1 a b = M.2.1 a b) ?_ ?_
  · unfold c_kp c_dn
    simp only [ip_uI_I, ip_sI_I, ip_sL_I, h1, h2, h3, ↓reduceIte, false_and]
  · unfold c_kp
    simp only [ip_uI_I, ip_sI_I, ip_sL_I, h1, h2, h3, ↓reduceIte, false_and]
theorem c_ks_L (M : ip_H) (w : Int32) (a b : Nat) (h1 : ¬ a = 115) : (c_ks M w).2.2.1 a b = M.2.2.1 a b := by
  refine c_ks_ne M w (fun q => q.2.2.1 a b = M.2.2.1 a b) ?_ ?_
  · unfold c_kp c_dn
    simp only [ip_uI_L, ip_sI_L, ip_sL_L, h1, ↓reduceIte]
  · unfold c_kp
    simp only [ip_uI_L, ip_sI_L, ip_sL_L, h1, ↓reduceIte]
/-- a value laid into the store -/
def c_ly (N : ip_H) (i : Nat) (a b c d : Int32) : ip_H := ip_uI (ip_uI (ip_uI (ip_uI (ip_uI N 109 (9 + 4 * i) a) 109 (9 + 4 * i + 1) b) 109 (9 + 4 * i + 2) c) 109 (9 + 4 * i + 3) d) 108 4 0
theorem i6 {x : Int32} (h : i_in x 0 5 = true) : ∃ i : Nat, i < 6 ∧ x = Int32.ofNat i := by
  rw [i_in_z] at h
  have e0 : (0 : Int32).toInt = 0 := rfl
  have e5 : (5 : Int32).toInt = 5 := rfl
  have hx := ip_nat x (by omega)
  refine ⟨x.toNatClampNeg, ?_, hx⟩
  have e : x.toNatClampNeg = x.toInt.toNat := rfl
  omega

set_option maxHeartbeats 40000000 in
set_option maxRecDepth 100000 in
theorem s_166 (X : ip_X) (M : ip_H) (K : Option Value → ip_H → Prop) (v lo hi : Int32) : ip_wp X 166 0 [.int v, .int lo, .int hi] [] M K = K (some (.int (ip_b (i_in v lo hi)))) M := by
  unfold i_in
  by_cases h1 : v < lo
  · simp (config := { maxSteps := 10000000, maxDischargeDepth := 30, decide := true }) only [w166_0, w166_1, w166_2, w166_5, w166_6, w166_7, w166_10, w166_11, w166_14, w166_15, ↓ip_ki0, ↓ip_ki1, ↓reduceIte, or_false, ip_b_f, h1, decide_true, Bool.not_true, Bool.false_and]
  · by_cases h2 : hi < v
    · simp (config := { maxSteps := 10000000, maxDischargeDepth := 30, decide := true }) only [w166_0, w166_1, w166_2, w166_5, w166_6, w166_7, w166_10, w166_11, w166_14, w166_15, ↓ip_ki0, ↓ip_ki1, ↓ip_ki2, ↓reduceIte, or_false, ip_b_f, h1, h2, decide_true, decide_false, Bool.not_true, Bool.not_false, Bool.and_false]
    · simp (config := { maxSteps := 10000000, maxDischargeDepth := 30, decide := true }) only [w166_0, w166_1, w166_2, w166_5, w166_6, w166_7, w166_10, w166_11, w166_14, w166_15, ↓ip_ki0, ↓ip_ki1, ↓ip_ki2, ↓reduceIte, or_true, ip_b_t, h1, h2, decide_false, Bool.not_false, Bool.and_true]

set_option maxHeartbeats 40000000 in
set_option maxRecDepth 100000 in
theorem s_167_1 (X : ip_X) (M : ip_H) (K : Option Value → ip_H → Prop) (hG : ip_G M) : ip_wp X 167 0 [.ref 108, .int (-1)] [] M K = K (some (.int (-1))) (c_no M 1 (-1)) := by
  unfold c_no
  simp (config := { maxSteps := 10000000, maxDischargeDepth := 30, decide := true }) only [w167_0, w167_1, w167_2, w167_5, w167_6, w167_9, w167_10, w167_11, w167_12, w167_13, w167_14, w167_15, w167_16, w167_17, ↓ip_ka0, ↓ip_ki1, ip_uI_I, ip_uI_R, ip_uI_sh, ip_vr_some, ↓reduceIte, Int32.reduceToNatClampNeg, ip_ix_eq, gS_108 hG, gS_111 hG, gR_108_5 hG, ip_nn1]

set_option maxHeartbeats 40000000 in
set_option maxRecDepth 100000 in
theorem s_167_2 (X : ip_X) (M : ip_H) (K : Option Value → ip_H → Prop) (hG : ip_G M) : ip_wp X 167 0 [.ref 108, .int (-2)] [] M K = K (some (.int (-2))) (c_no M 2 (-2)) := by
  unfold c_no
  simp (config := { maxSteps := 10000000, maxDischargeDepth := 30, decide := true }) only [w167_0, w167_1, w167_2, w167_5, w167_6, w167_9, w167_10, w167_11, w167_12, w167_13, w167_14, w167_15, w167_16, w167_17, ↓ip_ka0, ↓ip_ki1, ip_uI_I, ip_uI_R, ip_uI_sh, ip_vr_some, ↓reduceIte, Int32.reduceToNatClampNeg, ip_ix_eq, gS_108 hG, gS_111 hG, gR_108_5 hG, ip_nn2]

set_option maxHeartbeats 40000000 in
set_option maxRecDepth 100000 in
theorem s_167_3 (X : ip_X) (M : ip_H) (K : Option Value → ip_H → Prop) (hG : ip_G M) : ip_wp X 167 0 [.ref 108, .int (-3)] [] M K = K (some (.int (-3))) (c_no M 3 (-3)) := by
  unfold c_no
  simp (config := { maxSteps := 10000000, maxDischargeDepth := 30, decide := true }) only [w167_0, w167_1, w167_2, w167_5, w167_6, w167_9, w167_10, w167_11, w167_12, w167_13, w167_14, w167_15, w167_16, w167_17, ↓ip_ka0, ↓ip_ki1, ip_uI_I, ip_uI_R, ip_uI_sh, ip_vr_some, ↓reduceIte, Int32.reduceToNatClampNeg, ip_ix_eq, gS_108 hG, gS_111 hG, gR_108_5 hG, ip_nn3]

set_option maxHeartbeats 40000000 in
set_option maxRecDepth 100000 in
theorem s_167_4 (X : ip_X) (M : ip_H) (K : Option Value → ip_H → Prop) (hG : ip_G M) : ip_wp X 167 0 [.ref 108, .int (-4)] [] M K = K (some (.int (-4))) (c_no M 4 (-4)) := by
  unfold c_no
  simp (config := { maxSteps := 10000000, maxDischargeDepth := 30, decide := true }) only [w167_0, w167_1, w167_2, w167_5, w167_6, w167_9, w167_10, w167_11, w167_12, w167_13, w167_14, w167_15, w167_16, w167_17, ↓ip_ka0, ↓ip_ki1, ip_uI_I, ip_uI_R, ip_uI_sh, ip_vr_some, ↓reduceIte, Int32.reduceToNatClampNeg, ip_ix_eq, gS_108 hG, gS_111 hG, gR_108_5 hG, ip_nn4]

set_option maxHeartbeats 40000000 in
set_option maxRecDepth 100000 in
theorem s_167_5 (X : ip_X) (M : ip_H) (K : Option Value → ip_H → Prop) (hG : ip_G M) : ip_wp X 167 0 [.ref 108, .int (-5)] [] M K = K (some (.int (-5))) (c_no M 5 (-5)) := by
  unfold c_no
  simp (config := { maxSteps := 10000000, maxDischargeDepth := 30, decide := true }) only [w167_0, w167_1, w167_2, w167_5, w167_6, w167_9, w167_10, w167_11, w167_12, w167_13, w167_14, w167_15, w167_16, w167_17, ↓ip_ka0, ↓ip_ki1, ip_uI_I, ip_uI_R, ip_uI_sh, ip_vr_some, ↓reduceIte, Int32.reduceToNatClampNeg, ip_ix_eq, gS_108 hG, gS_111 hG, gR_108_5 hG, ip_nn5]

set_option maxHeartbeats 40000000 in
set_option maxRecDepth 100000 in
theorem s_167_6 (X : ip_X) (M : ip_H) (K : Option Value → ip_H → Prop) (hG : ip_G M) : ip_wp X 167 0 [.ref 108, .int (-6)] [] M K = K (some (.int (-6))) (c_no M 6 (-6)) := by
  unfold c_no
  simp (config := { maxSteps := 10000000, maxDischargeDepth := 30, decide := true }) only [w167_0, w167_1, w167_2, w167_5, w167_6, w167_9, w167_10, w167_11, w167_12, w167_13, w167_14, w167_15, w167_16, w167_17, ↓ip_ka0, ↓ip_ki1, ip_uI_I, ip_uI_R, ip_uI_sh, ip_vr_some, ↓reduceIte, Int32.reduceToNatClampNeg, ip_ix_eq, gS_108 hG, gS_111 hG, gR_108_5 hG, ip_nn6]

set_option maxHeartbeats 40000000 in
set_option maxRecDepth 100000 in
theorem s_168 (X : ip_X) (M : ip_H) (K : Option Value → ip_H → Prop) (v : Int32) (hG : ip_G M) : ip_wp X 168 0 [.ref 108, .int v] [] M K = K (some (.int v)) (c_ye M) := by
  unfold c_ye
  simp (config := { maxSteps := 10000000, maxDischargeDepth := 30, decide := true }) only [w168_0, w168_1, w168_2, w168_5, w168_6, ↓ip_ka0, ↓ip_ki1, gS_108 hG]

set_option maxHeartbeats 40000000 in
set_option maxRecDepth 100000 in
theorem s_196 (X : ip_X) (M : ip_H) (K : Option Value → ip_H → Prop) (v : Int32) : ip_wp X 196 0 [.int v] [] M K = K (some (.int (ip_b (i_in v 0 5)))) M := by
  simp (config := { maxSteps := 10000000, maxDischargeDepth := 30, decide := true }) only [w196_0, w196_1, w196_2, w196_3, w196_6, ↓ip_ki0, Option.toList_some, List.nil_append, List.cons_append, List.length_nil, Nat.zero_le, ip_b_0, ip_b_1, s_166, ip_b_ft]

set_option maxHeartbeats 40000000 in
set_option maxRecDepth 100000 in
theorem s_189 (X : ip_X) (M : ip_H) (K : Option Value → ip_H → Prop) (v : Int64) : ip_wp X 189 0 [.long v, .retAddr 1] [] M K = K (some (.int (ip_b (l_sm v)))) M := by
  unfold l_sm
  by_cases h1 : v < -150
  · simp (config := { maxSteps := 10000000, maxDischargeDepth := 30, decide := true }) only [w189_0, w189_1, w189_4, w189_5, w189_8, w189_9, w189_12, w189_13, w189_16, w189_17, w189_20, w189_21, ↓ip_kl0, ↓reduceIte, or_false, ip_b_f, ip_cmp_lt, h1, decide_true, Bool.not_true, Bool.false_and]
  · by_cases h2 : 150 < v
    · simp (config := { maxSteps := 10000000, maxDischargeDepth := 30, decide := true }) only [w189_0, w189_1, w189_4, w189_5, w189_8, w189_9, w189_12, w189_13, w189_16, w189_17, w189_20, w189_21, ↓ip_kl0, ↓reduceIte, or_false, ip_b_f, ip_cmp_lt, ip_cmp_gt, h1, h2, decide_true, decide_false, Bool.not_true, Bool.not_false, Bool.and_false]
    · simp (config := { maxSteps := 10000000, maxDischargeDepth := 30, decide := true }) only [w189_0, w189_1, w189_4, w189_5, w189_8, w189_9, w189_12, w189_13, w189_16, w189_17, w189_20, w189_21, ↓ip_kl0, ↓reduceIte, or_true, ip_b_t, ip_cmp_lt, ip_cmp_gt, h1, h2, decide_false, Bool.not_false, Bool.and_true]

set_option maxHeartbeats 40000000 in
set_option maxRecDepth 100000 in
theorem s_190 (X : ip_X) (M : ip_H) (K : Option Value → ip_H → Prop) (hG : ip_G M) : ip_wp X 190 0 [.ref 108] [] M K = K (some (.int (ip_b (l_sm (M.2.2.1 108 13) && (l_sm (M.2.2.1 108 14) && (l_sm (M.2.2.1 108 15) && !decide (150 < M.2.2.1 108 16))))))) M := by
  cases h1 : l_sm (M.2.2.1 108 13)
  · simp (config := { maxSteps := 10000000, maxDischargeDepth := 30, decide := true }) only [w190_0, w190_1, w190_4, w190_7, w190_10, w190_11, w190_14, w190_17, w190_20, w190_21, w190_24, w190_27, w190_30, w190_31, w190_34, w190_37, w190_38, w190_41, w190_42, w190_45, w190_46, ↓ip_ka0, Option.toList_some, List.nil_append, List.cons_append, List.length_nil, ↓reduceIte, Nat.zero_le, or_false, ip_b_f, gS_108 hG, s_189, h1, Bool.false_and]
  cases h2 : l_sm (M.2.2.1 108 14)
  · simp (config := { maxSteps := 10000000, maxDischargeDepth := 30, decide := true }) only [w190_0, w190_1, w190_4, w190_7, w190_10, w190_11, w190_14, w190_17, w190_20, w190_21, w190_24, w190_27, w190_30, w190_31, w190_34, w190_37, w190_38, w190_41, w190_42, w190_45, w190_46, ↓ip_ka0, Option.toList_some, List.nil_append, List.cons_append, List.length_nil, ↓reduceIte, Nat.zero_le, or_false, ip_b_t, ip_b_f, gS_108 hG, s_189, h1, h2, Bool.and_false, Bool.false_and]
  cases h3 : l_sm (M.2.2.1 108 15)
  · simp (config := { maxSteps := 10000000, maxDischargeDepth := 30, decide := true }) only [w190_0, w190_1, w190_4, w190_7, w190_10, w190_11, w190_14, w190_17, w190_20, w190_21, w190_24, w190_27, w190_30, w190_31, w190_34, w190_37, w190_38, w190_41, w190_42, w190_45, w190_46, ↓ip_ka0, Option.toList_some, List.nil_append, List.cons_append, List.length_nil, ↓reduceIte, Nat.zero_le, or_false, ip_b_t, ip_b_f, gS_108 hG, s_189, h1, h2, h3, Bool.and_false, Bool.false_and]
  by_cases h4 : 150 < M.2.2.1 108 16
  · simp (config := { maxSteps := 10000000, maxDischargeDepth := 30, decide := true }) only [w190_0, w190_1, w190_4, w190_7, w190_10, w190_11, w190_14, w190_17, w190_20, w190_21, w190_24, w190_27, w190_30, w190_31, w190_34, w190_37, w190_38, w190_41, w190_42, w190_45, w190_46, ↓ip_ka0, Option.toList_some, List.nil_append, List.cons_append, List.length_nil, ↓reduceIte, Nat.zero_le, or_false, ip_b_t, ip_b_f, ip_cmp_gt, gS_108 hG, s_189, h1, h2, h3, h4, decide_true, Bool.not_true, Bool.and_false]
  · simp (config := { maxSteps := 10000000, maxDischargeDepth := 30, decide := true }) only [w190_0, w190_1, w190_4, w190_7, w190_10, w190_11, w190_14, w190_17, w190_20, w190_21, w190_24, w190_27, w190_30, w190_31, w190_34, w190_37, w190_38, w190_41, w190_42, w190_45, w190_46, ↓ip_ka0, Option.toList_some, List.nil_append, List.cons_append, List.length_nil, ↓reduceIte, Nat.zero_le, or_true, ip_b_t, ip_cmp_gt, gS_108 hG, s_189, h1, h2, h3, h4, decide_false, Bool.not_false, Bool.and_true]

set_option maxHeartbeats 40000000 in
set_option maxRecDepth 100000 in
theorem s_197_0 (X : ip_X) (M : ip_H) (K : Option Value → ip_H → Prop) (i : Nat) (hi : i < 6) (hG : ip_G M) : ip_wp X 197 0 [.ref 108, .int (Int32.ofNat i), .int 0] [] M K = K (some (.int (M.2.1 109 (9 + 4 * i + 0)))) M := by
  have e : 9 + 4 * Int32.ofNat i + 0 = Int32.ofNat (9 + 4 * i + 0) := by rw [show (9 : Int32) = Int32.ofNat 9 from rfl, show (4 : Int32) = Int32.ofNat 4 from rfl, show (0 : Int32) = Int32.ofNat 0 from rfl, ip_om, ip_oa, ip_oa]
  have n := eq_false (ip_nn (9 + 4 * i + 0) (by omega))
  have c := ip_nc (9 + 4 * i + 0) (by omega)
  have l : (9 + 4 * i + 0 < 821) = True := eq_true (by omega)
  simp (config := { maxSteps := 10000000, maxDischargeDepth := 30, decide := true }) only [w197_0, w197_1, w197_4, w197_6, w197_7, w197_8, w197_9, w197_10, w197_11, w197_12, w197_13, ↓ip_ka0, ↓ip_ki1, ↓ip_ki2, ip_vr_some, and_self, not_false_eq_true, ip_ix_eq, gS_108 hG, gS_109 hG, gR_108_1 hG, e, n, c, l]

set_option maxHeartbeats 40000000 in
set_option maxRecDepth 100000 in
theorem s_197_1 (X : ip_X) (M : ip_H) (K : Option Value → ip_H → Prop) (i : Nat) (hi : i < 6) (hG : ip_G M) : ip_wp X 197 0 [.ref 108, .int (Int32.ofNat i), .int 1] [] M K = K (some (.int (M.2.1 109 (9 + 4 * i + 1)))) M := by
  have e : 9 + 4 * Int32.ofNat i + 1 = Int32.ofNat (9 + 4 * i + 1) := by rw [show (9 : Int32) = Int32.ofNat 9 from rfl, show (4 : Int32) = Int32.ofNat 4 from rfl, show (1 : Int32) = Int32.ofNat 1 from rfl, ip_om, ip_oa, ip_oa]
  have n := eq_false (ip_nn (9 + 4 * i + 1) (by omega))
  have c := ip_nc (9 + 4 * i + 1) (by omega)
  have l : (9 + 4 * i + 1 < 821) = True := eq_true (by omega)
  simp (config := { maxSteps := 10000000, maxDischargeDepth := 30, decide := true }) only [w197_0, w197_1, w197_4, w197_6, w197_7, w197_8, w197_9, w197_10, w197_11, w197_12, w197_13, ↓ip_ka0, ↓ip_ki1, ↓ip_ki2, ip_vr_some, and_self, not_false_eq_true, ip_ix_eq, gS_108 hG, gS_109 hG, gR_108_1 hG, e, n, c, l]

set_option maxHeartbeats 40000000 in
set_option maxRecDepth 100000 in
theorem s_197_2 (X : ip_X) (M : ip_H) (K : Option Value → ip_H → Prop) (i : Nat) (hi : i < 6) (hG : ip_G M) : ip_wp X 197 0 [.ref 108, .int (Int32.ofNat i), .int 2] [] M K = K (some (.int (M.2.1 109 (9 + 4 * i + 2)))) M := by
  have e : 9 + 4 * Int32.ofNat i + 2 = Int32.ofNat (9 + 4 * i + 2) := by rw [show (9 : Int32) = Int32.ofNat 9 from rfl, show (4 : Int32) = Int32.ofNat 4 from rfl, show (2 : Int32) = Int32.ofNat 2 from rfl, ip_om, ip_oa, ip_oa]
  have n := eq_false (ip_nn (9 + 4 * i + 2) (by omega))
  have c := ip_nc (9 + 4 * i + 2) (by omega)
  have l : (9 + 4 * i + 2 < 821) = True := eq_true (by omega)
  simp (config := { maxSteps := 10000000, maxDischargeDepth := 30, decide := true }) only [w197_0, w197_1, w197_4, w197_6, w197_7, w197_8, w197_9, w197_10, w197_11, w197_12, w197_13, ↓ip_ka0, ↓ip_ki1, ↓ip_ki2, ip_vr_some, and_self, not_false_eq_true, ip_ix_eq, gS_108 hG, gS_109 hG, gR_108_1 hG, e, n, c, l]

set_option maxHeartbeats 40000000 in
set_option maxRecDepth 100000 in
theorem s_197_3 (X : ip_X) (M : ip_H) (K : Option Value → ip_H → Prop) (i : Nat) (hi : i < 6) (hG : ip_G M) : ip_wp X 197 0 [.ref 108, .int (Int32.ofNat i), .int 3] [] M K = K (some (.int (M.2.1 109 (9 + 4 * i + 3)))) M := by
  have e : 9 + 4 * Int32.ofNat i + 3 = Int32.ofNat (9 + 4 * i + 3) := by rw [show (9 : Int32) = Int32.ofNat 9 from rfl, show (4 : Int32) = Int32.ofNat 4 from rfl, show (3 : Int32) = Int32.ofNat 3 from rfl, ip_om, ip_oa, ip_oa]
  have n := eq_false (ip_nn (9 + 4 * i + 3) (by omega))
  have c := ip_nc (9 + 4 * i + 3) (by omega)
  have l : (9 + 4 * i + 3 < 821) = True := eq_true (by omega)
  simp (config := { maxSteps := 10000000, maxDischargeDepth := 30, decide := true }) only [w197_0, w197_1, w197_4, w197_6, w197_7, w197_8, w197_9, w197_10, w197_11, w197_12, w197_13, ↓ip_ka0, ↓ip_ki1, ↓ip_ki2, ip_vr_some, and_self, not_false_eq_true, ip_ix_eq, gS_108 hG, gS_109 hG, gR_108_1 hG, e, n, c, l]

set_option maxHeartbeats 40000000 in
set_option maxRecDepth 100000 in
theorem s_208_0 (X : ip_X) (M : ip_H) (K : Option Value → ip_H → Prop) (i : Nat) (hi : i ≤ 60) (hG : ip_G M) : ip_wp X 208 0 [.ref 108, .int (Int32.ofNat i), .int 0] [] M K = K (some (.int (M.2.1 109 (153 + 8 * i)))) M := by
  have e : 153 + 8 * Int32.ofNat i + 0 = Int32.ofNat (153 + 8 * i) := by rw [show (153 : Int32) = Int32.ofNat 153 from rfl, show (8 : Int32) = Int32.ofNat 8 from rfl, show (0 : Int32) = Int32.ofNat 0 from rfl, ip_om, ip_oa, ip_oa] <;> rfl
  have n := eq_false (ip_nn (153 + 8 * i) (by omega))
  have c := ip_nc (153 + 8 * i) (by omega)
  have l : (153 + 8 * i < 821) = True := eq_true (by omega)
  simp (config := { maxSteps := 10000000, maxDischargeDepth := 30, decide := true }) only [w208_0, w208_1, w208_4, w208_7, w208_9, w208_10, w208_11, w208_12, w208_13, w208_14, w208_15, ↓ip_ka0, ↓ip_ki1, ↓ip_ki2, ip_vr_some, and_self, not_false_eq_true, ip_ix_eq, gS_108 hG, gS_109 hG, gR_108_1 hG, e, n, c, l]

set_option maxHeartbeats 40000000 in
set_option maxRecDepth 100000 in
theorem s_208_1 (X : ip_X) (M : ip_H) (K : Option Value → ip_H → Prop) (i : Nat) (hi : i ≤ 60) (hG : ip_G M) : ip_wp X 208 0 [.ref 108, .int (Int32.ofNat i), .int 1] [] M K = K (some (.int (M.2.1 109 (153 + 8 * i + 1)))) M := by
  have e : 153 + 8 * Int32.ofNat i + 1 = Int32.ofNat (153 + 8 * i + 1) := by rw [show (153 : Int32) = Int32.ofNat 153 from rfl, show (8 : Int32) = Int32.ofNat 8 from rfl, show (1 : Int32) = Int32.ofNat 1 from rfl, ip_om, ip_oa, ip_oa] <;> rfl
  have n := eq_false (ip_nn (153 + 8 * i + 1) (by omega))
  have c := ip_nc (153 + 8 * i + 1) (by omega)
  have l : (153 + 8 * i + 1 < 821) = True := eq_true (by omega)
  simp (config := { maxSteps := 10000000, maxDischargeDepth := 30, decide := true }) only [w208_0, w208_1, w208_4, w208_7, w208_9, w208_10, w208_11, w208_12, w208_13, w208_14, w208_15, ↓ip_ka0, ↓ip_ki1, ↓ip_ki2, ip_vr_some, and_self, not_false_eq_true, ip_ix_eq, gS_108 hG, gS_109 hG, gR_108_1 hG, e, n, c, l]

set_option maxHeartbeats 40000000 in
set_option maxRecDepth 100000 in
theorem s_208_2 (X : ip_X) (M : ip_H) (K : Option Value → ip_H → Prop) (i : Nat) (hi : i ≤ 60) (hG : ip_G M) : ip_wp X 208 0 [.ref 108, .int (Int32.ofNat i), .int 2] [] M K = K (some (.int (M.2.1 109 (153 + 8 * i + 2)))) M := by
  have e : 153 + 8 * Int32.ofNat i + 2 = Int32.ofNat (153 + 8 * i + 2) := by rw [show (153 : Int32) = Int32.ofNat 153 from rfl, show (8 : Int32) = Int32.ofNat 8 from rfl, show (2 : Int32) = Int32.ofNat 2 from rfl, ip_om, ip_oa, ip_oa] <;> rfl
  have n := eq_false (ip_nn (153 + 8 * i + 2) (by omega))
  have c := ip_nc (153 + 8 * i + 2) (by omega)
  have l : (153 + 8 * i + 2 < 821) = True := eq_true (by omega)
  simp (config := { maxSteps := 10000000, maxDischargeDepth := 30, decide := true }) only [w208_0, w208_1, w208_4, w208_7, w208_9, w208_10, w208_11, w208_12, w208_13, w208_14, w208_15, ↓ip_ka0, ↓ip_ki1, ↓ip_ki2, ip_vr_some, and_self, not_false_eq_true, ip_ix_eq, gS_108 hG, gS_109 hG, gR_108_1 hG, e, n, c, l]

set_option maxHeartbeats 40000000 in
set_option maxRecDepth 100000 in
theorem s_208_3 (X : ip_X) (M : ip_H) (K : Option Value → ip_H → Prop) (i : Nat) (hi : i ≤ 60) (hG : ip_G M) : ip_wp X 208 0 [.ref 108, .int (Int32.ofNat i), .int 3] [] M K = K (some (.int (M.2.1 109 (153 + 8 * i + 3)))) M := by
  have e : 153 + 8 * Int32.ofNat i + 3 = Int32.ofNat (153 + 8 * i + 3) := by rw [show (153 : Int32) = Int32.ofNat 153 from rfl, show (8 : Int32) = Int32.ofNat 8 from rfl, show (3 : Int32) = Int32.ofNat 3 from rfl, ip_om, ip_oa, ip_oa] <;> rfl
  have n := eq_false (ip_nn (153 + 8 * i + 3) (by omega))
  have c := ip_nc (153 + 8 * i + 3) (by omega)
  have l : (153 + 8 * i + 3 < 821) = True := eq_true (by omega)
  simp (config := { maxSteps := 10000000, maxDischargeDepth := 30, decide := true }) only [w208_0, w208_1, w208_4, w208_7, w208_9, w208_10, w208_11, w208_12, w208_13, w208_14, w208_15, ↓ip_ka0, ↓ip_ki1, ↓ip_ki2, ip_vr_some, and_self, not_false_eq_true, ip_ix_eq, gS_108 hG, gS_109 hG, gR_108_1 hG, e, n, c, l]

set_option maxHeartbeats 40000000 in
set_option maxRecDepth 100000 in
theorem s_208_4 (X : ip_X) (M : ip_H) (K : Option Value → ip_H → Prop) (i : Nat) (hi : i ≤ 60) (hG : ip_G M) : ip_wp X 208 0 [.ref 108, .int (Int32.ofNat i), .int 4] [] M K = K (some (.int (M.2.1 109 (153 + 8 * i + 4)))) M := by
  have e : 153 + 8 * Int32.ofNat i + 4 = Int32.ofNat (153 + 8 * i + 4) := by rw [show (153 : Int32) = Int32.ofNat 153 from rfl, show (8 : Int32) = Int32.ofNat 8 from rfl, show (4 : Int32) = Int32.ofNat 4 from rfl, ip_om, ip_oa, ip_oa] <;> rfl
  have n := eq_false (ip_nn (153 + 8 * i + 4) (by omega))
  have c := ip_nc (153 + 8 * i + 4) (by omega)
  have l : (153 + 8 * i + 4 < 821) = True := eq_true (by omega)
  simp (config := { maxSteps := 10000000, maxDischargeDepth := 30, decide := true }) only [w208_0, w208_1, w208_4, w208_7, w208_9, w208_10, w208_11, w208_12, w208_13, w208_14, w208_15, ↓ip_ka0, ↓ip_ki1, ↓ip_ki2, ip_vr_some, and_self, not_false_eq_true, ip_ix_eq, gS_108 hG, gS_109 hG, gR_108_1 hG, e, n, c, l]

set_option maxHeartbeats 40000000 in
set_option maxRecDepth 100000 in
theorem s_208_5 (X : ip_X) (M : ip_H) (K : Option Value → ip_H → Prop) (i : Nat) (hi : i ≤ 60) (hG : ip_G M) : ip_wp X 208 0 [.ref 108, .int (Int32.ofNat i), .int 5] [] M K = K (some (.int (M.2.1 109 (153 + 8 * i + 5)))) M := by
  have e : 153 + 8 * Int32.ofNat i + 5 = Int32.ofNat (153 + 8 * i + 5) := by rw [show (153 : Int32) = Int32.ofNat 153 from rfl, show (8 : Int32) = Int32.ofNat 8 from rfl, show (5 : Int32) = Int32.ofNat 5 from rfl, ip_om, ip_oa, ip_oa] <;> rfl
  have n := eq_false (ip_nn (153 + 8 * i + 5) (by omega))
  have c := ip_nc (153 + 8 * i + 5) (by omega)
  have l : (153 + 8 * i + 5 < 821) = True := eq_true (by omega)
  simp (config := { maxSteps := 10000000, maxDischargeDepth := 30, decide := true }) only [w208_0, w208_1, w208_4, w208_7, w208_9, w208_10, w208_11, w208_12, w208_13, w208_14, w208_15, ↓ip_ka0, ↓ip_ki1, ↓ip_ki2, ip_vr_some, and_self, not_false_eq_true, ip_ix_eq, gS_108 hG, gS_109 hG, gR_108_1 hG, e, n, c, l]

set_option maxHeartbeats 40000000 in
set_option maxRecDepth 100000 in
theorem s_208_6 (X : ip_X) (M : ip_H) (K : Option Value → ip_H → Prop) (i : Nat) (hi : i ≤ 60) (hG : ip_G M) : ip_wp X 208 0 [.ref 108, .int (Int32.ofNat i), .int 6] [] M K = K (some (.int (M.2.1 109 (153 + 8 * i + 6)))) M := by
  have e : 153 + 8 * Int32.ofNat i + 6 = Int32.ofNat (153 + 8 * i + 6) := by rw [show (153 : Int32) = Int32.ofNat 153 from rfl, show (8 : Int32) = Int32.ofNat 8 from rfl, show (6 : Int32) = Int32.ofNat 6 from rfl, ip_om, ip_oa, ip_oa] <;> rfl
  have n := eq_false (ip_nn (153 + 8 * i + 6) (by omega))
  have c := ip_nc (153 + 8 * i + 6) (by omega)
  have l : (153 + 8 * i + 6 < 821) = True := eq_true (by omega)
  simp (config := { maxSteps := 10000000, maxDischargeDepth := 30, decide := true }) only [w208_0, w208_1, w208_4, w208_7, w208_9, w208_10, w208_11, w208_12, w208_13, w208_14, w208_15, ↓ip_ka0, ↓ip_ki1, ↓ip_ki2, ip_vr_some, and_self, not_false_eq_true, ip_ix_eq, gS_108 hG, gS_109 hG, gR_108_1 hG, e, n, c, l]

set_option maxHeartbeats 40000000 in
set_option maxRecDepth 100000 in
theorem s_208_7 (X : ip_X) (M : ip_H) (K : Option Value → ip_H → Prop) (i : Nat) (hi : i ≤ 60) (hG : ip_G M) : ip_wp X 208 0 [.ref 108, .int (Int32.ofNat i), .int 7] [] M K = K (some (.int (M.2.1 109 (153 + 8 * i + 7)))) M := by
  have e : 153 + 8 * Int32.ofNat i + 7 = Int32.ofNat (153 + 8 * i + 7) := by rw [show (153 : Int32) = Int32.ofNat 153 from rfl, show (8 : Int32) = Int32.ofNat 8 from rfl, show (7 : Int32) = Int32.ofNat 7 from rfl, ip_om, ip_oa, ip_oa] <;> rfl
  have n := eq_false (ip_nn (153 + 8 * i + 7) (by omega))
  have c := ip_nc (153 + 8 * i + 7) (by omega)
  have l : (153 + 8 * i + 7 < 821) = True := eq_true (by omega)
  simp (config := { maxSteps := 10000000, maxDischargeDepth := 30, decide := true }) only [w208_0, w208_1, w208_4, w208_7, w208_9, w208_10, w208_11, w208_12, w208_13, w208_14, w208_15, ↓ip_ka0, ↓ip_ki1, ↓ip_ki2, ip_vr_some, and_self, not_false_eq_true, ip_ix_eq, gS_108 hG, gS_109 hG, gR_108_1 hG, e, n, c, l]

set_option maxHeartbeats 40000000 in
set_option maxRecDepth 100000 in
theorem s_209_0 (X : ip_X) (M : ip_H) (K : Option Value → ip_H → Prop) (i : Nat) (hi : i ≤ 60) (hG : ip_G M) (hq : q3 (M.2.1 109 1) = true) : ip_wp X 209 0 [.ref 108, .int (Int32.ofNat i), .int 0, .retAddr 1] [] M K = K (some (.int (z_fl (M.2.1 109 0).toInt (M.2.1 109 1).toInt (M.2.1 109 2).toInt (M.2.1 109 (153 + 8 * i)).toInt (M.2.1 109 (153 + 8 * i + 1)).toInt (M.2.1 109 (153 + 8 * i + 2)).toInt (M.2.1 109 (153 + 8 * i + 3)).toInt))) M := by
  have e0 : (153 + 8 * Int32.ofNat i + 0 : Int32) = Int32.ofNat (153 + 8 * i) := by rw [show (153 : Int32) = Int32.ofNat 153 from rfl, show (8 : Int32) = Int32.ofNat 8 from rfl, show (0 : Int32) = Int32.ofNat 0 from rfl, ip_om, ip_oa, ip_oa] <;> rfl
  have n0 := eq_false (ip_nn (153 + 8 * i) (by omega))
  have c0 := ip_nc (153 + 8 * i) (by omega)
  have l0 : (153 + 8 * i < 821) = True := eq_true (by omega)
  have e1 : Int32.ofNat (153 + 8 * i) + 1 = Int32.ofNat (153 + 8 * i + 1) := ip_oa _ 1
  have n1 := eq_false (ip_nn (153 + 8 * i + 1) (by omega))
  have c1 := ip_nc (153 + 8 * i + 1) (by omega)
  have l1 : (153 + 8 * i + 1 < 821) = True := eq_true (by omega)
  have e2 : Int32.ofNat (153 + 8 * i) + 2 = Int32.ofNat (153 + 8 * i + 2) := ip_oa _ 2
  have n2 := eq_false (ip_nn (153 + 8 * i + 2) (by omega))
  have c2 := ip_nc (153 + 8 * i + 2) (by omega)
  have l2 : (153 + 8 * i + 2 < 821) = True := eq_true (by omega)
  have e3 : Int32.ofNat (153 + 8 * i) + 3 = Int32.ofNat (153 + 8 * i + 3) := ip_oa _ 3
  have n3 := eq_false (ip_nn (153 + 8 * i + 3) (by omega))
  have c3 := ip_nc (153 + 8 * i + 3) (by omega)
  have l3 : (153 + 8 * i + 3 < 821) = True := eq_true (by omega)
  have ea : (8 : Int32) * Int32.ofNat i = Int32.ofNat (8 * i) := ip_om 8 i
  have z4 : (4 : Int32) * 0 = 0 := by decide +kernel
  simp (config := { maxSteps := 10000000, maxDischargeDepth := 30, decide := true }) only [w209_0, w209_3, w209_5, w209_6, w209_7, w209_8, w209_9, w209_10, w209_11, w209_12, w209_13, w209_14, w209_15, w209_18, w209_19, w209_20, w209_21, w209_22, w209_25, w209_26, w209_27, w209_28, w209_29, w209_30, w209_31, w209_34, w209_35, w209_36, w209_37, w209_38, w209_39, w209_40, w209_43, w209_44, w209_45, w209_46, w209_47, w209_48, w209_51, ↓ip_ka0, ↓ip_ki1, ↓ip_ki2, ↓ip_ki3, ip_get_0, ip_get_s, ip_set1, ip_clr_s, ip_cat_i, List.set_cons_zero, List.set_cons_succ, ip_vr_some, Option.toList_some, List.nil_append, List.cons_append, List.length_nil, ↓reduceIte, Nat.reduceEqDiff, Nat.zero_le, and_self, not_false_eq_true, ip_ix_eq, gS_108 hG, gS_109 hG, gR_108_1 hG, hG, hq, s_186, z4, e3, n3, c3, l3, e2, n2, c2, l2, e1, n1, c1, l1, e0, n0, c0, l0, z_w]

set_option maxHeartbeats 40000000 in
set_option maxRecDepth 100000 in
theorem s_209_1 (X : ip_X) (M : ip_H) (K : Option Value → ip_H → Prop) (i : Nat) (hi : i ≤ 60) (hG : ip_G M) (hq : q3 (M.2.1 109 1) = true) : ip_wp X 209 0 [.ref 108, .int (Int32.ofNat i), .int 1, .retAddr 1] [] M K = K (some (.int (z_fl (M.2.1 109 0).toInt (M.2.1 109 1).toInt (M.2.1 109 2).toInt (M.2.1 109 (153 + 8 * i + 4)).toInt (M.2.1 109 (153 + 8 * i + 5)).toInt (M.2.1 109 (153 + 8 * i + 6)).toInt (M.2.1 109 (153 + 8 * i + 7)).toInt))) M := by
  have e0 : (153 + 8 * Int32.ofNat i + 4 : Int32) = Int32.ofNat (153 + 8 * i + 4) := by rw [show (153 : Int32) = Int32.ofNat 153 from rfl, show (8 : Int32) = Int32.ofNat 8 from rfl, show (4 : Int32) = Int32.ofNat 4 from rfl, ip_om, ip_oa, ip_oa] <;> rfl
  have n0 := eq_false (ip_nn (153 + 8 * i + 4) (by omega))
  have c0 := ip_nc (153 + 8 * i + 4) (by omega)
  have l0 : (153 + 8 * i + 4 < 821) = True := eq_true (by omega)
  have e1 : Int32.ofNat (153 + 8 * i + 4) + 1 = Int32.ofNat (153 + 8 * i + 5) := ip_oa _ 1
  have n1 := eq_false (ip_nn (153 + 8 * i + 5) (by omega))
  have c1 := ip_nc (153 + 8 * i + 5) (by omega)
  have l1 : (153 + 8 * i + 5 < 821) = True := eq_true (by omega)
  have e2 : Int32.ofNat (153 + 8 * i + 4) + 2 = Int32.ofNat (153 + 8 * i + 6) := ip_oa _ 2
  have n2 := eq_false (ip_nn (153 + 8 * i + 6) (by omega))
  have c2 := ip_nc (153 + 8 * i + 6) (by omega)
  have l2 : (153 + 8 * i + 6 < 821) = True := eq_true (by omega)
  have e3 : Int32.ofNat (153 + 8 * i + 4) + 3 = Int32.ofNat (153 + 8 * i + 7) := ip_oa _ 3
  have n3 := eq_false (ip_nn (153 + 8 * i + 7) (by omega))
  have c3 := ip_nc (153 + 8 * i + 7) (by omega)
  have l3 : (153 + 8 * i + 7 < 821) = True := eq_true (by omega)
  have ea : (8 : Int32) * Int32.ofNat i = Int32.ofNat (8 * i) := ip_om 8 i
  have z4 : (4 : Int32) * 1 = 4 := by decide +kernel
  simp (config := { maxSteps := 10000000, maxDischargeDepth := 30, decide := true }) only [w209_0, w209_3, w209_5, w209_6, w209_7, w209_8, w209_9, w209_10, w209_11, w209_12, w209_13, w209_14, w209_15, w209_18, w209_19, w209_20, w209_21, w209_22, w209_25, w209_26, w209_27, w209_28, w209_29, w209_30, w209_31, w209_34, w209_35, w209_36, w209_37, w209_38, w209_39, w209_40, w209_43, w209_44, w209_45, w209_46, w209_47, w209_48, w209_51, ↓ip_ka0, ↓ip_ki1, ↓ip_ki2, ↓ip_ki3, ip_get_0, ip_get_s, ip_set1, ip_clr_s, ip_cat_i, List.set_cons_zero, List.set_cons_succ, ip_vr_some, Option.toList_some, List.nil_append, List.cons_append, List.length_nil, ↓reduceIte, Nat.reduceEqDiff, Nat.zero_le, and_self, not_false_eq_true, ip_ix_eq, gS_108 hG, gS_109 hG, gR_108_1 hG, hG, hq, s_186, z4, e3, n3, c3, l3, e2, n2, c2, l2, e1, n1, c1, l1, e0, n0, c0, l0, z_w]

set_option maxHeartbeats 40000000 in
set_option maxRecDepth 100000 in
theorem s_169 (X : ip_X) (M : ip_H) (K : Option Value → ip_H → Prop) (p q r : Int32) (hG : ip_G M) : ip_wp X 169 0 [.ref 108, .int p, .int q, .int r, .retAddr 1, .retAddr 1] [] M K = K none (c_cl M p q r) := by
  have key : ∀ M1, M1 = c_cl M p q r → K none M1 = K none (c_cl M p q r) := fun M1 h => by rw [h]
  simp (config := { maxSteps := 10000000, maxDischargeDepth := 30, decide := true }) only [w169_0, w169_1, w169_4, w169_5, w169_6, w169_7, w169_8, w169_11, w169_12, w169_13, w169_14, w169_15, w169_18, w169_19, w169_20, w169_21, w169_22, w169_25, w169_26, w169_27, w169_28, w169_29, w169_32, w169_33, w169_34, w169_35, w169_36, w169_39, w169_41, w169_42, w169_43, w169_44, w169_47, w169_49, w169_50, w169_51, w169_52, w169_54, w169_56, w169_58, w169_61, w169_62, w169_64, w169_66, w169_67, w169_70, w169_71, w169_74, w169_76, w169_77, w169_79, w169_80, w169_81, w169_83, w169_84, w169_86, w169_87, w169_90, w169_91, w169_94, w169_95, w169_96, w169_99, w169_102, w169_105, w169_108, ↓ip_ka0, ↓ip_ki1, ↓ip_ki2, ↓ip_ki3, ↓ip_ki4, ↓ip_ki5, ip_get_0, ip_get_s, ip_set1, ip_clr_s, ip_cat_i, List.set_cons_zero, List.set_cons_succ, ip_uI_R, ip_uI_sh, ip_vr_some, ↓reduceIte, Nat.reduceEqDiff, Int32.reduceAdd, Int32.reduceMul, Int32.reduceToNatClampNeg, ip_ix_eq, gS_108 hG, gS_109 hG, gR_108_1 hG]
  apply key
  unfold c_cl
  rw [ip_uI_as M 109]
  simp only [ip_uI_sI]
  congr 1
  funext j
  unfold c_clf
  match j with
  | 0 => rfl
  | 1 => rfl
  | 2 => rfl
  | 3 => rfl
  | 4 => rfl
  | 5 => rfl
  | 6 => rfl
  | 7 => rfl
  | 8 => rfl
  | 9 => rfl
  | 10 => rfl
  | 11 => rfl
  | 12 => rfl
  | 13 => rfl
  | 14 => rfl
  | 15 => rfl
  | 16 => rfl
  | 17 => rfl
  | 18 => rfl
  | 19 => rfl
  | 20 => rfl
  | 21 => rfl
  | 22 => rfl
  | 23 => rfl
  | 24 => rfl
  | 25 => rfl
  | 26 => rfl
  | 27 => rfl
  | 28 => rfl
  | 29 => rfl
  | 30 => rfl
  | 31 => rfl
  | 32 => rfl
  | n + 33 =>
    have h : ¬ (9 ≤ n + 33 ∧ n + 33 < 33) := by omega
    simp only [h, Nat.reduceEqDiff, reduceIte]

set_option maxHeartbeats 40000000 in
set_option maxRecDepth 100000 in
theorem s_170u (X : ip_X) (M : ip_H) (K : Option Value → ip_H → Prop) (what : Int32) (hG : ip_G M) (hm : m8 (M.2.1 108 12) = true) : ip_wp X 170 0 [.ref 108, .int what, .retAddr 1] [] M K = K none (c_ks M what) := by
  unfold m8 at hm
  rw [Bool.and_eq_true, decide_eq_true_eq, decide_eq_true_eq] at hm
  have hx := ip_nat _ hm.1
  have e : (M.2.1 108 12).toNatClampNeg = (M.2.1 108 12).toInt.toNat := rfl
  unfold c_ks
  by_cases h8 : M.2.1 108 12 = 8
  · rw [if_pos h8]
    exact s_170x X M K what h8 hG
  · rw [if_neg h8]
    refine s_170 X M K what _ ?_ hx hG
    have : (M.2.1 108 12).toInt ≠ 8 := fun q => h8 (Int32.toInt_inj.mp q)
    omega

set_option maxHeartbeats 40000000 in
set_option maxRecDepth 100000 in
theorem s_198 (X : ip_X) (M : ip_H) (K : Option Value → ip_H → Prop) (i : Nat) (hi : i < 6) (hG : ip_G M) (hq : q3 (M.2.1 109 1) = true) : ip_wp X 198 0 [.ref 108, .int (Int32.ofNat i)] [] M K = K (some (.int (z_fl (M.2.1 109 0).toInt (M.2.1 109 1).toInt (M.2.1 109 2).toInt (M.2.2.1 108 13).toInt (M.2.2.1 108 14).toInt (M.2.2.1 108 15).toInt (M.2.2.1 108 16).toInt))) (c_ly M i (M.2.2.1 108 13).toInt32 (M.2.2.1 108 14).toInt32 (M.2.2.1 108 15).toInt32 (M.2.2.1 108 16).toInt32) := by
  have hi' : i = 0 ∨ i = 1 ∨ i = 2 ∨ i = 3 ∨ i = 4 ∨ i = 5 := by omega
  have key : ∀ (N : ip_H) (a b c d : Int64), ip_G N → q3 (N.2.1 109 1) = true → ∀ K, ip_wp X 186 0 [.ref 108, .long a, .retAddr 1, .long b, .retAddr 1, .long c, .retAddr 1, .long d, .retAddr 1, .retAddr 1, .retAddr 1, .retAddr 1] [] N K = K (some (.int (z_fl (N.2.1 109 0).toInt (N.2.1 109 1).toInt (N.2.1 109 2).toInt a.toInt b.toInt c.toInt d.toInt))) N := by
    intro N a b c d hG hq K
    have h := s_186 X N K a.toInt b.toInt c.toInt d.toInt hG hq
    simp only [Int64.ofInt_toInt] at h
    exact h
  unfold c_ly
  rcases hi' with rfl | rfl | rfl | rfl | rfl | rfl
  all_goals (simp (config := { maxSteps := 10000000, maxDischargeDepth := 30, decide := true }) only [w198_0, w198_1, w198_4, w198_6, w198_7, w198_8, w198_9, w198_10, w198_11, w198_14, w198_15, w198_16, w198_17, w198_20, w198_22, w198_23, w198_24, w198_25, w198_26, w198_27, w198_28, w198_29, w198_32, w198_33, w198_34, w198_35, w198_38, w198_40, w198_41, w198_42, w198_43, w198_44, w198_45, w198_46, w198_47, w198_50, w198_51, w198_52, w198_53, w198_56, w198_58, w198_59, w198_60, w198_61, w198_62, w198_63, w198_64, w198_65, w198_68, w198_69, w198_70, w198_71, w198_72, w198_73, w198_76, w198_77, w198_80, w198_81, w198_84, w198_85, w198_88, w198_91, w198_94, w168_0, w168_1, w168_2, w168_5, w168_6, ↓ip_ka0, ↓ip_ki1, ip_uI_I, ip_uI_L, ip_uI_R, ip_uI_sh, ip_vr_some, Option.toList_some, List.nil_append, List.cons_append, List.length_nil, List.length_cons, ↓reduceIte, Nat.reduceAdd, Nat.reduceLeDiff, Nat.zero_add, Nat.zero_le, gG_uI, Int32.reduceAdd, Int32.reduceMul, Int32.reduceToNatClampNeg, ip_ix_eq, Int32.reduceOfNat, gS_108 hG, gS_109 hG, gR_108_1 hG, hG, hq, key, Nat.reduceMul])

end
noncomputable section
-- PART 65.ops1
-- THE REFERENCE: field, set, combine
theorem c_cl_1 (M : ip_H) (p q r : Int32) : (c_cl M p q r).1 = M.1 := rfl
theorem c_cl_sh (M : ip_H) (p q r : Int32) (k : Nat) : ip_sh (c_cl M p q r) k = ip_sh M k := rfl
theorem gG_cl (M : ip_H) (p q r : Int32) (h : ip_G M) : ip_G (c_cl M p q r) := h
def ip_D32 (p q r : Int32) : Int32 := p * p * q * q + 4 * q * q * q - 4 * p * p * p * r - 27 * r * r - 18 * p * q * r
def ip_kq (m : Int32) : Nat → Int32 → Bool
  | 0, k => decide (m < k)
  | n + 1, k => decide (¬ m < k) && ip_kq m n (k + 1)
theorem ip_kq11 : ip_kq 5 11 (-5) = true := by decide +kernel
def ip_mf (p q r : Int32) : Nat → Int32 → Int32 → Int32
  | 0, _, s => s
  | n + 1, x, s => if s = 0 then ip_mf p q r n (x + 1) 0 else if x * x * x = p * x * x + q * x + r then ip_mf p q r n (x + 1) 0 else ip_mf p q r n (x + 1) 1
def ip_mF (p q r : Int32) : Int32 := ip_mf p q r 11 (-5) (if ip_D32 p q r < 0 then 1 else 0)
def ip_7 : List Int32 := [-3, -2, -1, 0, 1, 2, 3]
theorem ip_7m (x : Int32) (h : i_in x (-3) 3 = true) : x ∈ ip_7 := by
  rw [i_in_z] at h
  simp only [Int32.reduceToInt] at h
  have h : x.toInt = -3 ∨ x.toInt = -2 ∨ x.toInt = -1 ∨ x.toInt = 0 ∨ x.toInt = 1 ∨ x.toInt = 2 ∨ x.toInt = 3 := by omega
  have e : ∀ c : Int32, x.toInt = c.toInt → x = c := fun c q => Int32.toInt_inj.mp q
  rcases h with h | h | h | h | h | h | h
  · rw [e (-3) (h.trans (by decide))]; decide
  · rw [e (-2) (h.trans (by decide))]; decide
  · rw [e (-1) (h.trans (by decide))]; decide
  · rw [e 0 (h.trans (by decide))]; decide
  · rw [e 1 (h.trans (by decide))]; decide
  · rw [e 2 (h.trans (by decide))]; decide
  · rw [e 3 (h.trans (by decide))]; decide
set_option maxRecDepth 1000000 in
theorem ip_ff : ∀ p ∈ ip_7, ∀ q ∈ ip_7, ∀ r ∈ ip_7, ip_mF p q r = ip_b (zF p.toInt q.toInt r.toInt) ∧ (ip_D32 p q r).toInt = zD p.toInt q.toInt r.toInt := by decide +kernel
/-- a value by its place in a row -/
def c_vo (f : Nat → Int32) (s : Nat) : Prop := zb 150 (f s).toInt ∧ zb 150 (f (s + 1)).toInt ∧ zb 150 (f (s + 2)).toInt ∧ (1 ≤ (f (s + 3)).toInt ∧ (f (s + 3)).toInt ≤ 150)
/-- what stands before lowest terms: i and j together, less, times, by -/
def zJ (how : Nat) (p q r a b c d f g h e : Int) : Int × Int × Int × Int := match how with
  | 0 => (a * e + 1 * f * d, b * e + 1 * g * d, c * e + 1 * h * d, d * e)
  | 1 => (a * e + -1 * f * d, b * e + -1 * g * d, c * e + -1 * h * d, d * e)
  | 2 => (zA p q r a b c f g h, zB p q r a b c f g h, zC p q r a b c f g h, d * e)
  | _ => zQ p q r a b c d f g h e
/-- lowest terms -/
def zl (z : Int × Int × Int × Int) : Int × Int × Int × Int := (z.1.tdiv (zg z.1 z.2.1 z.2.2.1 z.2.2.2), z.2.1.tdiv (zg z.1 z.2.1 z.2.2.1 z.2.2.2), z.2.2.1.tdiv (zg z.1 z.2.1 z.2.2.1 z.2.2.2), z.2.2.2.tdiv (zg z.1 z.2.1 z.2.2.1 z.2.2.2))
def c_x4 (M : ip_H) (z : Int × Int × Int × Int) : ip_H := ip_x4 M z.1 z.2.1 z.2.2.1 z.2.2.2
theorem z_m1 : (-1 : Int64) = Int64.ofInt (-1) := rfl

set_option maxHeartbeats 40000000 in
set_option maxRecDepth 100000 in
theorem s_199 (X : ip_X) (M : ip_H) (K : Option Value → ip_H → Prop) (p q r : Int32) : ip_wp X 199 0 [.int p, .int q, .int r] [] M K = K (some (.int (ip_D32 p q r))) M := by
  unfold ip_D32
  simp (config := { maxSteps := 10000000, maxDischargeDepth := 30, decide := true }) only [w199_0, w199_1, w199_2, w199_3, w199_4, w199_5, w199_6, w199_7, w199_8, w199_9, w199_10, w199_11, w199_12, w199_13, w199_14, w199_15, w199_16, w199_17, w199_18, w199_19, w199_20, w199_21, w199_22, w199_23, w199_24, w199_25, w199_27, w199_28, w199_29, w199_30, w199_31, w199_32, w199_34, w199_35, w199_36, w199_37, w199_38, w199_39, w199_40, w199_41, ↓ip_ki0, ↓ip_ki1, ↓ip_ki2]

set_option maxHeartbeats 40000000 in
set_option maxRecDepth 100000 in
theorem s_200l (X : ip_X) (M : ip_H) (K : Option Value → ip_H → Prop) (p q r : Int32) : ∀ (n : Nat) (x s : Int32), (s = 0 ∨ s = 1) → ip_kq 5 n x = true → ip_wp X 200 19 [.int p, .int q, .int r, .int s, .int x] [] M K = K (some (.int (ip_mf p q r n x s))) M := by
  intro n
  induction n with
  | zero =>
    intro x s hs hk
    have hk' : 5 < x := by simpa only [ip_kq, decide_eq_true_eq] using hk
    rw [ip_mf]
    simp (config := { maxSteps := 10000000, maxDischargeDepth := 30, decide := true }) only [w200_0, w200_1, w200_2, w200_3, w200_6, w200_9, w200_10, w200_13, w200_14, w200_15, w200_17, w200_19, w200_21, w200_22, w200_25, w200_26, w200_29, w200_31, w200_33, w200_34, w200_36, w200_37, w200_38, w200_40, w200_41, w200_43, w200_44, w200_45, w200_47, w200_48, w200_49, w200_50, w200_51, w200_54, w200_55, w200_58, w200_59, w200_60, w200_66, w200_67, ↓ip_ki3, ↓ip_ki4, ↓reduceIte, hk', hs]
  | succ n ih =>
    intro x s hs hk
    simp only [ip_kq, Bool.and_eq_true, decide_eq_true_eq] at hk
    obtain ⟨hk1, hk2⟩ := hk
    rw [ip_mf]
    by_cases hs0 : s = 0
    · rw [if_pos hs0]
      simp (config := { maxSteps := 10000000, maxDischargeDepth := 30, decide := true }) only [w200_0, w200_1, w200_2, w200_3, w200_6, w200_9, w200_10, w200_13, w200_14, w200_15, w200_17, w200_19, w200_21, w200_22, w200_25, w200_26, w200_29, w200_31, w200_33, w200_34, w200_36, w200_37, w200_38, w200_40, w200_41, w200_43, w200_44, w200_45, w200_47, w200_48, w200_49, w200_50, w200_51, w200_54, w200_55, w200_58, w200_59, w200_60, w200_66, w200_67, ↓ip_ki3, ↓ip_ki4, ip_get_0, ip_get_s, ip_set1, ip_clr_s, ip_cat_i, List.set_cons_zero, List.set_cons_succ, ↓reduceIte, Nat.reduceEqDiff, hk1, hs0]
      rw [w200_63]
      exact ih _ _ (by decide) hk2
    · rw [if_neg hs0]
      by_cases h0 : x * x * x = p * x * x + q * x + r
      · rw [if_pos h0]
        simp (config := { maxSteps := 10000000, maxDischargeDepth := 30, decide := true }) only [w200_0, w200_1, w200_2, w200_3, w200_6, w200_9, w200_10, w200_13, w200_14, w200_15, w200_17, w200_19, w200_21, w200_22, w200_25, w200_26, w200_29, w200_31, w200_33, w200_34, w200_36, w200_37, w200_38, w200_40, w200_41, w200_43, w200_44, w200_45, w200_47, w200_48, w200_49, w200_50, w200_51, w200_54, w200_55, w200_58, w200_59, w200_60, w200_66, w200_67, ↓ip_ki0, ↓ip_ki1, ↓ip_ki2, ↓ip_ki3, ↓ip_ki4, ip_get_0, ip_get_s, ip_set1, ip_clr_s, ip_cat_i, List.set_cons_zero, List.set_cons_succ, ↓reduceIte, Nat.reduceEqDiff, hk1, hs0, h0]
        rw [w200_63]
        exact ih _ _ (by decide) hk2
      · rw [if_neg h0]
        simp (config := { maxSteps := 10000000, maxDischargeDepth := 30, decide := true }) only [w200_0, w200_1, w200_2, w200_3, w200_6, w200_9, w200_10, w200_13, w200_14, w200_15, w200_17, w200_19, w200_21, w200_22, w200_25, w200_26, w200_29, w200_31, w200_33, w200_34, w200_36, w200_37, w200_38, w200_40, w200_41, w200_43, w200_44, w200_45, w200_47, w200_48, w200_49, w200_50, w200_51, w200_54, w200_55, w200_58, w200_59, w200_60, w200_66, w200_67, ↓ip_ki0, ↓ip_ki1, ↓ip_ki2, ↓ip_ki3, ↓ip_ki4, ip_get_0, ip_get_s, ip_set1, ip_clr_s, ip_cat_i, List.set_cons_zero, List.set_cons_succ, ↓reduceIte, Nat.reduceEqDiff, hk1, hs0, h0]
        rw [w200_63]
        exact ih _ _ (by decide) hk2

set_option maxHeartbeats 40000000 in
set_option maxRecDepth 100000 in
theorem s_200 (X : ip_X) (M : ip_H) (K : Option Value → ip_H → Prop) (p q r : Int32) : ip_wp X 200 0 [.int p, .int q, .int r, .retAddr 1, .retAddr 1] [] M K = K (some (.int (ip_mF p q r))) M := by
  unfold ip_mF
  by_cases hD : ip_D32 p q r < 0
  · rw [if_pos hD]
    simp (config := { maxSteps := 10000000, maxDischargeDepth := 30, decide := true }) only [w200_0, w200_1, w200_2, w200_3, w200_6, w200_9, w200_10, w200_13, w200_14, w200_15, w200_17, ↓ip_ki0, ↓ip_ki1, ↓ip_ki2, ip_get_0, ip_get_s, ip_set1, ip_clr_s, ip_cat_i, List.set_cons_zero, List.set_cons_succ, Option.toList_some, List.nil_append, List.cons_append, List.length_nil, ↓reduceIte, Nat.reduceEqDiff, Nat.zero_le, s_199, hD]
    exact s_200l X M K p q r 11 _ _ (by decide) ip_kq11
  · rw [if_neg hD]
    simp (config := { maxSteps := 10000000, maxDischargeDepth := 30, decide := true }) only [w200_0, w200_1, w200_2, w200_3, w200_6, w200_9, w200_10, w200_13, w200_14, w200_15, w200_17, ↓ip_ki0, ↓ip_ki1, ↓ip_ki2, ip_get_0, ip_get_s, ip_set1, ip_clr_s, ip_cat_i, List.set_cons_zero, List.set_cons_succ, Option.toList_some, List.nil_append, List.cons_append, List.length_nil, ↓reduceIte, Nat.reduceEqDiff, Nat.zero_le, s_199, hD]
    exact s_200l X M K p q r 11 _ _ (by decide) ip_kq11

set_option maxHeartbeats 40000000 in
set_option maxRecDepth 100000 in
theorem o_201 (X : ip_X) (M : ip_H) (K : Option Value → ip_H → Prop) (p q r : Int32) (hG : ip_G M) (hq : q3 (M.2.1 109 1) = true) (hm : m8 (M.2.1 108 12) = true) (ht : M.2.1 108 0 = 0) (h1 : (i_in p (-3) 3 && (i_in q (-3) 3 && i_in r (-3) 3)) = false → K (some (.int (-1))) (c_no M 1 (-1)))
    (h2 : i_in p (-3) 3 = true → i_in q (-3) 3 = true → i_in r (-3) 3 = true → zF p.toInt q.toInt r.toInt = false → K (some (.int (-4))) (c_no M 4 (-4)))
    (h3 : i_in p (-3) 3 = true → i_in q (-3) 3 = true → i_in r (-3) 3 = true → zF p.toInt q.toInt r.toInt = true → K (some (.int (ip_D32 p q r))) (c_ye (c_cl (c_ks M 0) p q r))) : ip_wp X 201 0 [.ref 108, .int p, .int q, .int r] [] M K := by
  have et : ip_uI M 108 0 0 = M := ip_uI_id ht
  cases e1 : i_in p (-3) 3
  · have h1 := h1 (by rw [e1]; rfl)
    simp (config := { maxSteps := 10000000, maxDischargeDepth := 30, decide := true }) only [w201_0, w201_1, w201_2, w201_5, w201_6, w201_8, w201_9, w201_12, w201_15, w201_16, w201_18, w201_19, w201_22, w201_25, w201_26, w201_28, w201_29, w201_32, w201_35, w201_36, w201_37, w201_40, w201_41, w201_42, w201_43, w201_44, w201_47, w201_50, w201_51, w201_53, w201_56, w201_57, w201_58, w201_59, w201_62, w201_63, w201_64, w201_65, w201_66, w201_69, w201_70, w201_71, w201_72, w201_73, w201_76, w201_79, ↓ip_ka0, ↓ip_ki1, Option.toList_some, List.nil_append, List.cons_append, List.length_nil, ↓reduceIte, Nat.zero_le, ip_b_f, gS_108 hG, hG, et, s_166, s_167_1, s_169, s_199, s_200, gG_cl, c_cl_1, c_cl_sh, e1]
    exact h1
  cases e2 : i_in q (-3) 3
  · have h1 := h1 (by rw [e1, e2]; rfl)
    simp (config := { maxSteps := 10000000, maxDischargeDepth := 30, decide := true }) only [w201_0, w201_1, w201_2, w201_5, w201_6, w201_8, w201_9, w201_12, w201_15, w201_16, w201_18, w201_19, w201_22, w201_25, w201_26, w201_28, w201_29, w201_32, w201_35, w201_36, w201_37, w201_40, w201_41, w201_42, w201_43, w201_44, w201_47, w201_50, w201_51, w201_53, w201_56, w201_57, w201_58, w201_59, w201_62, w201_63, w201_64, w201_65, w201_66, w201_69, w201_70, w201_71, w201_72, w201_73, w201_76, w201_79, ↓ip_ka0, ↓ip_ki1, ↓ip_ki2, Option.toList_some, List.nil_append, List.cons_append, List.length_nil, ↓reduceIte, Nat.zero_le, ip_b_t, ip_b_f, gS_108 hG, hG, et, s_166, s_167_1, s_169, s_199, s_200, gG_cl, c_cl_1, c_cl_sh, e1, e2]
    exact h1
  cases e3 : i_in r (-3) 3
  · have h1 := h1 (by rw [e1, e2, e3]; rfl)
    simp (config := { maxSteps := 10000000, maxDischargeDepth := 30, decide := true }) only [w201_0, w201_1, w201_2, w201_5, w201_6, w201_8, w201_9, w201_12, w201_15, w201_16, w201_18, w201_19, w201_22, w201_25, w201_26, w201_28, w201_29, w201_32, w201_35, w201_36, w201_37, w201_40, w201_41, w201_42, w201_43, w201_44, w201_47, w201_50, w201_51, w201_53, w201_56, w201_57, w201_58, w201_59, w201_62, w201_63, w201_64, w201_65, w201_66, w201_69, w201_70, w201_71, w201_72, w201_73, w201_76, w201_79, ↓ip_ka0, ↓ip_ki1, ↓ip_ki2, ↓ip_ki3, Option.toList_some, List.nil_append, List.cons_append, List.length_nil, ↓reduceIte, Nat.zero_le, ip_b_t, ip_b_f, gS_108 hG, hG, et, s_166, s_167_1, s_169, s_199, s_200, gG_cl, c_cl_1, c_cl_sh, e1, e2, e3]
    exact h1
  obtain ⟨ef, -⟩ := ip_ff p (ip_7m p e1) q (ip_7m q e2) r (ip_7m r e3)
  cases e4 : zF p.toInt q.toInt r.toInt
  · have h2 := h2 e1 e2 e3 e4
    rw [e4] at ef
    simp (config := { maxSteps := 10000000, maxDischargeDepth := 30, decide := true }) only [w201_0, w201_1, w201_2, w201_5, w201_6, w201_8, w201_9, w201_12, w201_15, w201_16, w201_18, w201_19, w201_22, w201_25, w201_26, w201_28, w201_29, w201_32, w201_35, w201_36, w201_37, w201_40, w201_41, w201_42, w201_43, w201_44, w201_47, w201_50, w201_51, w201_53, w201_56, w201_57, w201_58, w201_59, w201_62, w201_63, w201_64, w201_65, w201_66, w201_69, w201_70, w201_71, w201_72, w201_73, w201_76, w201_79, ↓ip_ka0, ↓ip_ki1, ↓ip_ki2, ↓ip_ki3, Option.toList_some, List.nil_append, List.cons_append, List.length_nil, ↓reduceIte, Nat.zero_le, ip_b_t, ip_b_f, gS_108 hG, hG, et, s_166, s_167_4, s_169, s_199, s_200, gG_cl, c_cl_1, c_cl_sh, e1, e2, e3, ef]
    exact h2
  · have h3 := h3 e1 e2 e3 e4
    rw [e4] at ef
    simp (config := { maxSteps := 10000000, maxDischargeDepth := 30, decide := true }) only [w201_0, w201_1, w201_2, w201_5, w201_6, w201_8, w201_9, w201_12, w201_15, w201_16, w201_18, w201_19, w201_22, w201_25, w201_26, w201_28, w201_29, w201_32, w201_35, w201_36, w201_37, w201_40, w201_41, w201_42, w201_43, w201_44, w201_47, w201_50, w201_51, w201_53, w201_56, w201_57, w201_58, w201_59, w201_62, w201_63, w201_64, w201_65, w201_66, w201_69, w201_70, w201_71, w201_72, w201_73, w201_76, w201_79, ↓ip_ka0, ↓ip_ki1, ↓ip_ki2, ↓ip_ki3, Option.toList_some, Option.toList_none, List.nil_append, List.cons_append, List.length_nil, List.length_cons, ↓reduceIte, Nat.reduceLeDiff, Nat.zero_add, Nat.zero_le, ip_b_t, gS_108 hG, hG, hm, et, s_166, s_168, s_170u, s_169, s_199, s_200, gG_cl, c_cl_1, c_cl_sh, e1, e2, e3, ef, c_ks_sh, gG_ks]
    exact h3
end
noncomputable section
-- PART 66.ops2
-- THE REFERENCE: combine, begin
theorem zl_d {z : Int × Int × Int × Int} (h : z.2.2.2 ≠ 0) : 1 ≤ (zl z).2.2.2 := zg_d h

set_option maxHeartbeats 40000000 in
set_option maxRecDepth 100000 in
theorem s_205_0 (X : ip_X) (M : ip_H) (K : Option Value → ip_H → Prop) (i j : Nat) (hi : i < 6) (hj : j < 6) (hG : ip_G M) (hF : zF (M.2.1 109 0).toInt (M.2.1 109 1).toInt (M.2.1 109 2).toInt = true) (vi : c_vo (M.2.1 109) (9 + 4 * i)) (vj : c_vo (M.2.1 109) (9 + 4 * j)) : ip_wp X 205 0 [.ref 108, .int 0, .int (Int32.ofNat i), .int (Int32.ofNat j), .retAddr 1, .retAddr 1, .retAddr 1, .retAddr 1, .retAddr 1, .retAddr 1, .retAddr 1, .retAddr 1, .retAddr 1, .retAddr 1, .retAddr 1, .retAddr 1, .retAddr 1, .retAddr 1, .retAddr 1, .retAddr 1, .retAddr 1] [] M K = K none (c_x4 M (zl (zJ 0 (M.2.1 109 0).toInt (M.2.1 109 1).toInt (M.2.1 109 2).toInt (M.2.1 109 (9 + 4 * i)).toInt (M.2.1 109 (9 + 4 * i + 1)).toInt (M.2.1 109 (9 + 4 * i + 2)).toInt (M.2.1 109 (9 + 4 * i + 3)).toInt (M.2.1 109 (9 + 4 * j)).toInt (M.2.1 109 (9 + 4 * j + 1)).toInt (M.2.1 109 (9 + 4 * j + 2)).toInt (M.2.1 109 (9 + 4 * j + 3)).toInt))) := by
  obtain ⟨a1, a2, a3, a4⟩ := vi
  obtain ⟨b1, b2, b3, b4⟩ := vj
  obtain ⟨hp, hq, hr⟩ := zF_b hF
  have d1 : zb 150 (M.2.1 109 (9 + 4 * i + 3)).toInt := ⟨by omega, a4.2⟩
  have d2 : zb 150 (M.2.1 109 (9 + 4 * j + 3)).toInt := ⟨by omega, b4.2⟩
  have hde : (M.2.1 109 (9 + 4 * i + 3)).toInt * (M.2.1 109 (9 + 4 * j + 3)).toInt ≠ 0 := by
    intro w
    rcases Int.mul_eq_zero.mp w with w | w <;> omega
  have bde : zb 22500 ((M.2.1 109 (9 + 4 * i + 3)).toInt * (M.2.1 109 (9 + 4 * j + 3)).toInt) := zb_m d1 d2 (by decide)
  have x0 : zb 90000000000 ((M.2.1 109 (9 + 4 * i)).toInt * (M.2.1 109 (9 + 4 * j + 3)).toInt + 1 * (M.2.1 109 (9 + 4 * j)).toInt * (M.2.1 109 (9 + 4 * i + 3)).toInt) := zb_a (zb_m (a1) d2 (Int.le_refl _)) (zb_m (zb_m (zb_c 1 (1) (by decide) (by decide)) (b1) (Int.le_refl _)) d1 (Int.le_refl _)) (by decide)
  have x1 : zb 90000000000 ((M.2.1 109 (9 + 4 * i + 1)).toInt * (M.2.1 109 (9 + 4 * j + 3)).toInt + 1 * (M.2.1 109 (9 + 4 * j + 1)).toInt * (M.2.1 109 (9 + 4 * i + 3)).toInt) := zb_a (zb_m (a2) d2 (Int.le_refl _)) (zb_m (zb_m (zb_c 1 (1) (by decide) (by decide)) (b2) (Int.le_refl _)) d1 (Int.le_refl _)) (by decide)
  have x2 : zb 90000000000 ((M.2.1 109 (9 + 4 * i + 2)).toInt * (M.2.1 109 (9 + 4 * j + 3)).toInt + 1 * (M.2.1 109 (9 + 4 * j + 2)).toInt * (M.2.1 109 (9 + 4 * i + 3)).toInt) := zb_a (zb_m (a3) d2 (Int.le_refl _)) (zb_m (zb_m (zb_c 1 (1) (by decide) (by decide)) (b3) (Int.le_refl _)) d1 (Int.le_refl _)) (by decide)
  simp (config := { maxSteps := 10000000, maxDischargeDepth := 30, decide := true }) only [w205_0, w205_1, w205_2, w205_3, w205_6, w205_7, w205_9, w205_10, w205_11, w205_12, w205_15, w205_16, w205_18, w205_19, w205_20, w205_21, w205_24, w205_25, w205_27, w205_28, w205_29, w205_30, w205_33, w205_34, w205_36, w205_37, w205_38, w205_39, w205_42, w205_43, w205_45, w205_46, w205_47, w205_48, w205_51, w205_52, w205_54, w205_55, w205_56, w205_57, w205_60, w205_61, w205_63, w205_64, w205_65, w205_66, w205_69, w205_70, w205_72, w205_73, w205_74, w205_77, w205_78, w205_81, w205_82, w205_84, w205_85, w205_86, w205_89, w205_90, w205_92, w205_94, w205_95, w205_97, w205_98, w205_100, w205_101, w205_103, w205_104, w205_105, w205_107, w205_109, w205_110, w205_112, w205_113, w205_115, w205_116, w205_118, w205_119, w205_120, w205_122, w205_124, w205_125, w205_127, w205_128, w205_130, w205_131, w205_133, w205_134, w205_135, w205_137, w205_139, w205_140, w205_143, w205_146, w205_147, w205_148, w205_151, w205_152, w205_154, w205_156, w205_158, w205_160, w205_162, w205_164, w205_166, w205_168, w205_169, w205_172, w205_175, w205_176, w205_178, w205_180, w205_182, w205_184, w205_186, w205_188, w205_190, w205_192, w205_195, ↓ip_ka0, ↓ip_ki1, ↓ip_ki2, ↓ip_ki3, ↓ip_kl4, ↓ip_kl6, ↓ip_kl8, ↓ip_kl10, ↓ip_kl12, ↓ip_kl14, ↓ip_kl16, ↓ip_kl18, ↓ip_ki20, ip_get_0, ip_get_s, ip_set1, ip_set2, ip_clr_s, ip_cat_i, ip_cat_a, List.set_cons_zero, List.set_cons_succ, Option.toList_some, List.nil_append, List.cons_append, List.length_nil, ↓reduceIte, Nat.reduceAdd, Nat.reduceEqDiff, Nat.zero_le, Int32.reduceToInt, gS_108 hG, hG, hi, hj, z_m1, s_197_0, s_197_1, s_197_2, s_197_3, z_w, ← Int64.ofInt_mul, ← Int64.ofInt_add]
  refine (s_188 X M _ _ _ _ _ hG (zb_w x0 (by decide)) (zb_w x1 (by decide)) (zb_w x2 (by decide)) (zb_w bde (by decide)) hde).trans ?_
  simp (config := { maxSteps := 10000000, maxDischargeDepth := 30, decide := true }) only [w205_143, w205_195, Option.toList_none, List.nil_append]
  rfl

set_option maxHeartbeats 40000000 in
set_option maxRecDepth 100000 in
theorem s_205_1 (X : ip_X) (M : ip_H) (K : Option Value → ip_H → Prop) (i j : Nat) (hi : i < 6) (hj : j < 6) (hG : ip_G M) (hF : zF (M.2.1 109 0).toInt (M.2.1 109 1).toInt (M.2.1 109 2).toInt = true) (vi : c_vo (M.2.1 109) (9 + 4 * i)) (vj : c_vo (M.2.1 109) (9 + 4 * j)) : ip_wp X 205 0 [.ref 108, .int 1, .int (Int32.ofNat i), .int (Int32.ofNat j), .retAddr 1, .retAddr 1, .retAddr 1, .retAddr 1, .retAddr 1, .retAddr 1, .retAddr 1, .retAddr 1, .retAddr 1, .retAddr 1, .retAddr 1, .retAddr 1, .retAddr 1, .retAddr 1, .retAddr 1, .retAddr 1, .retAddr 1] [] M K = K none (c_x4 M (zl (zJ 1 (M.2.1 109 0).toInt (M.2.1 109 1).toInt (M.2.1 109 2).toInt (M.2.1 109 (9 + 4 * i)).toInt (M.2.1 109 (9 + 4 * i + 1)).toInt (M.2.1 109 (9 + 4 * i + 2)).toInt (M.2.1 109 (9 + 4 * i + 3)).toInt (M.2.1 109 (9 + 4 * j)).toInt (M.2.1 109 (9 + 4 * j + 1)).toInt (M.2.1 109 (9 + 4 * j + 2)).toInt (M.2.1 109 (9 + 4 * j + 3)).toInt))) := by
  obtain ⟨a1, a2, a3, a4⟩ := vi
  obtain ⟨b1, b2, b3, b4⟩ := vj
  obtain ⟨hp, hq, hr⟩ := zF_b hF
  have d1 : zb 150 (M.2.1 109 (9 + 4 * i + 3)).toInt := ⟨by omega, a4.2⟩
  have d2 : zb 150 (M.2.1 109 (9 + 4 * j + 3)).toInt := ⟨by omega, b4.2⟩
  have hde : (M.2.1 109 (9 + 4 * i + 3)).toInt * (M.2.1 109 (9 + 4 * j + 3)).toInt ≠ 0 := by
    intro w
    rcases Int.mul_eq_zero.mp w with w | w <;> omega
  have bde : zb 22500 ((M.2.1 109 (9 + 4 * i + 3)).toInt * (M.2.1 109 (9 + 4 * j + 3)).toInt) := zb_m d1 d2 (by decide)
  have x0 : zb 90000000000 ((M.2.1 109 (9 + 4 * i)).toInt * (M.2.1 109 (9 + 4 * j + 3)).toInt + -1 * (M.2.1 109 (9 + 4 * j)).toInt * (M.2.1 109 (9 + 4 * i + 3)).toInt) := zb_a (zb_m (a1) d2 (Int.le_refl _)) (zb_m (zb_m (zb_c 1 (-1) (by decide) (by decide)) (b1) (Int.le_refl _)) d1 (Int.le_refl _)) (by decide)
  have x1 : zb 90000000000 ((M.2.1 109 (9 + 4 * i + 1)).toInt * (M.2.1 109 (9 + 4 * j + 3)).toInt + -1 * (M.2.1 109 (9 + 4 * j + 1)).toInt * (M.2.1 109 (9 + 4 * i + 3)).toInt) := zb_a (zb_m (a2) d2 (Int.le_refl _)) (zb_m (zb_m (zb_c 1 (-1) (by decide) (by decide)) (b2) (Int.le_refl _)) d1 (Int.le_refl _)) (by decide)
  have x2 : zb 90000000000 ((M.2.1 109 (9 + 4 * i + 2)).toInt * (M.2.1 109 (9 + 4 * j + 3)).toInt + -1 * (M.2.1 109 (9 + 4 * j + 2)).toInt * (M.2.1 109 (9 + 4 * i + 3)).toInt) := zb_a (zb_m (a3) d2 (Int.le_refl _)) (zb_m (zb_m (zb_c 1 (-1) (by decide) (by decide)) (b3) (Int.le_refl _)) d1 (Int.le_refl _)) (by decide)
  simp (config := { maxSteps := 10000000, maxDischargeDepth := 30, decide := true }) only [w205_0, w205_1, w205_2, w205_3, w205_6, w205_7, w205_9, w205_10, w205_11, w205_12, w205_15, w205_16, w205_18, w205_19, w205_20, w205_21, w205_24, w205_25, w205_27, w205_28, w205_29, w205_30, w205_33, w205_34, w205_36, w205_37, w205_38, w205_39, w205_42, w205_43, w205_45, w205_46, w205_47, w205_48, w205_51, w205_52, w205_54, w205_55, w205_56, w205_57, w205_60, w205_61, w205_63, w205_64, w205_65, w205_66, w205_69, w205_70, w205_72, w205_73, w205_74, w205_77, w205_78, w205_81, w205_82, w205_84, w205_85, w205_86, w205_89, w205_90, w205_92, w205_94, w205_95, w205_97, w205_98, w205_100, w205_101, w205_103, w205_104, w205_105, w205_107, w205_109, w205_110, w205_112, w205_113, w205_115, w205_116, w205_118, w205_119, w205_120, w205_122, w205_124, w205_125, w205_127, w205_128, w205_130, w205_131, w205_133, w205_134, w205_135, w205_137, w205_139, w205_140, w205_143, w205_146, w205_147, w205_148, w205_151, w205_152, w205_154, w205_156, w205_158, w205_160, w205_162, w205_164, w205_166, w205_168, w205_169, w205_172, w205_175, w205_176, w205_178, w205_180, w205_182, w205_184, w205_186, w205_188, w205_190, w205_192, w205_195, ↓ip_ka0, ↓ip_ki1, ↓ip_ki2, ↓ip_ki3, ↓ip_kl4, ↓ip_kl6, ↓ip_kl8, ↓ip_kl10, ↓ip_kl12, ↓ip_kl14, ↓ip_kl16, ↓ip_kl18, ↓ip_ki20, ip_get_0, ip_get_s, ip_set1, ip_set2, ip_clr_s, ip_cat_i, ip_cat_a, List.set_cons_zero, List.set_cons_succ, Option.toList_some, List.nil_append, List.cons_append, List.length_nil, ↓reduceIte, Nat.reduceAdd, Nat.reduceEqDiff, Nat.zero_le, Int32.reduceToInt, gS_108 hG, hG, hi, hj, z_m1, s_197_0, s_197_1, s_197_2, s_197_3, z_w, ← Int64.ofInt_mul, ← Int64.ofInt_add]
  refine (s_188 X M _ _ _ _ _ hG (zb_w x0 (by decide)) (zb_w x1 (by decide)) (zb_w x2 (by decide)) (zb_w bde (by decide)) hde).trans ?_
  simp (config := { maxSteps := 10000000, maxDischargeDepth := 30, decide := true }) only [w205_143, w205_195, Option.toList_none, List.nil_append]
  rfl

set_option maxHeartbeats 40000000 in
set_option maxRecDepth 100000 in
theorem s_205_2 (X : ip_X) (M : ip_H) (K : Option Value → ip_H → Prop) (i j : Nat) (hi : i < 6) (hj : j < 6) (hG : ip_G M) (hF : zF (M.2.1 109 0).toInt (M.2.1 109 1).toInt (M.2.1 109 2).toInt = true) (vi : c_vo (M.2.1 109) (9 + 4 * i)) (vj : c_vo (M.2.1 109) (9 + 4 * j)) : ip_wp X 205 0 [.ref 108, .int 2, .int (Int32.ofNat i), .int (Int32.ofNat j), .retAddr 1, .retAddr 1, .retAddr 1, .retAddr 1, .retAddr 1, .retAddr 1, .retAddr 1, .retAddr 1, .retAddr 1, .retAddr 1, .retAddr 1, .retAddr 1, .retAddr 1, .retAddr 1, .retAddr 1, .retAddr 1, .retAddr 1] [] M K = K none (c_x4 M (zl (zJ 2 (M.2.1 109 0).toInt (M.2.1 109 1).toInt (M.2.1 109 2).toInt (M.2.1 109 (9 + 4 * i)).toInt (M.2.1 109 (9 + 4 * i + 1)).toInt (M.2.1 109 (9 + 4 * i + 2)).toInt (M.2.1 109 (9 + 4 * i + 3)).toInt (M.2.1 109 (9 + 4 * j)).toInt (M.2.1 109 (9 + 4 * j + 1)).toInt (M.2.1 109 (9 + 4 * j + 2)).toInt (M.2.1 109 (9 + 4 * j + 3)).toInt))) := by
  obtain ⟨a1, a2, a3, a4⟩ := vi
  obtain ⟨b1, b2, b3, b4⟩ := vj
  obtain ⟨hp, hq, hr⟩ := zF_b hF
  have d1 : zb 150 (M.2.1 109 (9 + 4 * i + 3)).toInt := ⟨by omega, a4.2⟩
  have d2 : zb 150 (M.2.1 109 (9 + 4 * j + 3)).toInt := ⟨by omega, b4.2⟩
  have hde : (M.2.1 109 (9 + 4 * i + 3)).toInt * (M.2.1 109 (9 + 4 * j + 3)).toInt ≠ 0 := by
    intro w
    rcases Int.mul_eq_zero.mp w with w | w <;> omega
  have bde : zb 22500 ((M.2.1 109 (9 + 4 * i + 3)).toInt * (M.2.1 109 (9 + 4 * j + 3)).toInt) := zb_m d1 d2 (by decide)
  have k1 : zb 4000000000 (M.2.1 109 (9 + 4 * j)).toInt := zb_w b1 (by decide)
  have k2 : zb 30000000 (M.2.1 109 (9 + 4 * j + 1)).toInt := zb_w b2 (by decide)
  have k3 : zb 30000000 (M.2.1 109 (9 + 4 * j + 2)).toInt := zb_w b3 (by decide)
  have l1 : zb 20000 (M.2.1 109 (9 + 4 * i)).toInt := zb_w a1 (by decide)
  have l2 : zb 200 (M.2.1 109 (9 + 4 * i + 1)).toInt := zb_w a2 (by decide)
  have l3 : zb 200 (M.2.1 109 (9 + 4 * i + 2)).toInt := zb_w a3 (by decide)
  simp (config := { maxSteps := 10000000, maxDischargeDepth := 30, decide := true }) only [w205_0, w205_1, w205_2, w205_3, w205_6, w205_7, w205_9, w205_10, w205_11, w205_12, w205_15, w205_16, w205_18, w205_19, w205_20, w205_21, w205_24, w205_25, w205_27, w205_28, w205_29, w205_30, w205_33, w205_34, w205_36, w205_37, w205_38, w205_39, w205_42, w205_43, w205_45, w205_46, w205_47, w205_48, w205_51, w205_52, w205_54, w205_55, w205_56, w205_57, w205_60, w205_61, w205_63, w205_64, w205_65, w205_66, w205_69, w205_70, w205_72, w205_73, w205_74, w205_77, w205_78, w205_81, w205_82, w205_84, w205_85, w205_86, w205_89, w205_90, w205_92, w205_94, w205_95, w205_97, w205_98, w205_100, w205_101, w205_103, w205_104, w205_105, w205_107, w205_109, w205_110, w205_112, w205_113, w205_115, w205_116, w205_118, w205_119, w205_120, w205_122, w205_124, w205_125, w205_127, w205_128, w205_130, w205_131, w205_133, w205_134, w205_135, w205_137, w205_139, w205_140, w205_143, w205_146, w205_147, w205_148, w205_151, w205_152, w205_154, w205_156, w205_158, w205_160, w205_162, w205_164, w205_166, w205_168, w205_169, w205_172, w205_175, w205_176, w205_178, w205_180, w205_182, w205_184, w205_186, w205_188, w205_190, w205_192, w205_195, ↓ip_ka0, ↓ip_ki1, ↓ip_ki2, ↓ip_ki3, ↓ip_kl4, ↓ip_kl6, ↓ip_kl8, ↓ip_kl10, ↓ip_kl12, ↓ip_kl14, ↓ip_kl16, ↓ip_kl18, ip_get_0, ip_get_s, ip_set1, ip_set2, ip_clr_s, ip_cat_i, ip_cat_a, List.set_cons_zero, List.set_cons_succ, Option.toList_some, List.nil_append, List.cons_append, List.length_nil, ↓reduceIte, Nat.reduceAdd, Nat.reduceEqDiff, Nat.zero_le, gS_108 hG, hG, hi, hj, s_197_0, s_197_1, s_197_2, s_197_3, z_w, ← Int64.ofInt_mul]
  refine (s_191 X M _ _ _ _ _ _ _ _ hG (zb_w (zA_b hp hq hr l1 l2 l3 k1 k2 k3) (by decide)) (zb_w (zB_b hp hq hr l1 l2 l3 k1 k2 k3) (by decide)) (zb_w (zC_b hp hq hr l1 l2 l3 k1 k2 k3) (by decide)) (zb_w bde (by decide)) hde).trans ?_
  simp (config := { maxSteps := 10000000, maxDischargeDepth := 30, decide := true }) only [w205_172, w205_195, Option.toList_none, List.nil_append]
  rfl

set_option maxHeartbeats 40000000 in
set_option maxRecDepth 100000 in
theorem s_205_3 (X : ip_X) (M : ip_H) (K : Option Value → ip_H → Prop) (i j : Nat) (hi : i < 6) (hj : j < 6) (hG : ip_G M) (hF : zF (M.2.1 109 0).toInt (M.2.1 109 1).toInt (M.2.1 109 2).toInt = true) (vi : c_vo (M.2.1 109) (9 + 4 * i)) (vj : c_vo (M.2.1 109) (9 + 4 * j)) (h0 : ¬ ((M.2.1 109 (9 + 4 * j)).toInt = 0 ∧ (M.2.1 109 (9 + 4 * j + 1)).toInt = 0 ∧ (M.2.1 109 (9 + 4 * j + 2)).toInt = 0)) : ip_wp X 205 0 [.ref 108, .int 3, .int (Int32.ofNat i), .int (Int32.ofNat j), .retAddr 1, .retAddr 1, .retAddr 1, .retAddr 1, .retAddr 1, .retAddr 1, .retAddr 1, .retAddr 1, .retAddr 1, .retAddr 1, .retAddr 1, .retAddr 1, .retAddr 1, .retAddr 1, .retAddr 1, .retAddr 1, .retAddr 1] [] M K = K none (c_x4 M (zl (zJ 3 (M.2.1 109 0).toInt (M.2.1 109 1).toInt (M.2.1 109 2).toInt (M.2.1 109 (9 + 4 * i)).toInt (M.2.1 109 (9 + 4 * i + 1)).toInt (M.2.1 109 (9 + 4 * i + 2)).toInt (M.2.1 109 (9 + 4 * i + 3)).toInt (M.2.1 109 (9 + 4 * j)).toInt (M.2.1 109 (9 + 4 * j + 1)).toInt (M.2.1 109 (9 + 4 * j + 2)).toInt (M.2.1 109 (9 + 4 * j + 3)).toInt))) := by
  obtain ⟨a1, a2, a3, a4⟩ := vi
  obtain ⟨b1, b2, b3, b4⟩ := vj
  obtain ⟨hp, hq, hr⟩ := zF_b hF
  have d1 : zb 150 (M.2.1 109 (9 + 4 * i + 3)).toInt := ⟨by omega, a4.2⟩
  have d2 : zb 150 (M.2.1 109 (9 + 4 * j + 3)).toInt := ⟨by omega, b4.2⟩
  have hde : (M.2.1 109 (9 + 4 * i + 3)).toInt * (M.2.1 109 (9 + 4 * j + 3)).toInt ≠ 0 := by
    intro w
    rcases Int.mul_eq_zero.mp w with w | w <;> omega
  have bde : zb 22500 ((M.2.1 109 (9 + 4 * i + 3)).toInt * (M.2.1 109 (9 + 4 * j + 3)).toInt) := zb_m d1 d2 (by decide)
  simp (config := { maxSteps := 10000000, maxDischargeDepth := 30, decide := true }) only [w205_0, w205_1, w205_2, w205_3, w205_6, w205_7, w205_9, w205_10, w205_11, w205_12, w205_15, w205_16, w205_18, w205_19, w205_20, w205_21, w205_24, w205_25, w205_27, w205_28, w205_29, w205_30, w205_33, w205_34, w205_36, w205_37, w205_38, w205_39, w205_42, w205_43, w205_45, w205_46, w205_47, w205_48, w205_51, w205_52, w205_54, w205_55, w205_56, w205_57, w205_60, w205_61, w205_63, w205_64, w205_65, w205_66, w205_69, w205_70, w205_72, w205_73, w205_74, w205_77, w205_78, w205_81, w205_82, w205_84, w205_85, w205_86, w205_89, w205_90, w205_92, w205_94, w205_95, w205_97, w205_98, w205_100, w205_101, w205_103, w205_104, w205_105, w205_107, w205_109, w205_110, w205_112, w205_113, w205_115, w205_116, w205_118, w205_119, w205_120, w205_122, w205_124, w205_125, w205_127, w205_128, w205_130, w205_131, w205_133, w205_134, w205_135, w205_137, w205_139, w205_140, w205_143, w205_146, w205_147, w205_148, w205_151, w205_152, w205_154, w205_156, w205_158, w205_160, w205_162, w205_164, w205_166, w205_168, w205_169, w205_172, w205_175, w205_176, w205_178, w205_180, w205_182, w205_184, w205_186, w205_188, w205_190, w205_192, w205_195, ↓ip_ka0, ↓ip_ki1, ↓ip_ki2, ↓ip_ki3, ↓ip_kl4, ↓ip_kl6, ↓ip_kl8, ↓ip_kl10, ↓ip_kl12, ↓ip_kl14, ↓ip_kl16, ↓ip_kl18, ip_get_0, ip_get_s, ip_set1, ip_set2, ip_clr_s, ip_cat_i, ip_cat_a, List.set_cons_zero, List.set_cons_succ, Option.toList_some, List.nil_append, List.cons_append, List.length_nil, ↓reduceIte, Nat.reduceAdd, Nat.reduceEqDiff, Nat.zero_le, gS_108 hG, hG, hi, hj, s_197_0, s_197_1, s_197_2, s_197_3, z_w]
  refine (s_192 X M _ _ _ _ _ _ _ _ _ hG hF (zb_w a1 (by decide)) (zb_w a2 (by decide)) (zb_w a3 (by decide)) a4 b4 (zb_w b1 (by decide)) (zb_w b2 (by decide)) (zb_w b3 (by decide)) h0).trans ?_
  simp (config := { maxSteps := 10000000, maxDischargeDepth := 30, decide := true }) only [w205_195, Option.toList_none, List.nil_append]
  rfl

set_option maxHeartbeats 40000000 in
set_option maxRecDepth 100000 in
theorem s_206 (X : ip_X) (M : ip_H) (K : Option Value → ip_H → Prop) (i : Nat) (hi : i < 6) (hG : ip_G M) : ip_wp X 206 0 [.ref 108, .int (Int32.ofNat i)] [] M K = K (some (.int (ip_b (decide (M.2.1 109 (9 + 4 * i) = 0) && (decide (M.2.1 109 (9 + 4 * i + 1) = 0) && decide (M.2.1 109 (9 + 4 * i + 2) = 0)))))) M := by
  have e0 : 9 + 4 * i + 0 = 9 + 4 * i := rfl
  by_cases h1 : M.2.1 109 (9 + 4 * i) = 0
  · by_cases h2 : M.2.1 109 (9 + 4 * i + 1) = 0
    · by_cases h3 : M.2.1 109 (9 + 4 * i + 2) = 0
      · simp (config := { maxSteps := 10000000, maxDischargeDepth := 30, decide := true }) only [w206_0, w206_1, w206_2, w206_3, w206_6, w206_9, w206_10, w206_11, w206_12, w206_15, w206_18, w206_19, w206_20, w206_21, w206_24, w206_27, w206_28, w206_31, w206_32, ↓ip_ka0, ↓ip_ki1, Option.toList_some, List.nil_append, List.cons_append, List.length_nil, ↓reduceIte, Nat.zero_le, or_true, ip_b_t, gS_108 hG, hG, hi, Nat.add_zero, s_197_0, s_197_1, s_197_2, h1, h2, h3, decide_true, Bool.and_true]
      · simp (config := { maxSteps := 10000000, maxDischargeDepth := 30, decide := true }) only [w206_0, w206_1, w206_2, w206_3, w206_6, w206_9, w206_10, w206_11, w206_12, w206_15, w206_18, w206_19, w206_20, w206_21, w206_24, w206_27, w206_28, w206_31, w206_32, ↓ip_ka0, ↓ip_ki1, Option.toList_some, List.nil_append, List.cons_append, List.length_nil, ↓reduceIte, Nat.zero_le, or_false, ip_b_f, gS_108 hG, hG, hi, Nat.add_zero, s_197_0, s_197_1, s_197_2, h1, h2, h3, decide_true, decide_false, Bool.and_false]
    · simp (config := { maxSteps := 10000000, maxDischargeDepth := 30, decide := true }) only [w206_0, w206_1, w206_2, w206_3, w206_6, w206_9, w206_10, w206_11, w206_12, w206_15, w206_18, w206_19, w206_20, w206_21, w206_24, w206_27, w206_28, w206_31, w206_32, ↓ip_ka0, ↓ip_ki1, Option.toList_some, List.nil_append, List.cons_append, List.length_nil, ↓reduceIte, Nat.zero_le, or_false, ip_b_f, gS_108 hG, hG, hi, Nat.add_zero, s_197_0, s_197_1, h1, h2, decide_true, decide_false, Bool.and_false, Bool.false_and]
  · simp (config := { maxSteps := 10000000, maxDischargeDepth := 30, decide := true }) only [w206_0, w206_1, w206_2, w206_3, w206_6, w206_9, w206_10, w206_11, w206_12, w206_15, w206_18, w206_19, w206_20, w206_21, w206_24, w206_27, w206_28, w206_31, w206_32, ↓ip_ka0, ↓ip_ki1, Option.toList_some, List.nil_append, List.cons_append, List.length_nil, ↓reduceIte, Nat.zero_le, or_false, ip_b_f, gS_108 hG, hG, hi, Nat.add_zero, s_197_0, h1, decide_false, Bool.false_and]

def nought (f : Nat → Int32) (s : Nat) : Prop := (f s).toInt = 0 ∧ (f (s + 1)).toInt = 0 ∧ (f (s + 2)).toInt = 0
theorem nought_b {f : Nat → Int32} {s : Nat} : ((decide (f s = 0) && (decide (f (s + 1) = 0) && decide (f (s + 2) = 0))) = true) = nought f s := by
  apply propext
  unfold nought
  rw [Bool.and_eq_true, Bool.and_eq_true, decide_eq_true_eq, decide_eq_true_eq, decide_eq_true_eq, ← Int32.toInt_inj, ← Int32.toInt_inj, ← Int32.toInt_inj]
  rfl
/-- lowest terms are no greater -/
theorem zl_b {z : Int × Int × Int × Int} {n : Int} (h1 : zb n z.1) (h2 : zb n z.2.1) (h3 : zb n z.2.2.1) (h4 : zb n z.2.2.2) : zb n (zl z).1 ∧ zb n (zl z).2.1 ∧ zb n (zl z).2.2.1 ∧ zb n (zl z).2.2.2 := ⟨z_tdiv_b h1, z_tdiv_b h2, z_tdiv_b h3, z_tdiv_b h4⟩
theorem zQ_b {p q r a b c d f g h e : Int} (hF : zF p q r = true) (ha : zb 20000 a) (hb : zb 200 b) (hc : zb 200 c) (hd : 1 ≤ d ∧ d ≤ 150) (he : 1 ≤ e ∧ e ≤ 150) (hf : zb 20000 f) (hg : zb 200 g) (hh : zb 200 h) (h0 : ¬ (f = 0 ∧ g = 0 ∧ h = 0)) : zb 13500000000000000 (zQ p q r a b c d f g h e).1 ∧ zb 13500000000000000 (zQ p q r a b c d f g h e).2.1 ∧ zb 13500000000000000 (zQ p q r a b c d f g h e).2.2.1 ∧ zb 13500000000000000 (zQ p q r a b c d f g h e).2.2.2 ∧ (zQ p q r a b c d f g h e).2.2.2 ≠ 0 := by
  obtain ⟨hp, hq, hr⟩ := zF_b hF
  have hN0 := zN_ne hF h0
  have bU := z_tdiv_b (y := zg (zU p q r f g h) (zV p q r f g h) (zW p q r f g h) (zN p q r f g h)) (zU_b hp hq hr hf hg hh)
  have bV := z_tdiv_b (y := zg (zU p q r f g h) (zV p q r f g h) (zW p q r f g h) (zN p q r f g h)) (zV_b hp hq hr hf hg hh)
  have bW := z_tdiv_b (y := zg (zU p q r f g h) (zV p q r f g h) (zW p q r f g h) (zN p q r f g h)) (zW_b hp hq hr hf hg hh)
  have bN := z_tdiv_b (y := zg (zU p q r f g h) (zV p q r f g h) (zW p q r f g h) (zN p q r f g h)) (zN_b hp hq hr hf hg hh)
  have hx1 := zg_d (a := zU p q r f g h) (b := zV p q r f g h) (c := zW p q r f g h) hN0
  unfold zQ
  dsimp only
  generalize (zU p q r f g h).tdiv (zg (zU p q r f g h) (zV p q r f g h) (zW p q r f g h) (zN p q r f g h)) = k at *
  generalize (zV p q r f g h).tdiv (zg (zU p q r f g h) (zV p q r f g h) (zW p q r f g h) (zN p q r f g h)) = l at *
  generalize (zW p q r f g h).tdiv (zg (zU p q r f g h) (zV p q r f g h) (zW p q r f g h) (zN p q r f g h)) = m at *
  generalize (zN p q r f g h).tdiv (zg (zU p q r f g h) (zV p q r f g h) (zW p q r f g h) (zN p q r f g h)) = x at *
  have he' : zb 150 e := ⟨by omega, by omega⟩
  have hd' : zb 150 d := ⟨by omega, by omega⟩
  have hy : zb 150 (e.tdiv (Int.gcd e x : Nat)) := z_tdiv_b he'
  have hz : zb 10000000000000 (x.tdiv (Int.gcd e x : Nat)) := z_tdiv_b bN
  have hx2 : 1 ≤ x.tdiv (Int.gcd e x : Nat) := by
    obtain ⟨t, ht⟩ := Int.gcd_dvd_right e x
    have hgp : 0 < Int.gcd e x := Int.gcd_pos_of_ne_zero_left _ (by omega)
    have hg0 : ((Int.gcd e x : Nat) : Int) ≠ 0 := by omega
    generalize Int.gcd e x = G at *
    rw [ht, Int.mul_tdiv_cancel_left _ hg0]
    rcases Int.lt_or_le 0 t with w | w
    · omega
    · have := Int.mul_le_mul_of_nonneg_left w (show 0 ≤ (G : Int) by omega)
      omega
  refine ⟨zb_m (zA_b hp hq hr ha hb hc bU bV bW) hy (by decide), zb_m (zB_b hp hq hr ha hb hc bU bV bW) hy (by decide), zb_m (zC_b hp hq hr ha hb hc bU bV bW) hy (by decide), zb_m hd' hz (by decide), ?_⟩
  intro w
  rcases Int.mul_eq_zero.mp w with w | w <;> omega
theorem zJ_b {f : Nat → Int32} {p q r : Int} {n s t : Nat} (hn : n < 4) (hF : zF p q r = true) (vi : c_vo f s) (vj : c_vo f t) (h0 : n = 3 → ¬ nought f t) (z : Int × Int × Int × Int) (hz : z = zJ n p q r (f s).toInt (f (s + 1)).toInt (f (s + 2)).toInt (f (s + 3)).toInt (f t).toInt (f (t + 1)).toInt (f (t + 2)).toInt (f (t + 3)).toInt) : zb 13500000000000000 z.1 ∧ zb 13500000000000000 z.2.1 ∧ zb 13500000000000000 z.2.2.1 ∧ zb 13500000000000000 z.2.2.2 ∧ z.2.2.2 ≠ 0 := by
  obtain ⟨a1, a2, a3, a4⟩ := vi
  obtain ⟨b1, b2, b3, b4⟩ := vj
  obtain ⟨hp, hq, hr⟩ := zF_b hF
  have d1 : zb 150 (f (s + 3)).toInt := ⟨by omega, a4.2⟩
  have d2 : zb 150 (f (t + 3)).toInt := ⟨by omega, b4.2⟩
  have hde : (f (s + 3)).toInt * (f (t + 3)).toInt ≠ 0 := by
    intro w
    rcases Int.mul_eq_zero.mp w with w | w <;> omega
  have bde : zb 13500000000000000 ((f (s + 3)).toInt * (f (t + 3)).toInt) := zb_m d1 d2 (by decide)
  have hn' : n = 0 ∨ n = 1 ∨ n = 2 ∨ n = 3 := by omega
  have pl : ∀ {x y z w : Int} (k : Int), zb 1 k → zb 150 x → zb 150 y → zb 150 z → zb 150 w → zb 13500000000000000 (x * y + k * z * w) := fun k h0 h1 h2 h3 h4 => zb_a (zb_m h1 h2 (Int.le_refl _)) (zb_m (zb_m h0 h3 (Int.le_refl _)) h4 (Int.le_refl _)) (by decide)
  subst hz
  rcases hn' with rfl | rfl | rfl | rfl
  · exact ⟨pl 1 (zb_c 1 1 (by decide) (by decide)) a1 d2 b1 d1, pl 1 (zb_c 1 1 (by decide) (by decide)) a2 d2 b2 d1, pl 1 (zb_c 1 1 (by decide) (by decide)) a3 d2 b3 d1, bde, hde⟩
  · exact ⟨pl (-1) (zb_c 1 (-1) (by decide) (by decide)) a1 d2 b1 d1, pl (-1) (zb_c 1 (-1) (by decide) (by decide)) a2 d2 b2 d1, pl (-1) (zb_c 1 (-1) (by decide) (by decide)) a3 d2 b3 d1, bde, hde⟩
  · have k1 : zb 4000000000 (f t).toInt := zb_w b1 (by decide)
    have k2 : zb 30000000 (f (t + 1)).toInt := zb_w b2 (by decide)
    have k3 : zb 30000000 (f (t + 2)).toInt := zb_w b3 (by decide)
    have l1 : zb 20000 (f s).toInt := zb_w a1 (by decide)
    have l2 : zb 200 (f (s + 1)).toInt := zb_w a2 (by decide)
    have l3 : zb 200 (f (s + 2)).toInt := zb_w a3 (by decide)
    exact ⟨zb_w (zA_b hp hq hr l1 l2 l3 k1 k2 k3) (by decide), zb_w (zB_b hp hq hr l1 l2 l3 k1 k2 k3) (by decide), zb_w (zC_b hp hq hr l1 l2 l3 k1 k2 k3) (by decide), bde, hde⟩
  · exact zQ_b hF (zb_w a1 (by decide)) (zb_w a2 (by decide)) (zb_w a3 (by decide)) a4 b4 (zb_w b1 (by decide)) (zb_w b2 (by decide)) (zb_w b3 (by decide)) (h0 rfl)
/-- it can be a value -/
def zcan (z : Int × Int × Int × Int) : Bool := l_sm (Int64.ofInt z.1) && (l_sm (Int64.ofInt z.2.1) && (l_sm (Int64.ofInt z.2.2.1) && !decide (150 < Int64.ofInt z.2.2.2)))
theorem zcan_z {z : Int × Int × Int × Int} (h1 : zb 9223372036854775807 z.1) (h2 : zb 9223372036854775807 z.2.1) (h3 : zb 9223372036854775807 z.2.2.1) (h4 : zb 9223372036854775807 z.2.2.2) : (zcan z = true) = (zb 150 z.1 ∧ zb 150 z.2.1 ∧ zb 150 z.2.2.1 ∧ z.2.2.2 ≤ 150) := by
  apply propext
  unfold zcan
  have e := z_lt (a := 150) ⟨by decide, by decide⟩ h4
  have f2 : (150 : Int64) = Int64.ofInt 150 := rfl
  rw [Bool.and_eq_true, Bool.and_eq_true, Bool.and_eq_true, l_sm_z h1, l_sm_z h2, l_sm_z h3, Bool.not_eq_true', decide_eq_false_iff_not, f2, e, Int.not_lt]
theorem i4 {x : Int32} (h : i_in x 0 3 = true) : ∃ n : Nat, n < 4 ∧ x = Int32.ofNat n := by
  rw [i_in_z] at h
  have e0 : (0 : Int32).toInt = 0 := rfl
  have e5 : (3 : Int32).toInt = 3 := rfl
  have hx := ip_nat x (by omega)
  refine ⟨x.toNatClampNeg, ?_, hx⟩
  have e : x.toNatClampNeg = x.toInt.toNat := rfl
  omega
def c_f4 (p q r : Int) (z : Int × Int × Int × Int) : Int32 := z_fl p q r z.1 z.2.1 z.2.2.1 z.2.2.2
def c_l4 (M : ip_H) (k : Nat) (z : Int × Int × Int × Int) : ip_H := c_ly M k (Int32.ofInt z.1) (Int32.ofInt z.2.1) (Int32.ofInt z.2.2.1) (Int32.ofInt z.2.2.2)
end
noncomputable section
-- PART 67.ops3
-- THE REFERENCE: begin; what a step is laid out from
def c_fl (f : Nat → Int32) (p q r : Int) (s : Nat) : Int32 := z_fl p q r (f s).toInt (f (s + 1)).toInt (f (s + 2)).toInt (f (s + 3)).toInt
def c_sg (f : Nat → Int32) (p q r : Int) (s : Nat) : Int32 := z_sg (zN p q r (f s).toInt (f (s + 1)).toInt (f (s + 2)).toInt)
/-- a course can begin with these -/
def c_cb (f : Nat → Int32) (p q r : Int) (s t : Nat) : Bool := decide (0 < c_sg f p q r s) && (decide (0 < c_sg f p q r t) && (!decide (99 < c_fl f p q r s) && !decide (99 < c_fl f p q r t)))
def c_bg (M : ip_H) (i j : Nat) (w : Int32) : ip_H := (ip_uL (ip_uL (ip_uL (ip_uL (ip_uL (ip_uL (ip_uL (ip_uL (ip_uL (ip_uI (ip_uI (ip_uI (ip_uI (ip_uI (ip_uI (ip_uI (ip_uI (ip_uI (ip_uI (ip_uI (ip_uI (ip_uI M 109 153 (M.2.1 109 (9 + 4 * i))) 109 157 (M.2.1 109 (9 + 4 * j))) 109 154 (M.2.1 109 (9 + 4 * i + 1))) 109 158 (M.2.1 109 (9 + 4 * j + 1))) 109 155 (M.2.1 109 (9 + 4 * i + 2))) 109 159 (M.2.1 109 (9 + 4 * j + 2))) 109 156 (M.2.1 109 (9 + 4 * i + 3))) 109 160 (M.2.1 109 (9 + 4 * j + 3))) 109 3 1) 109 4 w) 109 5 0) 109 6 (-1)) 109 7 0) 110 0 1) 110 1 0) 110 2 0) 110 3 0) 110 4 1) 110 5 0) 110 6 0) 110 7 0) 110 8 1)
-- the order of writes
theorem nf_IL (M : ip_H) (k j k2 i : Nat) (v : Int64) (w : Int32) : ip_uI (ip_uL M k j v) k2 i w = ip_uL (ip_uI M k2 i w) k j v := rfl
theorem nf_II (M : ip_H) (k j i : Nat) (v w : Int32) (h : i < j) : ip_uI (ip_uI M k j v) k i w = ip_uI (ip_uI M k i w) k j v := by
  have e : (fun a b => if a = k ∧ b = i then w else if a = k ∧ b = j then v else M.2.1 a b) = (fun a b => if a = k ∧ b = j then v else if a = k ∧ b = i then w else M.2.1 a b) := by
    funext a b
    by_cases h1 : a = k ∧ b = i
    · rw [if_pos h1, if_neg (by omega), if_pos h1]
    · rw [if_neg h1]
      by_cases h2 : a = k ∧ b = j
      · rw [if_pos h2, if_pos h2]
      · rw [if_neg h2, if_neg h2, if_neg h1]
  exact Prod.ext rfl (Prod.ext e rfl)
theorem nf_LL (M : ip_H) (k j i : Nat) (v w : Int64) (h : i < j) : ip_uL (ip_uL M k j v) k i w = ip_uL (ip_uL M k i w) k j v := by
  have e : (fun a b => if a = k ∧ b = i then w else if a = k ∧ b = j then v else M.2.2.1 a b) = (fun a b => if a = k ∧ b = j then v else if a = k ∧ b = i then w else M.2.2.1 a b) := by
    funext a b
    by_cases h1 : a = k ∧ b = i
    · rw [if_pos h1, if_neg (by omega), if_pos h1]
    · rw [if_neg h1]
      by_cases h2 : a = k ∧ b = j
      · rw [if_pos h2, if_pos h2]
      · rw [if_neg h2, if_neg h2, if_neg h1]
  exact Prod.ext rfl (Prod.ext rfl (Prod.ext e rfl))
-- what a step is laid out from, by the row
def r_k (N : Nat → Int32) : Nat := (N 5).toNatClampNeg
def r_v (N : Nat → Int32) (s : Nat) : Int := (N s).toInt
def r_fu (N : Nat → Int32) : Int32 := c_fl N (r_v N 0) (r_v N 1) (r_v N 2) (153 + 8 * r_k N)
def r_fv (N : Nat → Int32) : Int32 := c_fl N (r_v N 0) (r_v N 1) (r_v N 2) (153 + 8 * r_k N + 4)
def r_f0 (N : Nat → Int32) : Int × Int × Int × Int := (r_v N (153 + 8 * r_k N) - (r_fu N).toInt * r_v N (153 + 8 * r_k N + 3), r_v N (153 + 8 * r_k N + 1), r_v N (153 + 8 * r_k N + 2), r_v N (153 + 8 * r_k N + 3))
def r_g0 (N : Nat → Int32) : Int × Int × Int × Int := (r_v N (153 + 8 * r_k N + 4) - (r_fv N).toInt * r_v N (153 + 8 * r_k N + 7), r_v N (153 + 8 * r_k N + 5), r_v N (153 + 8 * r_k N + 6), r_v N (153 + 8 * r_k N + 7))
/-- f less g -/
def r_lt (p q r : Int) (f g : Int × Int × Int × Int) : Bool := decide (z_sg (zN p q r (f.1 * g.2.2.2 - g.1 * f.2.2.2) (f.2.1 * g.2.2.2 - g.2.1 * f.2.2.2) (f.2.2.1 * g.2.2.2 - g.2.2.1 * f.2.2.2)) < 0)
def r_t (N : Nat → Int32) : Bool := decide (N 4 = 1) && r_lt (r_v N 0) (r_v N 1) (r_v N 2) (r_f0 N) (r_g0 N)
def r_f (N : Nat → Int32) : Int × Int × Int × Int := if r_t N = true then r_g0 N else r_f0 N
def r_g (N : Nat → Int32) : Int × Int × Int × Int := if r_t N = true then r_f0 N else r_g0 N
def c_pt (M : ip_H) (fu fv t : Int32) (f g : Int × Int × Int × Int) : ip_H := ip_uL (ip_uL (ip_uL (ip_uL (ip_uL (ip_uL (ip_uL (ip_uL (ip_uI (ip_uI (ip_uI M 108 17 fu) 108 18 fv) 108 27 t) 108 19 (Int64.ofInt f.1)) 108 20 (Int64.ofInt f.2.1)) 108 21 (Int64.ofInt f.2.2.1)) 108 22 (Int64.ofInt f.2.2.2)) 108 23 (Int64.ofInt g.1)) 108 24 (Int64.ofInt g.2.1)) 108 25 (Int64.ofInt g.2.2.1)) 108 26 (Int64.ofInt g.2.2.2)
def c_p0 (M : ip_H) (fu fv : Int32) (f g : Int × Int × Int × Int) : ip_H := ip_uL (ip_uL (ip_uL (ip_uL (ip_uL (ip_uL (ip_uL (ip_uL (ip_uI (ip_uI M 108 17 fu) 108 18 fv) 108 19 (Int64.ofInt f.1)) 108 20 (Int64.ofInt f.2.1)) 108 21 (Int64.ofInt f.2.2.1)) 108 22 (Int64.ofInt f.2.2.2)) 108 23 (Int64.ofInt g.1)) 108 24 (Int64.ofInt g.2.1)) 108 25 (Int64.ofInt g.2.2.1)) 108 26 (Int64.ofInt g.2.2.2)
theorem c_p0_sh (M : ip_H) (fu fv : Int32) (f g : Int × Int × Int × Int) (k : Nat) : ip_sh (c_p0 M fu fv f g) k = ip_sh M k := rfl
theorem gG_p0 (M : ip_H) (fu fv : Int32) (f g : Int × Int × Int × Int) (h : ip_G M) : ip_G (c_p0 M fu fv f g) := gG_uL _ _ _ _ (gG_uL _ _ _ _ (gG_uL _ _ _ _ (gG_uL _ _ _ _ (gG_uL _ _ _ _ (gG_uL _ _ _ _ (gG_uL _ _ _ _ (gG_uL _ _ _ _ (gG_uI _ _ _ _ (gG_uI _ _ _ _ h)))))))))
theorem c_p0_R (M : ip_H) (fu fv : Int32) (f g : Int × Int × Int × Int) : (c_p0 M fu fv f g).2.2.2 = M.2.2.2 := rfl
theorem c_p0_I (M : ip_H) (fu fv : Int32) (f g : Int × Int × Int × Int) (a b : Nat) : (c_p0 M fu fv f g).2.1 a b = if a = 108 ∧ b = 18 then fv else if a = 108 ∧ b = 17 then fu else M.2.1 a b := rfl
theorem c_p0_L (M : ip_H) (fu fv : Int32) (f g : Int × Int × Int × Int) (a b : Nat) : (c_p0 M fu fv f g).2.2.1 a b = if a = 108 ∧ b = 26 then Int64.ofInt g.2.2.2 else if a = 108 ∧ b = 25 then Int64.ofInt g.2.2.1 else if a = 108 ∧ b = 24 then Int64.ofInt g.2.1 else if a = 108 ∧ b = 23 then Int64.ofInt g.1 else if a = 108 ∧ b = 22 then Int64.ofInt f.2.2.2 else if a = 108 ∧ b = 21 then Int64.ofInt f.2.2.1 else if a = 108 ∧ b = 20 then Int64.ofInt f.2.1 else if a = 108 ∧ b = 19 then Int64.ofInt f.1 else M.2.2.1 a b := rfl
theorem ip_uI_row (M : ip_H) (k j : Nat) (v : Int32) (a : Nat) (h : ¬ a = k) : (ip_uI M k j v).2.1 a = M.2.1 a := by
  funext b
  rw [ip_uI_I, if_neg (fun q => h q.1)]
def c_pm (M : ip_H) : ip_H := c_pt M (r_fu (M.2.1 109)) (r_fv (M.2.1 109)) (ip_b (r_t (M.2.1 109))) (r_f (M.2.1 109)) (r_g (M.2.1 109))
theorem c_pt_1 (M : ip_H) (fu fv t : Int32) (f g : Int × Int × Int × Int) : (c_pt M fu fv t f g).1 = M.1 := rfl
theorem c_pt_R (M : ip_H) (fu fv t : Int32) (f g : Int × Int × Int × Int) : (c_pt M fu fv t f g).2.2.2 = M.2.2.2 := rfl
theorem c_pt_sh (M : ip_H) (fu fv t : Int32) (f g : Int × Int × Int × Int) (k : Nat) : ip_sh (c_pt M fu fv t f g) k = ip_sh M k := rfl
theorem gG_pt (M : ip_H) (fu fv t : Int32) (f g : Int × Int × Int × Int) (h : ip_G M) : ip_G (c_pt M fu fv t f g) := gG_uL _ _ _ _ (gG_uL _ _ _ _ (gG_uL _ _ _ _ (gG_uL _ _ _ _ (gG_uL _ _ _ _ (gG_uL _ _ _ _ (gG_uL _ _ _ _ (gG_uL _ _ _ _ (gG_uI _ _ _ _ (gG_uI _ _ _ _ (gG_uI _ _ _ _ h))))))))))
theorem c_pt_I (M : ip_H) (fu fv t : Int32) (f g : Int × Int × Int × Int) (a b : Nat) : (c_pt M fu fv t f g).2.1 a b = if a = 108 ∧ b = 27 then t else if a = 108 ∧ b = 18 then fv else if a = 108 ∧ b = 17 then fu else M.2.1 a b := rfl
theorem c_pt_L (M : ip_H) (fu fv t : Int32) (f g : Int × Int × Int × Int) (a b : Nat) : (c_pt M fu fv t f g).2.2.1 a b = if a = 108 ∧ b = 26 then Int64.ofInt g.2.2.2 else if a = 108 ∧ b = 25 then Int64.ofInt g.2.2.1 else if a = 108 ∧ b = 24 then Int64.ofInt g.2.1 else if a = 108 ∧ b = 23 then Int64.ofInt g.1 else if a = 108 ∧ b = 22 then Int64.ofInt f.2.2.2 else if a = 108 ∧ b = 21 then Int64.ofInt f.2.2.1 else if a = 108 ∧ b = 20 then Int64.ofInt f.2.1 else if a = 108 ∧ b = 19 then Int64.ofInt f.1 else M.2.2.1 a b := rfl
theorem c_pt_row (M : ip_H) (fu fv t : Int32) (f g : Int × Int × Int × Int) : (c_pt M fu fv t f g).2.1 109 = M.2.1 109 := by
  funext b
  rw [c_pt_I, if_neg (by omega), if_neg (by omega), if_neg (by omega)]

set_option maxHeartbeats 40000000 in
set_option maxRecDepth 100000 in
theorem s_210 (X : ip_X) (M : ip_H) (K : Option Value → ip_H → Prop) (i j : Nat) (hi : i < 6) (hj : j < 6) (hG : ip_G M) (hq : q3 (M.2.1 109 1) = true) : ip_wp X 210 0 [.ref 108, .int (Int32.ofNat i), .int (Int32.ofNat j)] [] M K = K (some (.int (ip_b (c_cb (M.2.1 109) (M.2.1 109 0).toInt (M.2.1 109 1).toInt (M.2.1 109 2).toInt (9 + 4 * i) (9 + 4 * j))))) M := by
  unfold c_cb
  by_cases h1 : 0 < c_sg (M.2.1 109) (M.2.1 109 0).toInt (M.2.1 109 1).toInt (M.2.1 109 2).toInt (9 + 4 * i)
  · by_cases h2 : 0 < c_sg (M.2.1 109) (M.2.1 109 0).toInt (M.2.1 109 1).toInt (M.2.1 109 2).toInt (9 + 4 * j)
    · by_cases h3 : 99 < c_fl (M.2.1 109) (M.2.1 109 0).toInt (M.2.1 109 1).toInt (M.2.1 109 2).toInt (9 + 4 * i)
      · unfold c_sg c_fl at *
        simp (config := { maxSteps := 10000000, maxDischargeDepth := 30, decide := true }) only [w210_0, w210_1, w210_2, w210_3, w210_4, w210_7, w210_8, w210_9, w210_10, w210_11, w210_14, w210_15, w210_16, w210_17, w210_18, w210_21, w210_22, w210_25, w210_28, w210_29, w210_30, w210_31, w210_32, w210_35, w210_36, w210_37, w210_38, w210_39, w210_42, w210_43, w210_44, w210_45, w210_46, w210_49, w210_50, w210_53, w210_56, w210_57, w210_58, w210_59, w210_60, w210_61, w210_62, w210_65, w210_66, w210_67, w210_68, w210_69, w210_72, w210_73, w210_74, w210_75, w210_76, w210_79, w210_80, w210_81, w210_82, w210_83, w210_86, w210_87, w210_90, w210_92, w210_95, w210_96, w210_97, w210_98, w210_99, w210_102, w210_103, w210_104, w210_105, w210_106, w210_109, w210_110, w210_111, w210_112, w210_113, w210_116, w210_117, w210_118, w210_119, w210_120, w210_123, w210_124, w210_127, w210_129, w210_132, w210_133, w210_136, w210_137, ↓ip_ka0, ↓ip_ki1, ↓ip_ki2, Option.toList_some, List.nil_append, List.cons_append, List.length_nil, List.length_cons, ↓reduceIte, Nat.reduceAdd, Nat.reduceLeDiff, Nat.zero_add, Nat.zero_le, or_false, ip_b_f, gS_108 hG, hG, hq, hi, hj, s_185, s_186, z_w, Nat.add_zero, s_197_0, s_197_1, s_197_2, s_197_3, h1, h2, h3, decide_true, Bool.not_true, Bool.and_false, Bool.false_and]
      · by_cases h4 : 99 < c_fl (M.2.1 109) (M.2.1 109 0).toInt (M.2.1 109 1).toInt (M.2.1 109 2).toInt (9 + 4 * j)
        · unfold c_sg c_fl at *
          simp (config := { maxSteps := 10000000, maxDischargeDepth := 30, decide := true }) only [w210_0, w210_1, w210_2, w210_3, w210_4, w210_7, w210_8, w210_9, w210_10, w210_11, w210_14, w210_15, w210_16, w210_17, w210_18, w210_21, w210_22, w210_25, w210_28, w210_29, w210_30, w210_31, w210_32, w210_35, w210_36, w210_37, w210_38, w210_39, w210_42, w210_43, w210_44, w210_45, w210_46, w210_49, w210_50, w210_53, w210_56, w210_57, w210_58, w210_59, w210_60, w210_61, w210_62, w210_65, w210_66, w210_67, w210_68, w210_69, w210_72, w210_73, w210_74, w210_75, w210_76, w210_79, w210_80, w210_81, w210_82, w210_83, w210_86, w210_87, w210_90, w210_92, w210_95, w210_96, w210_97, w210_98, w210_99, w210_102, w210_103, w210_104, w210_105, w210_106, w210_109, w210_110, w210_111, w210_112, w210_113, w210_116, w210_117, w210_118, w210_119, w210_120, w210_123, w210_124, w210_127, w210_129, w210_132, w210_133, w210_136, w210_137, ↓ip_ka0, ↓ip_ki1, ↓ip_ki2, Option.toList_some, List.nil_append, List.cons_append, List.length_nil, List.length_cons, ↓reduceIte, Nat.reduceAdd, Nat.reduceLeDiff, Nat.zero_add, Nat.zero_le, or_false, ip_b_f, gS_108 hG, hG, hq, hi, hj, s_185, s_186, z_w, Nat.add_zero, s_197_0, s_197_1, s_197_2, s_197_3, h1, h2, h3, h4, decide_true, decide_false, Bool.not_true, Bool.not_false, Bool.and_false]
        · unfold c_sg c_fl at *
          simp (config := { maxSteps := 10000000, maxDischargeDepth := 30, decide := true }) only [w210_0, w210_1, w210_2, w210_3, w210_4, w210_7, w210_8, w210_9, w210_10, w210_11, w210_14, w210_15, w210_16, w210_17, w210_18, w210_21, w210_22, w210_25, w210_28, w210_29, w210_30, w210_31, w210_32, w210_35, w210_36, w210_37, w210_38, w210_39, w210_42, w210_43, w210_44, w210_45, w210_46, w210_49, w210_50, w210_53, w210_56, w210_57, w210_58, w210_59, w210_60, w210_61, w210_62, w210_65, w210_66, w210_67, w210_68, w210_69, w210_72, w210_73, w210_74, w210_75, w210_76, w210_79, w210_80, w210_81, w210_82, w210_83, w210_86, w210_87, w210_90, w210_92, w210_95, w210_96, w210_97, w210_98, w210_99, w210_102, w210_103, w210_104, w210_105, w210_106, w210_109, w210_110, w210_111, w210_112, w210_113, w210_116, w210_117, w210_118, w210_119, w210_120, w210_123, w210_124, w210_127, w210_129, w210_132, w210_133, w210_136, w210_137, ↓ip_ka0, ↓ip_ki1, ↓ip_ki2, Option.toList_some, List.nil_append, List.cons_append, List.length_nil, List.length_cons, ↓reduceIte, Nat.reduceAdd, Nat.reduceLeDiff, Nat.zero_add, Nat.zero_le, or_true, ip_b_t, gS_108 hG, hG, hq, hi, hj, s_185, s_186, z_w, Nat.add_zero, s_197_0, s_197_1, s_197_2, s_197_3, h1, h2, h3, h4, decide_true, decide_false, Bool.not_false, Bool.and_true]
    · unfold c_sg c_fl at *
      simp (config := { maxSteps := 10000000, maxDischargeDepth := 30, decide := true }) only [w210_0, w210_1, w210_2, w210_3, w210_4, w210_7, w210_8, w210_9, w210_10, w210_11, w210_14, w210_15, w210_16, w210_17, w210_18, w210_21, w210_22, w210_25, w210_28, w210_29, w210_30, w210_31, w210_32, w210_35, w210_36, w210_37, w210_38, w210_39, w210_42, w210_43, w210_44, w210_45, w210_46, w210_49, w210_50, w210_53, w210_56, w210_57, w210_58, w210_59, w210_60, w210_61, w210_62, w210_65, w210_66, w210_67, w210_68, w210_69, w210_72, w210_73, w210_74, w210_75, w210_76, w210_79, w210_80, w210_81, w210_82, w210_83, w210_86, w210_87, w210_90, w210_92, w210_95, w210_96, w210_97, w210_98, w210_99, w210_102, w210_103, w210_104, w210_105, w210_106, w210_109, w210_110, w210_111, w210_112, w210_113, w210_116, w210_117, w210_118, w210_119, w210_120, w210_123, w210_124, w210_127, w210_129, w210_132, w210_133, w210_136, w210_137, ↓ip_ka0, ↓ip_ki1, ↓ip_ki2, Option.toList_some, List.nil_append, List.cons_append, List.length_nil, List.length_cons, ↓reduceIte, Nat.reduceAdd, Nat.reduceLeDiff, Nat.zero_add, Nat.zero_le, or_false, ip_b_f, gS_108 hG, hG, hq, hi, hj, s_185, s_186, z_w, Nat.add_zero, s_197_0, s_197_1, s_197_2, h1, h2, decide_true, decide_false, Bool.and_false, Bool.false_and]
  · unfold c_sg c_fl at *
    simp (config := { maxSteps := 10000000, maxDischargeDepth := 30, decide := true }) only [w210_0, w210_1, w210_2, w210_3, w210_4, w210_7, w210_8, w210_9, w210_10, w210_11, w210_14, w210_15, w210_16, w210_17, w210_18, w210_21, w210_22, w210_25, w210_28, w210_29, w210_30, w210_31, w210_32, w210_35, w210_36, w210_37, w210_38, w210_39, w210_42, w210_43, w210_44, w210_45, w210_46, w210_49, w210_50, w210_53, w210_56, w210_57, w210_58, w210_59, w210_60, w210_61, w210_62, w210_65, w210_66, w210_67, w210_68, w210_69, w210_72, w210_73, w210_74, w210_75, w210_76, w210_79, w210_80, w210_81, w210_82, w210_83, w210_86, w210_87, w210_90, w210_92, w210_95, w210_96, w210_97, w210_98, w210_99, w210_102, w210_103, w210_104, w210_105, w210_106, w210_109, w210_110, w210_111, w210_112, w210_113, w210_116, w210_117, w210_118, w210_119, w210_120, w210_123, w210_124, w210_127, w210_129, w210_132, w210_133, w210_136, w210_137, ↓ip_ka0, ↓ip_ki1, Option.toList_some, List.nil_append, List.cons_append, List.length_nil, List.length_cons, ↓reduceIte, Nat.reduceAdd, Nat.reduceLeDiff, Nat.zero_add, Nat.zero_le, or_false, ip_b_f, gS_108 hG, hG, hq, hi, s_185, s_186, z_w, Nat.add_zero, s_197_0, s_197_1, s_197_2, h1, decide_false, Bool.false_and]

set_option maxHeartbeats 40000000 in
set_option maxRecDepth 100000 in
theorem s_211 (X : ip_X) (M : ip_H) (K : Option Value → ip_H → Prop) (i j : Nat) (w : Int32) (hi : i < 6) (hj : j < 6) (hG : ip_G M) : ip_wp X 211 0 [.ref 108, .int (Int32.ofNat i), .int (Int32.ofNat j), .int w, .retAddr 1] [] M K = K none (c_bg M i j w) := by
  have ni0 : ∀ b, 153 ≤ b → (9 + 4 * i = b) = False := fun b hb => eq_false (by omega)
  have ni1 : ∀ b, 153 ≤ b → (9 + 4 * i + 1 = b) = False := fun b hb => eq_false (by omega)
  have ni2 : ∀ b, 153 ≤ b → (9 + 4 * i + 2 = b) = False := fun b hb => eq_false (by omega)
  have ni3 : ∀ b, 153 ≤ b → (9 + 4 * i + 3 = b) = False := fun b hb => eq_false (by omega)
  have nj0 : ∀ b, 153 ≤ b → (9 + 4 * j = b) = False := fun b hb => eq_false (by omega)
  have nj1 : ∀ b, 153 ≤ b → (9 + 4 * j + 1 = b) = False := fun b hb => eq_false (by omega)
  have nj2 : ∀ b, 153 ≤ b → (9 + 4 * j + 2 = b) = False := fun b hb => eq_false (by omega)
  have nj3 : ∀ b, 153 ≤ b → (9 + 4 * j + 3 = b) = False := fun b hb => eq_false (by omega)
  unfold c_bg
  simp (config := { maxSteps := 10000000, maxDischargeDepth := 30, decide := true }) only [w211_0, w211_1, w211_3, w211_5, w211_6, w211_9, w211_10, w211_13, w211_16, w211_18, w211_19, w211_20, w211_21, w211_23, w211_26, w211_27, w211_28, w211_31, w211_34, w211_36, w211_37, w211_38, w211_39, w211_41, w211_44, w211_45, w211_48, w211_51, w211_52, w211_55, w211_56, w211_57, w211_58, w211_59, w211_62, w211_63, w211_64, w211_65, w211_66, w211_69, w211_70, w211_71, w211_72, w211_73, w211_76, w211_78, w211_79, w211_80, w211_81, w211_84, w211_86, w211_87, w211_88, w211_89, w211_91, w211_93, w211_95, w211_98, w211_99, w211_102, w211_104, w211_106, w211_107, w211_108, w211_111, w211_112, w211_115, w211_116, w211_117, w211_120, w211_123, ↓ip_ka0, ↓ip_ki1, ↓ip_ki2, ↓ip_ki3, ↓ip_ki4, ip_get_0, ip_get_s, ip_set1, ip_clr_s, ip_cat_i, List.set_cons_zero, List.set_cons_succ, ip_uI_I, ip_uI_R, ip_uI_sh, ip_uL_R, ip_uL_sh, ip_vr_some, Option.toList_some, List.nil_append, List.cons_append, List.length_nil, List.length_cons, ↓reduceIte, Nat.reduceAdd, Nat.reduceLeDiff, Nat.reduceEqDiff, Nat.zero_add, and_false, not_false_eq_true, gG_uI, Int32.reduceSub, Int32.reduceAdd, Int32.reduceMul, Int32.reduceToNatClampNeg, ip_ix_eq, Int32.reduceDiv, gS_108 hG, gS_109 hG, gS_110 hG, gR_108_1 hG, gR_108_2 hG, hG, hi, hj, Nat.add_zero, s_197_0, s_197_1, s_197_2, s_197_3, ni0, ni1, ni2, ni3, nj0, nj1, nj2, nj3]

set_option maxHeartbeats 40000000 in
set_option maxRecDepth 100000 in
theorem s_209_0r (X : ip_X) (M : ip_H) (K : Option Value → ip_H → Prop) (i : Nat) (hi : i ≤ 60) (hk : r_k (M.2.1 109) = i) (hG : ip_G M) (hq : q3 (M.2.1 109 1) = true) : ip_wp X 209 0 [.ref 108, .int (Int32.ofNat i), .int 0, .retAddr 1] [] M K = K (some (.int (r_fu (M.2.1 109)))) M := by
  rw [s_209_0 X M K i hi hG hq]
  subst hk
  rfl

set_option maxHeartbeats 40000000 in
set_option maxRecDepth 100000 in
theorem s_209_1r (X : ip_X) (M : ip_H) (K : Option Value → ip_H → Prop) (i : Nat) (hi : i ≤ 60) (hk : r_k (M.2.1 109) = i) (hG : ip_G M) (hq : q3 (M.2.1 109 1) = true) : ip_wp X 209 0 [.ref 108, .int (Int32.ofNat i), .int 1, .retAddr 1] [] M K = K (some (.int (r_fv (M.2.1 109)))) M := by
  rw [s_209_1 X M K i hi hG hq]
  subst hk
  rfl

set_option maxHeartbeats 40000000 in
set_option maxRecDepth 100000 in
theorem s_213a (X : ip_X) (M : ip_H) (K : Option Value → ip_H → Prop) (hG : ip_G M) (hq : q3 (M.2.1 109 1) = true) (hk : M.2.1 109 5 = Int32.ofNat (r_k (M.2.1 109))) (hk6 : r_k (M.2.1 109) ≤ 60) : ip_wp X 213 0 [.ref 108, .retAddr 1, .retAddr 1, .retAddr 1] [] M K = ip_wp X 213 139 [.ref 108, .int (Int32.ofNat (r_k (M.2.1 109))), .retAddr 1, .retAddr 1] [] (c_p0 M (r_fu (M.2.1 109)) (r_fv (M.2.1 109)) (r_f0 (M.2.1 109)) (r_g0 (M.2.1 109))) K := by
  have kr : r_k (M.2.1 109) = r_k (M.2.1 109) := rfl
  have key : ∀ M1, M1 = c_p0 M (r_fu (M.2.1 109)) (r_fv (M.2.1 109)) (r_f0 (M.2.1 109)) (r_g0 (M.2.1 109)) → ip_wp X 213 139 [.ref 108, .int (Int32.ofNat (r_k (M.2.1 109))), .retAddr 1, .retAddr 1] [] M1 K = ip_wp X 213 139 [.ref 108, .int (Int32.ofNat (r_k (M.2.1 109))), .retAddr 1, .retAddr 1] [] (c_p0 M (r_fu (M.2.1 109)) (r_fv (M.2.1 109)) (r_f0 (M.2.1 109)) (r_g0 (M.2.1 109))) K := fun M1 h => by rw [h]
  simp (config := { maxSteps := 10000000, maxDischargeDepth := 30, decide := true }) only [w213_0, w213_1, w213_4, w213_5, w213_6, w213_7, w213_8, w213_9, w213_10, w213_11, w213_14, w213_17, w213_18, w213_19, w213_20, w213_21, w213_24, w213_27, w213_28, w213_29, w213_30, w213_31, w213_34, w213_35, w213_38, w213_39, w213_40, w213_41, w213_42, w213_45, w213_46, w213_47, w213_50, w213_51, w213_52, w213_55, w213_56, w213_57, w213_60, w213_61, w213_62, w213_63, w213_64, w213_67, w213_68, w213_71, w213_72, w213_73, w213_74, w213_75, w213_78, w213_79, w213_82, w213_83, w213_84, w213_85, w213_87, w213_90, w213_91, w213_94, w213_95, w213_96, w213_97, w213_98, w213_101, w213_102, w213_103, w213_106, w213_107, w213_108, w213_111, w213_112, w213_113, w213_116, w213_117, w213_118, w213_119, w213_120, w213_123, w213_124, w213_127, w213_128, w213_129, w213_130, w213_132, w213_135, w213_136, ↓ip_ka0, ↓ip_ki1, ip_set1, ip_clr_s, List.set_cons_zero, List.set_cons_succ, ip_uI_I, ip_uI_sh, ip_uL_I, ip_uL_L, ip_uL_sh, ip_vr_some, Option.toList_some, List.nil_append, List.cons_append, List.length_nil, List.length_cons, ↓reduceIte, Nat.reduceLeDiff, Nat.reduceEqDiff, Nat.zero_add, false_and, not_false_eq_true, gG_uI, gG_uL, Int32.reduceToNatClampNeg, ip_ix_eq, gS_108 hG, gS_109 hG, gR_108_1 hG, hG, hq, hk, hk6, ip_uI_row, s_208_0, s_208_1, s_208_2, s_208_3, s_208_4, s_208_5, s_208_6, s_208_7, s_209_0r, s_209_1r, z_w, ← Int64.ofInt_mul, ← Int64.ofInt_sub]
  apply key
  unfold c_p0 r_f0 r_g0 r_v
  simp (decide := true) only [nf_IL, nf_II, nf_LL, ip_uI_uI, ip_uL_uL, ↓reduceIte, ip_b_t, ip_b_f, Bool.false_eq_true]

set_option maxHeartbeats 40000000 in
set_option maxRecDepth 100000 in
theorem s_213b (X : ip_X) (M : ip_H) (K : Option Value → ip_H → Prop) (fu fv : Int32) (f g : Int × Int × Int × Int) (k : Int32) (hG : ip_G M) (hq : q3 (M.2.1 109 1) = true) (t : Bool) (ht : t = (decide (M.2.1 109 4 = 1) && (r_lt (M.2.1 109 0).toInt (M.2.1 109 1).toInt (M.2.1 109 2).toInt f g))) : ip_wp X 213 139 [.ref 108, .int k, .retAddr 1, .retAddr 1] [] (c_p0 M fu fv f g) K = K none (c_pt M fu fv (ip_b t) (if t = true then g else f) (if t = true then f else g)) := by
  have key : ∀ M1, M1 = c_pt M fu fv (ip_b t) (if t = true then g else f) (if t = true then f else g) → K none M1 = K none (c_pt M fu fv (ip_b t) (if t = true then g else f) (if t = true then f else g)) := fun M1 h => by rw [h]
  obtain ⟨f1, f2, f3, f4⟩ := f
  obtain ⟨g1, g2, g3, g4⟩ := g
  unfold r_lt at ht
  dsimp only at ht
  by_cases h4 : M.2.1 109 4 = 1
  · rw [decide_eq_true h4, Bool.true_and] at ht
    by_cases hl : z_sg (zN (M.2.1 109 0).toInt (M.2.1 109 1).toInt (M.2.1 109 2).toInt (f1 * g4 - g1 * f4) (f2 * g4 - g2 * f4) (f3 * g4 - g3 * f4)) < 0
    · simp (config := { maxSteps := 10000000, maxDischargeDepth := 30, decide := true }) only [w213_139, w213_140, w213_141, w213_144, w213_145, w213_146, w213_147, w213_150, w213_151, w213_152, w213_155, w213_156, w213_159, w213_160, w213_161, w213_164, w213_165, w213_168, w213_169, w213_170, w213_171, w213_174, w213_175, w213_178, w213_179, w213_180, w213_183, w213_184, w213_187, w213_188, w213_189, w213_190, w213_193, w213_194, w213_197, w213_198, w213_199, w213_202, w213_203, w213_206, w213_207, w213_208, w213_211, w213_214, w213_215, w213_218, w213_219, w213_222, w213_223, w213_226, w213_229, w213_230, w213_231, w213_234, w213_235, w213_236, w213_237, w213_240, w213_243, w213_244, w213_245, w213_248, w213_249, w213_252, w213_253, w213_254, w213_255, w213_258, w213_261, w213_262, w213_263, w213_266, w213_267, w213_270, w213_271, w213_272, w213_273, w213_276, w213_279, w213_280, w213_281, w213_284, w213_285, w213_288, w213_289, w213_290, w213_291, w213_294, w213_297, w213_298, w213_299, w213_302, ↓ip_ka0, ↓ip_kl2, ip_get_0, ip_get_s, ip_set2, ip_clr_s, ip_cat_i, List.set_cons_zero, List.set_cons_succ, ip_uI_I, ip_uI_L, ip_uI_sh, ip_uL_L, ip_uL_sh, ip_vr_some, Option.toList_some, List.nil_append, List.cons_append, List.length_nil, List.length_cons, ↓reduceIte, Nat.reduceAdd, Nat.reduceLeDiff, Nat.reduceEqDiff, Nat.zero_add, or_true, Int32.reduceToNatClampNeg, ip_ix_eq, gS_108 hG, gS_109 hG, gR_108_1 hG, hG, hq, gG_p0, c_p0_sh, c_p0_R, c_p0_I, c_p0_L, s_185, ← Int64.ofInt_mul, ← Int64.ofInt_sub, h4, hl]
      apply key
      rw [ht, decide_eq_true hl]
      unfold c_pt c_p0
      simp (decide := true) only [nf_IL, nf_II, nf_LL, ip_uI_uI, ip_uL_uL, ↓reduceIte, ip_b_t, ip_b_f, Bool.false_eq_true]
    · simp (config := { maxSteps := 10000000, maxDischargeDepth := 30, decide := true }) only [w213_139, w213_140, w213_141, w213_144, w213_145, w213_146, w213_147, w213_150, w213_151, w213_152, w213_155, w213_156, w213_159, w213_160, w213_161, w213_164, w213_165, w213_168, w213_169, w213_170, w213_171, w213_174, w213_175, w213_178, w213_179, w213_180, w213_183, w213_184, w213_187, w213_188, w213_189, w213_190, w213_193, w213_194, w213_197, w213_198, w213_199, w213_202, w213_203, w213_206, w213_207, w213_208, w213_211, w213_214, w213_215, w213_218, w213_219, w213_222, w213_223, w213_226, w213_229, w213_230, w213_231, w213_234, w213_235, w213_236, w213_237, w213_240, w213_243, w213_244, w213_245, w213_248, w213_249, w213_252, w213_253, w213_254, w213_255, w213_258, w213_261, w213_262, w213_263, w213_266, w213_267, w213_270, w213_271, w213_272, w213_273, w213_276, w213_279, w213_280, w213_281, w213_284, w213_285, w213_288, w213_289, w213_290, w213_291, w213_294, w213_297, w213_298, w213_299, w213_302, ↓ip_ka0, ip_uI_I, ip_uI_sh, ip_vr_some, Option.toList_some, List.nil_append, List.cons_append, List.length_nil, List.length_cons, ↓reduceIte, Nat.reduceLeDiff, Nat.zero_add, or_false, Int32.reduceToNatClampNeg, ip_ix_eq, gS_108 hG, gS_109 hG, gR_108_1 hG, hG, hq, gG_p0, c_p0_sh, c_p0_R, c_p0_I, c_p0_L, s_185, ← Int64.ofInt_mul, ← Int64.ofInt_sub, h4, hl]
      apply key
      rw [ht, decide_eq_false hl]
      unfold c_pt c_p0
      simp (decide := true) only [nf_IL, nf_II, nf_LL, ip_uI_uI, ip_uL_uL, ↓reduceIte, ip_b_t, ip_b_f, Bool.false_eq_true]
  · rw [decide_eq_false h4, Bool.false_and] at ht
    simp (config := { maxSteps := 10000000, maxDischargeDepth := 30, decide := true }) only [w213_139, w213_140, w213_141, w213_144, w213_145, w213_146, w213_147, w213_150, w213_151, w213_152, w213_155, w213_156, w213_159, w213_160, w213_161, w213_164, w213_165, w213_168, w213_169, w213_170, w213_171, w213_174, w213_175, w213_178, w213_179, w213_180, w213_183, w213_184, w213_187, w213_188, w213_189, w213_190, w213_193, w213_194, w213_197, w213_198, w213_199, w213_202, w213_203, w213_206, w213_207, w213_208, w213_211, w213_214, w213_215, w213_218, w213_219, w213_222, w213_223, w213_226, w213_229, w213_230, w213_231, w213_234, w213_235, w213_236, w213_237, w213_240, w213_243, w213_244, w213_245, w213_248, w213_249, w213_252, w213_253, w213_254, w213_255, w213_258, w213_261, w213_262, w213_263, w213_266, w213_267, w213_270, w213_271, w213_272, w213_273, w213_276, w213_279, w213_280, w213_281, w213_284, w213_285, w213_288, w213_289, w213_290, w213_291, w213_294, w213_297, w213_298, w213_299, w213_302, ↓ip_ka0, ip_uI_I, ip_uI_sh, ip_vr_some, ↓reduceIte, or_false, Int32.reduceToNatClampNeg, ip_ix_eq, gS_108 hG, gS_109 hG, gR_108_1 hG, gG_p0, c_p0_sh, c_p0_R, c_p0_I, c_p0_L, s_185, h4]
    apply key
    rw [ht]
    unfold c_pt c_p0
    simp (decide := true) only [nf_IL, nf_II, nf_LL, ip_uI_uI, ip_uL_uL, ↓reduceIte, ip_b_t, ip_b_f, Bool.false_eq_true]

set_option maxHeartbeats 40000000 in
set_option maxRecDepth 100000 in
theorem s_213 (X : ip_X) (M : ip_H) (K : Option Value → ip_H → Prop) (hG : ip_G M) (hq : q3 (M.2.1 109 1) = true) (hk : M.2.1 109 5 = Int32.ofNat (r_k (M.2.1 109))) (hk6 : r_k (M.2.1 109) ≤ 60) : ip_wp X 213 0 [.ref 108, .retAddr 1, .retAddr 1, .retAddr 1] [] M K = K none (c_pm M) :=
  (s_213a X M K hG hq hk hk6).trans (s_213b X M K _ _ _ _ _ hG hq _ rfl)

set_option maxHeartbeats 40000000 in
set_option maxRecDepth 100000 in
/-- f is 0 -/
def r_e (N : Nat → Int32) : Bool := decide (Int64.ofInt (r_f N).1 = 0) && (decide (Int64.ofInt (r_f N).2.1 = 0) && decide (Int64.ofInt (r_f N).2.2.1 = 0))

set_option maxHeartbeats 40000000 in
set_option maxRecDepth 100000 in
theorem s_214 (X : ip_X) (M : ip_H) (K : Option Value → ip_H → Prop) (hG : ip_G M) (hq : q3 (M.2.1 109 1) = true) (hk : M.2.1 109 5 = Int32.ofNat (r_k (M.2.1 109))) (hk6 : r_k (M.2.1 109) ≤ 60) : ip_wp X 214 0 [.ref 108] [] M K = K (some (.int (ip_b (r_e (M.2.1 109))))) (c_pm M) := by
  unfold r_e
  by_cases h1 : Int64.ofInt (r_f (M.2.1 109)).1 = 0
  · by_cases h2 : Int64.ofInt (r_f (M.2.1 109)).2.1 = 0
    · by_cases h3 : Int64.ofInt (r_f (M.2.1 109)).2.2.1 = 0
      · simp (config := { maxSteps := 10000000, maxDischargeDepth := 30, decide := true }) only [w214_0, w214_1, w214_4, w214_5, w214_8, w214_9, w214_10, w214_13, w214_14, w214_17, w214_18, w214_19, w214_22, w214_23, w214_26, w214_27, w214_28, w214_31, w214_32, w214_35, w214_36, ↓ip_ka0, Option.toList_none, List.nil_append, List.length_nil, ↓reduceIte, Nat.zero_le, or_true, ip_b_t, gS_108 hG, hG, hq, hk, hk6, s_213, c_pm, c_pt_1, c_pt_R, c_pt_sh, gG_pt, c_pt_I, c_pt_L, c_pt_row, h1, h2, h3, decide_true, Bool.and_true]
      · simp (config := { maxSteps := 10000000, maxDischargeDepth := 30, decide := true }) only [w214_0, w214_1, w214_4, w214_5, w214_8, w214_9, w214_10, w214_13, w214_14, w214_17, w214_18, w214_19, w214_22, w214_23, w214_26, w214_27, w214_28, w214_31, w214_32, w214_35, w214_36, ↓ip_ka0, Option.toList_none, List.nil_append, List.length_nil, ↓reduceIte, Nat.zero_le, or_false, ip_b_f, ip_cmp_eq, gS_108 hG, hG, hq, hk, hk6, s_213, c_pm, c_pt_1, c_pt_R, c_pt_sh, gG_pt, c_pt_I, c_pt_L, c_pt_row, h1, h2, h3, decide_true, decide_false, Bool.and_false]
    · simp (config := { maxSteps := 10000000, maxDischargeDepth := 30, decide := true }) only [w214_0, w214_1, w214_4, w214_5, w214_8, w214_9, w214_10, w214_13, w214_14, w214_17, w214_18, w214_19, w214_22, w214_23, w214_26, w214_27, w214_28, w214_31, w214_32, w214_35, w214_36, ↓ip_ka0, Option.toList_none, List.nil_append, List.length_nil, ↓reduceIte, Nat.zero_le, or_false, ip_b_f, ip_cmp_eq, gS_108 hG, hG, hq, hk, hk6, s_213, c_pm, c_pt_1, c_pt_R, c_pt_sh, gG_pt, c_pt_I, c_pt_L, c_pt_row, h1, h2, decide_true, decide_false, Bool.and_false, Bool.false_and]
  · simp (config := { maxSteps := 10000000, maxDischargeDepth := 30, decide := true }) only [w214_0, w214_1, w214_4, w214_5, w214_8, w214_9, w214_10, w214_13, w214_14, w214_17, w214_18, w214_19, w214_22, w214_23, w214_26, w214_27, w214_28, w214_31, w214_32, w214_35, w214_36, ↓ip_ka0, Option.toList_none, List.nil_append, List.length_nil, ↓reduceIte, Nat.zero_le, or_false, ip_b_f, ip_cmp_eq, gS_108 hG, hG, hq, hk, hk6, s_213, c_pm, c_pt_1, c_pt_R, c_pt_sh, gG_pt, c_pt_I, c_pt_L, c_pt_row, h1, decide_false, Bool.false_and]
end
noncomputable section
-- PART 68.ops4
-- THE REFERENCE: squares of digits; the next step tried
def q_pl (B : Bool) (a b : Int64) : Int64 × Bool := (if (B || decide (9223372036854775807 - b < a)) = true then 0 else a + b, B || decide (9223372036854775807 - b < a))
def q_ti (B : Bool) (a b : Int64) : Int64 × Bool := (if (B || (!decide (b = 0) && decide (9223372036854775807 / b < a))) = true then 0 else a * b, B || (!decide (b = 0) && decide (9223372036854775807 / b < a)))
def q_row (B : Bool) (x y z a b : Int64) : Int64 × Bool := q_pl (q_pl (q_ti (q_ti B y a).2 z b).2 (q_ti B y a).1 (q_ti (q_ti B y a).2 z b).1).2 x (q_pl (q_ti (q_ti B y a).2 z b).2 (q_ti B y a).1 (q_ti (q_ti B y a).2 z b).1).1
def b1 (x : Int32) : Bool := decide (x = 1)
def z01 (x : Int32) : Bool := decide (x = 0) || decide (x = 1)
theorem b1_b (c : Bool) : b1 (ip_b c) = c := by cases c <;> rfl
theorem z01_b (c : Bool) : z01 (ip_b c) = true := by cases c <;> rfl
theorem b1_0 : b1 0 = false := by decide
theorem z01_0 : z01 0 = true := by decide
theorem z01_1 : z01 1 = true := by decide
theorem b1_1 : b1 1 = true := by decide
theorem z01_c {x : Int32} (h : z01 x = true) : x = ip_b (b1 x) := by
  unfold z01 at h
  rw [Bool.or_eq_true, decide_eq_true_eq, decide_eq_true_eq] at h
  rcases h with h | h <;> subst h <;> rfl
def q_a (B : Bool) (g : Nat → Int64) (a b : Int64) : Int64 × Bool := q_row B (g 0) (g 1) (g 2) a b
def q_b (B : Bool) (g : Nat → Int64) (a b : Int64) : Int64 × Bool := q_row (q_a B g a b).2 (g 3) (g 4) (g 5) a b
def q_c (B : Bool) (g : Nat → Int64) (a b : Int64) : Int64 × Bool := q_row (q_b B g a b).2 (g 6) (g 7) (g 8) a b
/-- the square of a digit behind g -/
def q_nx (B : Bool) (g : Nat → Int64) (a b : Int64) (t : Bool) (j : Nat) : Int64 := if j = 0 then (if t = true then g 2 else g 1) else if j = 1 then (if t = true then g 1 else g 2) else if j = 2 then (q_a B g a b).1 else if j = 3 then (if t = true then g 5 else g 4) else if j = 4 then (if t = true then g 4 else g 5) else if j = 5 then (q_b B g a b).1 else if j = 6 then (if t = true then g 8 else g 7) else if j = 7 then (if t = true then g 7 else g 8) else (q_c B g a b).1
def c_sq (M : ip_H) (B : Bool) (g : Nat → Int64) (a b : Int64) (t : Bool) : ip_H := ip_uL (ip_uL (ip_uL (ip_uL (ip_uL (ip_uL (ip_uL (ip_uL (ip_uL (ip_uI M 108 29 (ip_b (q_c B g a b).2)) 118 0 (if t = true then g 2 else g 1)) 118 1 (if t = true then g 1 else g 2)) 118 2 (q_a B g a b).1) 118 3 (if t = true then g 5 else g 4)) 118 4 (if t = true then g 4 else g 5)) 118 5 (q_b B g a b).1) 118 6 (if t = true then g 8 else g 7)) 118 7 (if t = true then g 7 else g 8)) 118 8 (q_c B g a b).1
theorem c_sq_1 (M : ip_H) (B : Bool) (g : Nat → Int64) (a b : Int64) (t : Bool) : (c_sq M B g a b t).1 = M.1 := rfl
theorem c_sq_R (M : ip_H) (B : Bool) (g : Nat → Int64) (a b : Int64) (t : Bool) : (c_sq M B g a b t).2.2.2 = M.2.2.2 := rfl
theorem c_sq_sh (M : ip_H) (B : Bool) (g : Nat → Int64) (a b : Int64) (t : Bool) (k : Nat) : ip_sh (c_sq M B g a b t) k = ip_sh M k := rfl
theorem gG_sq (M : ip_H) (B : Bool) (g : Nat → Int64) (a b : Int64) (t : Bool) (h : ip_G M) : ip_G (c_sq M B g a b t) := gG_uL _ _ _ _ (gG_uL _ _ _ _ (gG_uL _ _ _ _ (gG_uL _ _ _ _ (gG_uL _ _ _ _ (gG_uL _ _ _ _ (gG_uL _ _ _ _ (gG_uL _ _ _ _ (gG_uL _ _ _ _ (gG_uI _ _ _ _ h)))))))))
theorem c_sq_I (M : ip_H) (B : Bool) (g : Nat → Int64) (a b : Int64) (t : Bool) (p q : Nat) : (c_sq M B g a b t).2.1 p q = if p = 108 ∧ q = 29 then ip_b (q_c B g a b).2 else M.2.1 p q := rfl
theorem c_sq_L (M : ip_H) (B : Bool) (g : Nat → Int64) (a b : Int64) (t : Bool) (p q : Nat) (h : ¬ p = 118) : (c_sq M B g a b t).2.2.1 p q = M.2.2.1 p q := by
  unfold c_sq
  simp only [ip_uL_L, h, false_and, ↓reduceIte, ip_uI_L]
theorem c_sq_n (M : ip_H) (B : Bool) (g : Nat → Int64) (a b : Int64) (t : Bool) (j : Nat) (h : j < 9) : (c_sq M B g a b t).2.2.1 118 j = q_nx B g a b t j := by
  have hj : j = 0 ∨ j = 1 ∨ j = 2 ∨ j = 3 ∨ j = 4 ∨ j = 5 ∨ j = 6 ∨ j = 7 ∨ j = 8 := by omega
  rcases hj with rfl | rfl | rfl | rfl | rfl | rfl | rfl | rfl | rfl <;> simp (decide := true) only [c_sq, q_nx, ip_uL_L, ↓reduceIte]
theorem ip_cw_c (v : Value) (l : List Value) : ip_cw (v :: l) = v.category + ip_cw l := by unfold ip_cw; simp only [List.map_cons, List.sum_cons]
theorem ip_cw_n : ip_cw [] = 0 := rfl
theorem wp_callV1_3w {X : ip_X} {y pc nx a w : Nat} {v : Value} {ts : List Nat} {ls st : List Value} {M : ip_H} {K : Option Value → ip_H → Prop} {n : Nat} {k : Nat} {v1 v2 : Value} (h : ip_at y pc = some (.invokevirtual n, nx, a, 3, 1, w, v, ts)) (hc : ip_cw st ≤ 8 ∧ (ip_pad [.ref k, v1, v2]).length ≤ ip_ml a ∧ (ip_sh M k).1 = 0 ∧ (ip_sh M k).2.1 = ip_oc a) : ip_wp X y pc ls (v2 :: v1 :: .ref k :: st) M K = ip_wp X a 0 (ip_ent (ip_ml a) [.ref k, v1, v2]) [] M (fun r M1 => ip_wp X y nx ls (r.toList ++ st) M1 K) :=
  wp_call h rfl (by simp) (by simpa using hc.1) (by simpa [ip_rc] using hc.2)
theorem x217_91 (X : ip_X) (ls st : List Value) (M : ip_H) (K : Option Value → ip_H → Prop) (k : Nat) (x0 : Int64) (x1 : Int64) (h0 : ip_cw st ≤ 8) (h1 : (ip_sh M k).1 = 0) (h2 : (ip_sh M k).2.1 = 11) : ip_wp X 217 91 ls (.long x1 :: .long x0 :: .ref k :: st) M K = ip_wp X 216 0 [.ref k, .long x0, .retAddr 1, .long x1, .retAddr 1] [] M (fun r M1 => ip_wp X 217 94 ls (r.toList ++ st) M1 K) := (wp_callV1_3w ((ip_a217 91).trans rfl) ⟨h0, by exact Nat.le_of_ble_eq_true rfl, h1, h2⟩)
theorem x217_103 (X : ip_X) (ls st : List Value) (M : ip_H) (K : Option Value → ip_H → Prop) (k : Nat) (x0 : Int64) (x1 : Int64) (h0 : ip_cw st ≤ 8) (h1 : (ip_sh M k).1 = 0) (h2 : (ip_sh M k).2.1 = 11) : ip_wp X 217 103 ls (.long x1 :: .long x0 :: .ref k :: st) M K = ip_wp X 216 0 [.ref k, .long x0, .retAddr 1, .long x1, .retAddr 1] [] M (fun r M1 => ip_wp X 217 106 ls (r.toList ++ st) M1 K) := (wp_callV1_3w ((ip_a217 103).trans rfl) ⟨h0, by exact Nat.le_of_ble_eq_true rfl, h1, h2⟩)
theorem c_sq_row (M : ip_H) (B : Bool) (g : Nat → Int64) (a b : Int64) (t : Bool) : (c_sq M B g a b t).2.1 109 = M.2.1 109 := by
  funext b
  rw [c_sq_I, if_neg (by omega)]

set_option maxHeartbeats 40000000 in
set_option maxRecDepth 100000 in
theorem s_215 (X : ip_X) (M : ip_H) (K : Option Value → ip_H → Prop) (a b : Int64) (h01 : z01 (M.2.1 108 29) = true) (hG : ip_G M) : ip_wp X 215 0 [.ref 108, .long a, .retAddr 1, .long b, .retAddr 1] [] M K = K (some (.long (q_pl (b1 (M.2.1 108 29)) a b).1)) (ip_uI M 108 29 (ip_b (q_pl (b1 (M.2.1 108 29)) a b).2)) := by
  have hc := z01_c h01
  generalize b1 (M.2.1 108 29) = B at hc ⊢
  unfold q_pl
  by_cases h : 9223372036854775807 - b < a
  · simp only [decide_eq_true h, Bool.not_false, Bool.true_and, Bool.or_true, ↓reduceIte, ip_b_t]
    simp (config := { maxSteps := 10000000, maxDischargeDepth := 30, decide := true }) only [w215_0, w215_1, w215_4, w215_5, w215_6, w215_7, w215_10, w215_11, w215_12, w215_15, w215_16, w215_19, w215_22, w215_23, w215_26, w215_27, w215_28, w215_29, ↓ip_ka0, ↓ip_kl1, ↓ip_kl3, ip_uI_I, ip_uI_sh, ↓reduceIte, or_true, ip_b_t, ip_b_f, ip_cmp_gt, gS_108 hG, h]
  · simp only [decide_eq_false h, Bool.and_false, Bool.or_false]
    rw [ip_uI_id hc]
    cases B <;> (simp (config := { maxSteps := 10000000, maxDischargeDepth := 30, decide := true }) only [w215_0, w215_1, w215_4, w215_5, w215_6, w215_7, w215_10, w215_11, w215_12, w215_15, w215_16, w215_19, w215_22, w215_23, w215_26, w215_27, w215_28, w215_29, ↓ip_ka0, ↓ip_kl1, ↓ip_kl3, ip_uI_I, ip_uI_sh, ↓reduceIte, or_true, ip_b_t, ip_b_f, ip_cmp_gt, gS_108 hG, hc, h])

set_option maxHeartbeats 40000000 in
set_option maxRecDepth 100000 in
theorem s_216 (X : ip_X) (M : ip_H) (K : Option Value → ip_H → Prop) (a b : Int64) (h01 : z01 (M.2.1 108 29) = true) (hG : ip_G M) : ip_wp X 216 0 [.ref 108, .long a, .retAddr 1, .long b, .retAddr 1] [] M K = K (some (.long (q_ti (b1 (M.2.1 108 29)) a b).1)) (ip_uI M 108 29 (ip_b (q_ti (b1 (M.2.1 108 29)) a b).2)) := by
  have hc := z01_c h01
  generalize b1 (M.2.1 108 29) = B at hc ⊢
  unfold q_ti
  by_cases h0 : b = 0
  · simp only [decide_eq_true h0, Bool.not_true, Bool.false_and, Bool.or_false]
    rw [ip_uI_id hc]
    cases B <;> (simp (config := { maxSteps := 10000000, maxDischargeDepth := 30, decide := true }) only [w216_0, w216_1, w216_2, w216_3, w216_6, w216_7, w216_10, w216_11, w216_12, w216_13, w216_16, w216_17, w216_18, w216_21, w216_22, w216_25, w216_28, w216_29, w216_32, w216_33, w216_34, w216_35, ↓ip_ka0, ↓ip_kl1, ↓ip_kl3, ip_uI_I, ip_uI_sh, ↓reduceIte, or_true, not_false_eq_true, ip_b_t, ip_b_f, ip_cmp_gt, ip_cmp_eq, gS_108 hG, hc, h0])
  by_cases h : 9223372036854775807 / b < a
  · simp only [decide_eq_false h0, decide_eq_true h, Bool.not_false, Bool.true_and, Bool.or_true, ↓reduceIte, ip_b_t]
    simp (config := { maxSteps := 10000000, maxDischargeDepth := 30, decide := true }) only [w216_0, w216_1, w216_2, w216_3, w216_6, w216_7, w216_10, w216_11, w216_12, w216_13, w216_16, w216_17, w216_18, w216_21, w216_22, w216_25, w216_28, w216_29, w216_32, w216_33, w216_34, w216_35, ↓ip_ka0, ↓ip_kl1, ↓ip_kl3, ip_uI_I, ip_uI_sh, ↓reduceIte, or_true, not_false_eq_true, ip_b_t, ip_b_f, ip_cmp_gt, ip_cmp_eq, gS_108 hG, h, h0]
  · simp only [decide_eq_false h0, decide_eq_false h, Bool.and_false, Bool.or_false]
    rw [ip_uI_id hc]
    cases B <;> (simp (config := { maxSteps := 10000000, maxDischargeDepth := 30, decide := true }) only [w216_0, w216_1, w216_2, w216_3, w216_6, w216_7, w216_10, w216_11, w216_12, w216_13, w216_16, w216_17, w216_18, w216_21, w216_22, w216_25, w216_28, w216_29, w216_32, w216_33, w216_34, w216_35, ↓ip_ka0, ↓ip_kl1, ↓ip_kl3, ip_uI_I, ip_uI_sh, ↓reduceIte, or_true, not_false_eq_true, ip_b_t, ip_b_f, ip_cmp_gt, ip_cmp_eq, gS_108 hG, hc, h, h0])

set_option maxHeartbeats 40000000 in
set_option maxRecDepth 100000 in
theorem s_217_110 (X : ip_X) (M : ip_H) (K : Option Value → ip_H → Prop) (a b t : Int32) (hz : z01 t = true) (h01 : z01 (M.2.1 108 29) = true) (hG : ip_G M) : ip_wp X 217 0 [.ref 108, .ref 110, .int a, .int b, .int t, .retAddr 1] [] M K = K none (c_sq M (b1 (M.2.1 108 29)) (M.2.2.1 110) a.toInt64 b.toInt64 (b1 t)) := by
  have ht := z01_c hz
  clear hz
  have key : ∀ M1, M1 = c_sq M (b1 (M.2.1 108 29)) (M.2.2.1 110) a.toInt64 b.toInt64 (b1 t) → K none M1 = K none (c_sq M (b1 (M.2.1 108 29)) (M.2.2.1 110) a.toInt64 b.toInt64 (b1 t)) := fun M1 h => by rw [h]
  generalize b1 t = T at ht key ⊢
  subst ht
  cases T
  all_goals (simp (config := { maxSteps := 10000000, maxDischargeDepth := 30, decide := true }) only [w217_0, w217_1, w217_3, w217_5, w217_7, w217_10, w217_11, w217_14, w217_16, w217_18, w217_19, w217_22, w217_23, w217_25, w217_26, w217_27, w217_28, w217_31, w217_32, w217_34, w217_35, w217_36, w217_37, w217_38, w217_39, w217_42, w217_44, w217_45, w217_46, w217_48, w217_49, w217_52, w217_53, w217_55, w217_56, w217_57, w217_58, w217_61, w217_62, w217_64, w217_65, w217_66, w217_67, w217_68, w217_69, w217_72, w217_74, w217_75, w217_76, w217_77, w217_78, w217_80, w217_81, w217_82, w217_83, w217_84, w217_86, w217_87, w217_88, w217_89, w217_90, w217_94, w217_95, w217_96, w217_98, w217_99, w217_100, w217_101, w217_102, w217_106, w217_109, w217_112, w217_113, w217_116, w217_119, x217_91, x217_103, ↓ip_ka0, ↓ip_ka1, ↓ip_ki2, ↓ip_ki3, ↓ip_ki4, ↓ip_ki5, ip_get_0, ip_get_s, ip_set1, ip_clr_s, ip_cat_i, ip_cat_l, ip_cat_r, List.set_cons_zero, List.set_cons_succ, ip_uI_I, ip_uI_L, ip_uI_R, ip_uI_sh, ip_uL_I, ip_uL_L, ip_uL_R, ip_uL_sh, ip_vr_some, Option.toList_some, List.nil_append, List.cons_append, List.length_nil, List.length_cons, ↓reduceIte, Nat.reduceAdd, Nat.reduceLeDiff, Nat.reduceEqDiff, Nat.zero_add, gG_uI, gG_uL, ip_b_t, ip_b_f, Int32.reduceAdd, Int32.reduceToNatClampNeg, ip_ix_eq, gS_108 hG, gS_110 hG, gS_118 hG, gS_123 hG, gR_108_28 hG, hG, h01, s_215, s_216, b1_b, z01_b, ip_cw_c, ip_cw_n])
  all_goals (apply key)
  all_goals (unfold c_sq q_c q_b q_a q_row)
  all_goals (simp (decide := true) only [nf_IL, nf_II, nf_LL, ip_uI_uI, ip_uL_uL, ↓reduceIte, Bool.false_eq_true])

set_option maxHeartbeats 40000000 in
set_option maxRecDepth 100000 in
theorem s_217_123 (X : ip_X) (M : ip_H) (K : Option Value → ip_H → Prop) (a b t : Int32) (hz : z01 t = true) (h01 : z01 (M.2.1 108 29) = true) (hG : ip_G M) : ip_wp X 217 0 [.ref 108, .ref 123, .int a, .int b, .int t, .retAddr 1] [] M K = K none (c_sq M (b1 (M.2.1 108 29)) (M.2.2.1 123) a.toInt64 b.toInt64 (b1 t)) := by
  have ht := z01_c hz
  clear hz
  have key : ∀ M1, M1 = c_sq M (b1 (M.2.1 108 29)) (M.2.2.1 123) a.toInt64 b.toInt64 (b1 t) → K none M1 = K none (c_sq M (b1 (M.2.1 108 29)) (M.2.2.1 123) a.toInt64 b.toInt64 (b1 t)) := fun M1 h => by rw [h]
  generalize b1 t = T at ht key ⊢
  subst ht
  cases T
  all_goals (simp (config := { maxSteps := 10000000, maxDischargeDepth := 30, decide := true }) only [w217_0, w217_1, w217_3, w217_5, w217_7, w217_10, w217_11, w217_14, w217_16, w217_18, w217_19, w217_22, w217_23, w217_25, w217_26, w217_27, w217_28, w217_31, w217_32, w217_34, w217_35, w217_36, w217_37, w217_38, w217_39, w217_42, w217_44, w217_45, w217_46, w217_48, w217_49, w217_52, w217_53, w217_55, w217_56, w217_57, w217_58, w217_61, w217_62, w217_64, w217_65, w217_66, w217_67, w217_68, w217_69, w217_72, w217_74, w217_75, w217_76, w217_77, w217_78, w217_80, w217_81, w217_82, w217_83, w217_84, w217_86, w217_87, w217_88, w217_89, w217_90, w217_94, w217_95, w217_96, w217_98, w217_99, w217_100, w217_101, w217_102, w217_106, w217_109, w217_112, w217_113, w217_116, w217_119, x217_91, x217_103, ↓ip_ka0, ↓ip_ka1, ↓ip_ki2, ↓ip_ki3, ↓ip_ki4, ↓ip_ki5, ip_get_0, ip_get_s, ip_set1, ip_clr_s, ip_cat_i, ip_cat_l, ip_cat_r, List.set_cons_zero, List.set_cons_succ, ip_uI_I, ip_uI_L, ip_uI_R, ip_uI_sh, ip_uL_I, ip_uL_L, ip_uL_R, ip_uL_sh, ip_vr_some, Option.toList_some, List.nil_append, List.cons_append, List.length_nil, List.length_cons, ↓reduceIte, Nat.reduceAdd, Nat.reduceLeDiff, Nat.reduceEqDiff, Nat.zero_add, gG_uI, gG_uL, ip_b_t, Int32.reduceAdd, Int32.reduceToNatClampNeg, ip_ix_eq, gS_108 hG, gS_118 hG, gS_123 hG, gR_108_28 hG, hG, h01, s_215, s_216, b1_b, z01_b, ip_cw_c, ip_cw_n])
  all_goals (apply key)
  all_goals (unfold c_sq q_c q_b q_a q_row)
  all_goals (simp (decide := true) only [nf_IL, nf_II, nf_LL, ip_uI_uI, ip_uL_uL, ↓reduceIte, Bool.false_eq_true])
end
noncomputable section
-- PART 69.ops5
-- THE REFERENCE: the next step tried, done
def s_I (a b : Nat) : Bool := (a == 108 && (b == 17 || (b == 18 || (b == 27 || b == 29)))) || a == 119
def s_L (a b : Nat) : Bool := (a == 108 && (decide (13 ≤ b) && decide (b ≤ 26))) || a == 118
/-- alike but for what is reckoned aside -/
def scr (M M1 : ip_H) : Prop := M1.1 = M.1 ∧ M1.2.2.2 = M.2.2.2 ∧ (∀ a b, s_I a b = false → M1.2.1 a b = M.2.1 a b) ∧ ∀ a b, s_L a b = false → M1.2.2.1 a b = M.2.2.1 a b
theorem scr_r (M : ip_H) : scr M M := ⟨rfl, rfl, fun _ _ _ => rfl, fun _ _ _ => rfl⟩
theorem scr_t {M M1 M2 : ip_H} (h : scr M M1) (g : scr M1 M2) : scr M M2 := ⟨g.1.trans h.1, g.2.1.trans h.2.1, fun a b q => (g.2.2.1 a b q).trans (h.2.2.1 a b q), fun a b q => (g.2.2.2 a b q).trans (h.2.2.2 a b q)⟩
theorem scr_uI {M N : ip_H} {k j : Nat} {v : Int32} (h : scr M N) (q : s_I k j = true) : scr M (ip_uI N k j v) := by
  refine ⟨h.1, h.2.1, fun a b hab => ?_, h.2.2.2⟩
  rw [ip_uI_I, if_neg, h.2.2.1 a b hab]
  rintro ⟨rfl, rfl⟩
  rw [q] at hab
  cases hab
theorem scr_uL {M N : ip_H} {k j : Nat} {v : Int64} (h : scr M N) (q : s_L k j = true) : scr M (ip_uL N k j v) := by
  refine ⟨h.1, h.2.1, h.2.2.1, fun a b hab => ?_⟩
  rw [ip_uL_L, if_neg, h.2.2.2 a b hab]
  rintro ⟨rfl, rfl⟩
  rw [q] at hab
  cases hab
theorem scr_x4 {M N : ip_H} {a b c d : Int} (h : scr M N) : scr M (ip_x4 N a b c d) := scr_uL (scr_uL (scr_uL (scr_uL h rfl) rfl) rfl) rfl
theorem scr_pt {M N : ip_H} {fu fv t : Int32} {f g : Int × Int × Int × Int} (h : scr M N) : scr M (c_pt N fu fv t f g) := scr_uL (scr_uL (scr_uL (scr_uL (scr_uL (scr_uL (scr_uL (scr_uL (scr_uI (scr_uI (scr_uI h rfl) rfl) rfl) rfl) rfl) rfl) rfl) rfl) rfl) rfl) rfl
theorem scr_sq {M N : ip_H} {B : Bool} {g : Nat → Int64} {a b : Int64} {t : Bool} (h : scr M N) : scr M (c_sq N B g a b t) := scr_uL (scr_uL (scr_uL (scr_uL (scr_uL (scr_uL (scr_uL (scr_uL (scr_uL (scr_uI h rfl) rfl) rfl) rfl) rfl) rfl) rfl) rfl) rfl) rfl
theorem scr_G {M M1 : ip_H} (h : scr M M1) (hG : ip_G M) : ip_G M1 := ⟨h.1.trans hG.1, fun k j a b => by rw [h.2.1]; exact hG.2 k j a b⟩
theorem scr_row {M M1 : ip_H} (h : scr M M1) : M1.2.1 109 = M.2.1 109 := funext fun b => h.2.2.1 109 b rfl
theorem scr_110 {M M1 : ip_H} (h : scr M M1) : M1.2.2.1 110 = M.2.2.1 110 := funext fun b => h.2.2.2 110 b rfl
/-- four of what comes -/
def c_cm (M : ip_H) (f : Nat) (a b c d : Int32) : ip_H := ip_uI (ip_uI (ip_uI (ip_uI M 119 f a) 119 (f + 1) b) 119 (f + 2) c) 119 (f + 3) d
theorem c_cm_I (M : ip_H) (f : Nat) (a b c d : Int32) (p q : Nat) : (c_cm M f a b c d).2.1 p q = if p = 119 ∧ q = f + 3 then d else if p = 119 ∧ q = f + 2 then c else if p = 119 ∧ q = f + 1 then b else if p = 119 ∧ q = f then a else M.2.1 p q := rfl
theorem c_cm_L (M : ip_H) (f : Nat) (a b c d : Int32) : (c_cm M f a b c d).2.2.1 = M.2.2.1 := rfl
theorem scr_cm {M N : ip_H} {f : Nat} {a b c d : Int32} (h : scr M N) : scr M (c_cm N f a b c d) := scr_uI (scr_uI (scr_uI (scr_uI h (by unfold s_I; simp)) (by unfold s_I; simp)) (by unfold s_I; simp)) (by unfold s_I; simp)
def c_nz (f : Int × Int × Int × Int) : Prop := ¬ (f.1 = 0 ∧ f.2.1 = 0 ∧ f.2.2.1 = 0)
/-- the bounds of what is left over -/
def c_fb (f : Int × Int × Int × Int) : Prop := zb 20000 f.1 ∧ zb 200 f.2.1 ∧ zb 200 f.2.2.1 ∧ 1 ≤ f.2.2.2 ∧ f.2.2.2 ≤ 150
def zQ4 (p q r : Int) (g f : Int × Int × Int × Int) : Int × Int × Int × Int := zl (zQ p q r g.1 g.2.1 g.2.2.1 g.2.2.2 f.1 f.2.1 f.2.2.1 f.2.2.2)
/-- a value can be, its floor is 99 at most -/
def z_nxt (p q r : Int) (z : Int × Int × Int × Int) : Bool := zcan z && !decide (99 < c_f4 p q r z)
theorem c_x4_sh (M : ip_H) (z : Int × Int × Int × Int) (k : Nat) : ip_sh (c_x4 M z) k = ip_sh M k := rfl
theorem c_pt_110 (M : ip_H) (fu fv t : Int32) (f g : Int × Int × Int × Int) : (c_pt M fu fv t f g).2.2.1 110 = M.2.2.1 110 := by
  funext b
  rw [c_pt_L, if_neg (by omega), if_neg (by omega), if_neg (by omega), if_neg (by omega), if_neg (by omega), if_neg (by omega), if_neg (by omega), if_neg (by omega)]
theorem zQ4_b {p q r : Int} {g f : Int × Int × Int × Int} (hF : zF p q r = true) (hg : c_fb g) (hf : c_fb f) (h0 : c_nz f) : zb 13500000000000000 (zQ4 p q r g f).1 ∧ zb 13500000000000000 (zQ4 p q r g f).2.1 ∧ zb 13500000000000000 (zQ4 p q r g f).2.2.1 ∧ zb 13500000000000000 (zQ4 p q r g f).2.2.2 ∧ 1 ≤ (zQ4 p q r g f).2.2.2 := by
  obtain ⟨a1, a2, a3, a4, a5⟩ := hg
  obtain ⟨b1, b2, b3, b4, b5⟩ := hf
  obtain ⟨c1, c2, c3, c4, c5⟩ := zQ_b hF a1 a2 a3 ⟨a4, a5⟩ ⟨b4, b5⟩ b1 b2 b3 h0
  obtain ⟨g1, g2, g3, g4⟩ := zl_b c1 c2 c3 c4
  exact ⟨g1, g2, g3, g4, zl_d c5⟩

set_option maxHeartbeats 40000000 in
set_option maxRecDepth 100000 in
theorem s_218_0 (X : ip_X) (M : ip_H) (K : Option Value → ip_H → Prop) (z : Int × Int × Int × Int) (g1 : zb 13500000000000000 z.1) (g2 : zb 13500000000000000 z.2.1) (g3 : zb 13500000000000000 z.2.2.1) (g4 : zb 13500000000000000 z.2.2.2) (hG : ip_G M) (hq : q3 (M.2.1 109 1) = true) : ip_wp X 218 0 [.ref 108, .int 0] [] (c_x4 M z) K = if z_nxt (M.2.1 109 0).toInt (M.2.1 109 1).toInt (M.2.1 109 2).toInt z = true then K (some (.int 1)) (c_cm (c_x4 M z) 0 (Int32.ofInt z.1) (Int32.ofInt z.2.1) (Int32.ofInt z.2.2.1) (Int32.ofInt z.2.2.2)) else K (some (.int 0)) (c_x4 M z) := by
  unfold z_nxt c_cm c_x4
  cases hc : zcan z
  · have hc' := hc
    unfold zcan at hc'
    simp (config := { maxSteps := 10000000, maxDischargeDepth := 30, decide := true }) only [w218_0, w218_1, w218_4, w218_7, w218_8, w218_9, w218_12, w218_13, w218_16, w218_17, w218_20, w218_21, w218_24, w218_27, w218_29, w218_32, w218_33, w218_34, w218_35, w218_38, w218_39, w218_40, w218_43, w218_44, w218_45, w218_46, w218_49, w218_50, w218_51, w218_52, w218_53, w218_56, w218_57, w218_58, w218_59, w218_62, w218_63, w218_64, w218_65, w218_66, w218_69, w218_70, w218_71, w218_72, w218_75, w218_76, w218_77, w218_78, w218_79, w218_82, w218_83, w218_84, w218_85, ↓ip_ka0, Option.toList_some, List.nil_append, List.cons_append, List.length_nil, ↓reduceIte, Nat.zero_le, or_false, ip_b_f, gS_108 hG, hG, s_190, hc', Bool.false_and, Bool.false_eq_true, ip_x4_sh, gG_x4, ip_x4_L]
  · unfold zcan at hc
    by_cases hl : 99 < c_f4 (M.2.1 109 0).toInt (M.2.1 109 1).toInt (M.2.1 109 2).toInt z
    · have hl' := hl
      unfold c_f4 at hl'
      simp (config := { maxSteps := 10000000, maxDischargeDepth := 30, decide := true }) only [w218_0, w218_1, w218_4, w218_7, w218_8, w218_9, w218_12, w218_13, w218_16, w218_17, w218_20, w218_21, w218_24, w218_27, w218_29, w218_32, w218_33, w218_34, w218_35, w218_38, w218_39, w218_40, w218_43, w218_44, w218_45, w218_46, w218_49, w218_50, w218_51, w218_52, w218_53, w218_56, w218_57, w218_58, w218_59, w218_62, w218_63, w218_64, w218_65, w218_66, w218_69, w218_70, w218_71, w218_72, w218_75, w218_76, w218_77, w218_78, w218_79, w218_82, w218_83, w218_84, w218_85, ↓ip_ka0, Option.toList_some, List.nil_append, List.cons_append, List.length_nil, ↓reduceIte, Nat.zero_le, or_false, ip_b_t, gS_108 hG, hG, hq, s_190, s_186, hc, hl, hl', decide_true, Bool.not_true, Bool.and_false, Bool.false_eq_true, ip_x4_I, ip_x4_sh, gG_x4, ip_x4_L]
    · have hl' := hl
      unfold c_f4 at hl'
      simp (config := { maxSteps := 10000000, maxDischargeDepth := 30, decide := true }) only [w218_0, w218_1, w218_4, w218_7, w218_8, w218_9, w218_12, w218_13, w218_16, w218_17, w218_20, w218_21, w218_24, w218_27, w218_29, w218_32, w218_33, w218_34, w218_35, w218_38, w218_39, w218_40, w218_43, w218_44, w218_45, w218_46, w218_49, w218_50, w218_51, w218_52, w218_53, w218_56, w218_57, w218_58, w218_59, w218_62, w218_63, w218_64, w218_65, w218_66, w218_69, w218_70, w218_71, w218_72, w218_75, w218_76, w218_77, w218_78, w218_79, w218_82, w218_83, w218_84, w218_85, ↓ip_ka0, ↓ip_ki1, ip_uI_L, ip_uI_R, ip_uI_sh, ip_vr_some, Option.toList_some, List.nil_append, List.cons_append, List.length_nil, ↓reduceIte, Nat.zero_add, Nat.zero_le, or_true, ip_b_t, Int32.reduceAdd, Int32.reduceToNatClampNeg, ip_ix_eq, gS_108 hG, gS_119 hG, gR_108_30 hG, hG, hq, s_190, s_186, z_l2i, hc, hl, hl', decide_false, Bool.not_false, Bool.and_true, ip_x4_I, ip_x4_R, ip_x4_sh, gG_x4, ip_x4_L]

set_option maxHeartbeats 40000000 in
set_option maxRecDepth 100000 in
theorem s_218_4 (X : ip_X) (M : ip_H) (K : Option Value → ip_H → Prop) (z : Int × Int × Int × Int) (g1 : zb 13500000000000000 z.1) (g2 : zb 13500000000000000 z.2.1) (g3 : zb 13500000000000000 z.2.2.1) (g4 : zb 13500000000000000 z.2.2.2) (hG : ip_G M) (hq : q3 (M.2.1 109 1) = true) : ip_wp X 218 0 [.ref 108, .int 4] [] (c_x4 M z) K = if z_nxt (M.2.1 109 0).toInt (M.2.1 109 1).toInt (M.2.1 109 2).toInt z = true then K (some (.int 1)) (c_cm (c_x4 M z) 4 (Int32.ofInt z.1) (Int32.ofInt z.2.1) (Int32.ofInt z.2.2.1) (Int32.ofInt z.2.2.2)) else K (some (.int 0)) (c_x4 M z) := by
  unfold z_nxt c_cm c_x4
  cases hc : zcan z
  · have hc' := hc
    unfold zcan at hc'
    simp (config := { maxSteps := 10000000, maxDischargeDepth := 30, decide := true }) only [w218_0, w218_1, w218_4, w218_7, w218_8, w218_9, w218_12, w218_13, w218_16, w218_17, w218_20, w218_21, w218_24, w218_27, w218_29, w218_32, w218_33, w218_34, w218_35, w218_38, w218_39, w218_40, w218_43, w218_44, w218_45, w218_46, w218_49, w218_50, w218_51, w218_52, w218_53, w218_56, w218_57, w218_58, w218_59, w218_62, w218_63, w218_64, w218_65, w218_66, w218_69, w218_70, w218_71, w218_72, w218_75, w218_76, w218_77, w218_78, w218_79, w218_82, w218_83, w218_84, w218_85, ↓ip_ka0, Option.toList_some, List.nil_append, List.cons_append, List.length_nil, ↓reduceIte, Nat.zero_le, or_false, ip_b_f, gS_108 hG, hG, s_190, hc', Bool.false_and, Bool.false_eq_true, ip_x4_sh, gG_x4, ip_x4_L]
  · unfold zcan at hc
    by_cases hl : 99 < c_f4 (M.2.1 109 0).toInt (M.2.1 109 1).toInt (M.2.1 109 2).toInt z
    · have hl' := hl
      unfold c_f4 at hl'
      simp (config := { maxSteps := 10000000, maxDischargeDepth := 30, decide := true }) only [w218_0, w218_1, w218_4, w218_7, w218_8, w218_9, w218_12, w218_13, w218_16, w218_17, w218_20, w218_21, w218_24, w218_27, w218_29, w218_32, w218_33, w218_34, w218_35, w218_38, w218_39, w218_40, w218_43, w218_44, w218_45, w218_46, w218_49, w218_50, w218_51, w218_52, w218_53, w218_56, w218_57, w218_58, w218_59, w218_62, w218_63, w218_64, w218_65, w218_66, w218_69, w218_70, w218_71, w218_72, w218_75, w218_76, w218_77, w218_78, w218_79, w218_82, w218_83, w218_84, w218_85, ↓ip_ka0, Option.toList_some, List.nil_append, List.cons_append, List.length_nil, ↓reduceIte, Nat.zero_le, or_false, ip_b_t, gS_108 hG, hG, hq, s_190, s_186, hc, hl, hl', decide_true, Bool.not_true, Bool.and_false, Bool.false_eq_true, ip_x4_I, ip_x4_sh, gG_x4, ip_x4_L]
    · have hl' := hl
      unfold c_f4 at hl'
      simp (config := { maxSteps := 10000000, maxDischargeDepth := 30, decide := true }) only [w218_0, w218_1, w218_4, w218_7, w218_8, w218_9, w218_12, w218_13, w218_16, w218_17, w218_20, w218_21, w218_24, w218_27, w218_29, w218_32, w218_33, w218_34, w218_35, w218_38, w218_39, w218_40, w218_43, w218_44, w218_45, w218_46, w218_49, w218_50, w218_51, w218_52, w218_53, w218_56, w218_57, w218_58, w218_59, w218_62, w218_63, w218_64, w218_65, w218_66, w218_69, w218_70, w218_71, w218_72, w218_75, w218_76, w218_77, w218_78, w218_79, w218_82, w218_83, w218_84, w218_85, ↓ip_ka0, ↓ip_ki1, ip_uI_L, ip_uI_R, ip_uI_sh, ip_vr_some, Option.toList_some, List.nil_append, List.cons_append, List.length_nil, ↓reduceIte, Nat.reduceAdd, Nat.zero_le, or_true, ip_b_t, Int32.reduceAdd, Int32.reduceToNatClampNeg, ip_ix_eq, gS_108 hG, gS_119 hG, gR_108_30 hG, hG, hq, s_190, s_186, z_l2i, hc, hl, hl', decide_false, Bool.not_false, Bool.and_true, ip_x4_I, ip_x4_R, ip_x4_sh, gG_x4, ip_x4_L]

set_option maxHeartbeats 40000000 in
set_option maxRecDepth 100000 in
theorem s_219a (X : ip_X) (M : ip_H) (K : Option Value → ip_H → Prop) (hG : ip_G M) (hq : q3 (M.2.1 109 1) = true) (hk : M.2.1 109 5 = Int32.ofNat (r_k (M.2.1 109))) (hk6 : r_k (M.2.1 109) ≤ 60) (n60 : r_k (M.2.1 109) ≠ 60) (hB : (q_c false (M.2.2.1 110) (r_fu (M.2.1 109)).toInt64 (r_fv (M.2.1 109)).toInt64).2 = true) : ip_wp X 219 0 [.ref 108] [] M K = K (some (.int 0)) (c_sq (ip_uI (c_pm M) 108 29 0) false (M.2.2.1 110) (r_fu (M.2.1 109)).toInt64 (r_fv (M.2.1 109)).toInt64 (r_t (M.2.1 109))) := by
  have e60 : (Int32.ofNat (r_k (M.2.1 109)) = 60) = False := by rw [show (60 : Int32) = Int32.ofNat 60 from rfl, ip_neq _ _ (by omega) (by decide)]; exact eq_false n60
  unfold c_pm
  cases ht : r_t (M.2.1 109) <;> simp (config := { maxSteps := 10000000, maxDischargeDepth := 30, decide := true }) only [w219_0, w219_1, w219_4, w219_5, w219_6, w219_8, w219_11, w219_12, w219_13, w219_14, w219_17, w219_18, w219_19, w219_22, w219_23, w219_24, w219_27, w219_28, w219_31, w219_32, w219_35, w219_36, w219_39, w219_42, w219_43, w219_46, w219_47, w219_50, w219_51, w219_54, w219_57, w219_58, ↓ip_ka0, ip_uI_I, ip_uI_L, ip_uI_R, ip_uI_sh, ip_vr_some, Option.toList_none, List.nil_append, List.length_nil, ↓reduceIte, Nat.zero_le, or_false, gG_uI, ip_b_t, ip_b_f, Int32.reduceToNatClampNeg, ip_ix_eq, gS_108 hG, gS_109 hG, gR_108_1 hG, gR_108_2 hG, hG, hq, hk6, s_213, hk, e60, s_217_110, c_pm, b1_b, b1_0, b1_1, z01_0, z01_1, z01_b, hB, ht, ip_uI_row, c_pt_110, c_pt_1, c_pt_R, c_pt_sh, gG_pt, c_pt_I, c_pt_L, c_pt_row, c_sq_1, c_sq_R, c_sq_sh, gG_sq, c_sq_I, c_sq_L, c_sq_row]

set_option maxHeartbeats 40000000 in
set_option maxRecDepth 100000 in
theorem s_219b (X : ip_X) (M : ip_H) (K : Option Value → ip_H → Prop) (hG : ip_G M) (hq : q3 (M.2.1 109 1) = true) (hk : M.2.1 109 5 = Int32.ofNat (r_k (M.2.1 109))) (hk6 : r_k (M.2.1 109) ≤ 60) (n60 : r_k (M.2.1 109) ≠ 60) (hB : (q_c false (M.2.2.1 110) (r_fu (M.2.1 109)).toInt64 (r_fv (M.2.1 109)).toInt64).2 = false) : ip_wp X 219 0 [.ref 108] [] M K = ip_wp X 219 59 [.ref 108] [] (c_sq (ip_uI (c_pm M) 108 29 0) false (M.2.2.1 110) (r_fu (M.2.1 109)).toInt64 (r_fv (M.2.1 109)).toInt64 (r_t (M.2.1 109))) K := by
  have e60 : (Int32.ofNat (r_k (M.2.1 109)) = 60) = False := by rw [show (60 : Int32) = Int32.ofNat 60 from rfl, ip_neq _ _ (by omega) (by decide)]; exact eq_false n60
  unfold c_pm
  cases ht : r_t (M.2.1 109) <;> simp (config := { maxSteps := 10000000, maxDischargeDepth := 30, decide := true }) only [w219_0, w219_1, w219_4, w219_5, w219_6, w219_8, w219_11, w219_12, w219_13, w219_14, w219_17, w219_18, w219_19, w219_22, w219_23, w219_24, w219_27, w219_28, w219_31, w219_32, w219_35, w219_36, w219_39, w219_42, w219_43, w219_46, w219_47, w219_50, w219_51, w219_54, w219_57, w219_58, ↓ip_ka0, ip_uI_I, ip_uI_L, ip_uI_R, ip_uI_sh, ip_vr_some, Option.toList_none, List.nil_append, List.length_nil, ↓reduceIte, Nat.zero_le, or_false, gG_uI, ip_b_t, ip_b_f, Int32.reduceToNatClampNeg, ip_ix_eq, gS_108 hG, gS_109 hG, gR_108_1 hG, gR_108_2 hG, hG, hq, hk6, s_213, hk, e60, s_217_110, c_pm, b1_b, b1_0, b1_1, z01_0, z01_1, z01_b, hB, ht, ip_uI_row, c_pt_110, c_pt_1, c_pt_R, c_pt_sh, gG_pt, c_pt_I, c_pt_L, c_pt_row, c_sq_1, c_sq_R, c_sq_sh, gG_sq, c_sq_I, c_sq_L, c_sq_row]

set_option maxHeartbeats 40000000 in
set_option maxRecDepth 100000 in
theorem s_219d (X : ip_X) (S : ip_H) (K : Option Value → ip_H → Prop) (p q r : Int) (f : Int × Int × Int × Int) (GS : ip_G S) (hp : (S.2.1 109 0).toInt = p) (hqq : (S.2.1 109 1).toInt = q) (hr : (S.2.1 109 2).toInt = r) (hF : zF p q r = true) (bf : c_fb f) (f0 : c_nz f) (q19 : S.2.2.1 108 19 = Int64.ofInt f.1) (q20 : S.2.2.1 108 20 = Int64.ofInt f.2.1) (q21 : S.2.2.1 108 21 = Int64.ofInt f.2.2.1) (q22 : S.2.2.1 108 22 = Int64.ofInt f.2.2.2)
    (v : Int × Int × Int × Int) (hv : v = zQ4 p q r (1, 0, 0, 1) f) (h0 : K (some (.int 0)) (c_x4 S v)) (h1 : z_nxt p q r v = true → K (some (.int 1)) (c_cm (c_x4 S v) 4 (Int32.ofInt v.1) (Int32.ofInt v.2.1) (Int32.ofInt v.2.2.1) (Int32.ofInt v.2.2.2))) : ip_wp X 219 105 [.ref 108] [] S K := by
  subst hp hqq hr
  have hqS : q3 (S.2.1 109 1) = true := by rw [q3_b]; exact (zF_b hF).2.1
  have gS8 := gS_108 GS
  have bb : c_fb (1, 0, 0, 1) := ⟨zb_c _ _ (by decide) (by decide), zb_c _ _ (by decide) (by decide), zb_c _ _ (by decide) (by decide), by decide, by decide⟩
  obtain ⟨v1, v2, v3, v4, v5⟩ := zQ4_b hF bb bf f0
  rw [← hv] at v1 v2 v3 v4
  have l1 : (1 : Int64) = Int64.ofInt 1 := rfl
  have l0 : (0 : Int64) = Int64.ofInt 0 := rfl
  simp (config := { maxSteps := 10000000, maxDischargeDepth := 30, decide := true }) only [w219_105, w219_106, w219_107, w219_108, w219_109, w219_110, w219_111, w219_114, w219_115, w219_118, w219_119, w219_122, w219_123, w219_126, ↓ip_ka0, List.length_nil, Nat.zero_le, gS8, GS, q19, q20, q21, q22, l1, l0]
  refine Eq.mpr (s_192 X S _ 1 0 0 1 f.1 f.2.1 f.2.2.1 f.2.2.2 GS hF bb.1 bb.2.1 bb.2.2.1 bb.2.2.2 bf.2.2.2 bf.1 bf.2.1 bf.2.2.1 f0) ?_
  have eV : ip_wp X 219 129 [.ref 108] [] (c_x4 S v) K := by
    simp (config := { maxSteps := 10000000, maxDischargeDepth := 30, decide := true }) only [w219_129, w219_130, w219_131, ↓ip_ka0, List.length_nil, Nat.zero_le, gS8, GS, c_x4_sh]
    refine Eq.mpr (s_218_4 X S _ v v1 v2 v3 v4 GS hqS) ?_
    split
    · rename_i hz2
      simp (config := { maxSteps := 10000000, maxDischargeDepth := 30, decide := true }) only [w219_134, Option.toList_some, List.nil_append, List.cons_append, or_true]
      exact h1 hz2
    · simp (config := { maxSteps := 10000000, maxDischargeDepth := 30, decide := true }) only [w219_134, Option.toList_some, List.nil_append, List.cons_append, or_false]
      exact h0
  rw [hv] at eV
  exact eV

set_option maxHeartbeats 40000000 in
set_option maxRecDepth 100000 in
theorem s_219c (X : ip_X) (S : ip_H) (K : Option Value → ip_H → Prop) (p q r : Int) (f g : Int × Int × Int × Int) (GS : ip_G S) (hp : (S.2.1 109 0).toInt = p) (hqq : (S.2.1 109 1).toInt = q) (hr : (S.2.1 109 2).toInt = r) (hF : zF p q r = true) (bf : c_fb f) (bg : c_fb g) (f0 : c_nz f) (q19 : S.2.2.1 108 19 = Int64.ofInt f.1) (q20 : S.2.2.1 108 20 = Int64.ofInt f.2.1) (q21 : S.2.2.1 108 21 = Int64.ofInt f.2.2.1) (q22 : S.2.2.1 108 22 = Int64.ofInt f.2.2.2) (q23 : S.2.2.1 108 23 = Int64.ofInt g.1) (q24 : S.2.2.1 108 24 = Int64.ofInt g.2.1) (q25 : S.2.2.1 108 25 = Int64.ofInt g.2.2.1) (q26 : S.2.2.1 108 26 = Int64.ofInt g.2.2.2)
    (u v : Int × Int × Int × Int) (hu : u = zQ4 p q r g f) (hv : v = zQ4 p q r (1, 0, 0, 1) f)
    (h0 : K (some (.int 0)) (c_x4 S u)) (h0' : K (some (.int 0)) (c_x4 (c_cm (c_x4 S u) 0 (Int32.ofInt u.1) (Int32.ofInt u.2.1) (Int32.ofInt u.2.2.1) (Int32.ofInt u.2.2.2)) v)) (h1 : z_nxt p q r u = true → z_nxt p q r v = true → K (some (.int 1)) (c_cm (c_x4 (c_cm (c_x4 S u) 0 (Int32.ofInt u.1) (Int32.ofInt u.2.1) (Int32.ofInt u.2.2.1) (Int32.ofInt u.2.2.2)) v) 4 (Int32.ofInt v.1) (Int32.ofInt v.2.1) (Int32.ofInt v.2.2.1) (Int32.ofInt v.2.2.2))) : ip_wp X 219 59 [.ref 108] [] S K := by
  have hS1 := hp
  have hS2 := hqq
  have hS3 := hr
  subst hp hqq hr
  have hqS : q3 (S.2.1 109 1) = true := by rw [q3_b]; exact (zF_b hF).2.1
  have gS8 := gS_108 GS
  obtain ⟨v1, v2, v3, v4, v5⟩ := zQ4_b hF bg bf f0
  rw [← hu] at v1 v2 v3 v4
  simp (config := { maxSteps := 10000000, maxDischargeDepth := 30, decide := true }) only [w219_59, w219_60, w219_61, w219_64, w219_65, w219_68, w219_69, w219_72, w219_73, w219_76, w219_77, w219_80, w219_81, w219_84, w219_85, w219_88, w219_89, w219_92, ↓ip_ka0, List.length_nil, Nat.zero_le, gS8, GS, q19, q20, q21, q22, q23, q24, q25, q26]
  refine Eq.mpr (s_192 X S _ g.1 g.2.1 g.2.2.1 g.2.2.2 f.1 f.2.1 f.2.2.1 f.2.2.2 GS hF bg.1 bg.2.1 bg.2.2.1 bg.2.2.2 bf.2.2.2 bf.1 bf.2.1 bf.2.2.1 f0) ?_
  have eV : ip_wp X 219 95 [.ref 108] [] (c_x4 S u) K := by
    simp (config := { maxSteps := 10000000, maxDischargeDepth := 30, decide := true }) only [w219_95, w219_96, w219_97, ↓ip_ka0, List.length_nil, Nat.zero_le, gS8, GS, c_x4_sh]
    refine Eq.mpr (s_218_0 X S _ u v1 v2 v3 v4 GS hqS) ?_
    split
    · rename_i hz2
      have h1 := h1 hz2
      simp (config := { maxSteps := 10000000, maxDischargeDepth := 30, decide := true }) only [w219_100, w219_103, w219_104, Option.toList_some, List.nil_append, List.cons_append, ↓reduceIte]
      exact s_219d X (c_cm (c_x4 S u) 0 (Int32.ofInt u.1) (Int32.ofInt u.2.1) (Int32.ofInt u.2.2.1) (Int32.ofInt u.2.2.2)) K _ _ _ f GS rfl rfl rfl hF bf f0 q19 q20 q21 q22 v hv h0' h1
    · simp (config := { maxSteps := 10000000, maxDischargeDepth := 30, decide := true }) only [w219_100, w219_103, w219_104, Option.toList_some, List.nil_append, List.cons_append, ↓reduceIte, or_false]
      exact h0
  rw [hu] at eV
  exact eV

set_option maxHeartbeats 40000000 in
set_option maxRecDepth 100000 in
theorem s_219 (X : ip_X) (M : ip_H) (K : Option Value → ip_H → Prop) (hG : ip_G M) (hq : q3 (M.2.1 109 1) = true) (hk : M.2.1 109 5 = Int32.ofNat (r_k (M.2.1 109))) (hk6 : r_k (M.2.1 109) ≤ 60) (hF : zF (M.2.1 109 0).toInt (M.2.1 109 1).toInt (M.2.1 109 2).toInt = true) (bf : c_fb (r_f (M.2.1 109))) (bg : c_fb (r_g (M.2.1 109))) (f0 : c_nz (r_f (M.2.1 109)))
    (h0 : ∀ M1, scr M M1 → K (some (.int 0)) M1)
    (h1 : ∀ M1, scr M M1 → r_k (M.2.1 109) ≠ 60 → (q_c false (M.2.2.1 110) (r_fu (M.2.1 109)).toInt64 (r_fv (M.2.1 109)).toInt64).2 = false → ∀ u v, u = (zQ4 (M.2.1 109 0).toInt (M.2.1 109 1).toInt (M.2.1 109 2).toInt (r_g (M.2.1 109)) (r_f (M.2.1 109))) → v = (zQ4 (M.2.1 109 0).toInt (M.2.1 109 1).toInt (M.2.1 109 2).toInt (1, 0, 0, 1) (r_f (M.2.1 109))) → z_nxt (M.2.1 109 0).toInt (M.2.1 109 1).toInt (M.2.1 109 2).toInt u = true → z_nxt (M.2.1 109 0).toInt (M.2.1 109 1).toInt (M.2.1 109 2).toInt v = true → M1 = c_cm (c_x4 (c_cm (c_x4 (c_sq (ip_uI (c_pm M) 108 29 0) false (M.2.2.1 110) (r_fu (M.2.1 109)).toInt64 (r_fv (M.2.1 109)).toInt64 (r_t (M.2.1 109))) u) 0 (Int32.ofInt u.1) (Int32.ofInt u.2.1) (Int32.ofInt u.2.2.1) (Int32.ofInt u.2.2.2)) v) 4 (Int32.ofInt v.1) (Int32.ofInt v.2.1) (Int32.ofInt v.2.2.1) (Int32.ofInt v.2.2.2) → K (some (.int 1)) M1) : ip_wp X 219 0 [.ref 108] [] M K := by
  have s1 : scr M (c_sq (ip_uI (c_pm M) 108 29 0) false (M.2.2.1 110) (r_fu (M.2.1 109)).toInt64 (r_fv (M.2.1 109)).toInt64 (r_t (M.2.1 109))) := scr_sq (scr_uI (scr_pt (scr_r M)) rfl)
  by_cases h60 : r_k (M.2.1 109) = 60
  · have e60 : (Int32.ofNat (r_k (M.2.1 109)) = 60) = True := eq_true (by rw [h60]; rfl)
    simp (config := { maxSteps := 10000000, maxDischargeDepth := 30, decide := true }) only [w219_0, w219_1, w219_4, w219_5, w219_6, w219_8, w219_11, w219_12, w219_13, w219_14, w219_17, w219_18, w219_19, w219_22, w219_23, w219_24, w219_27, w219_28, w219_31, w219_32, w219_35, w219_36, w219_39, w219_42, w219_43, w219_46, w219_47, w219_50, w219_51, w219_54, w219_57, w219_58, w219_59, w219_60, w219_61, w219_64, w219_65, w219_68, w219_69, w219_72, w219_73, w219_76, w219_77, w219_80, w219_81, w219_84, w219_85, w219_88, w219_89, w219_92, w219_95, w219_96, w219_97, w219_100, w219_103, w219_104, w219_105, w219_106, w219_107, w219_108, w219_109, w219_110, w219_111, w219_114, w219_115, w219_118, w219_119, w219_122, w219_123, w219_126, w219_129, w219_130, w219_131, w219_134, ↓ip_ka0, ip_vr_some, ↓reduceIte, or_false, Int32.reduceToNatClampNeg, ip_ix_eq, gS_108 hG, gS_109 hG, gR_108_1 hG, hk, e60]
    exact h0 M (scr_r M)
  cases hB : (q_c false (M.2.2.1 110) (r_fu (M.2.1 109)).toInt64 (r_fv (M.2.1 109)).toInt64).2
  · rw [s_219b X M K hG hq hk hk6 h60 hB]
    have rS := scr_row s1
    have q19 : (c_sq (ip_uI (c_pm M) 108 29 0) false (M.2.2.1 110) (r_fu (M.2.1 109)).toInt64 (r_fv (M.2.1 109)).toInt64 (r_t (M.2.1 109))).2.2.1 108 19 = Int64.ofInt (r_f (M.2.1 109)).1 := by rw [c_sq_L _ _ _ _ _ _ _ _ (by decide)]; rfl
    have q20 : (c_sq (ip_uI (c_pm M) 108 29 0) false (M.2.2.1 110) (r_fu (M.2.1 109)).toInt64 (r_fv (M.2.1 109)).toInt64 (r_t (M.2.1 109))).2.2.1 108 20 = Int64.ofInt (r_f (M.2.1 109)).2.1 := by rw [c_sq_L _ _ _ _ _ _ _ _ (by decide)]; rfl
    have q21 : (c_sq (ip_uI (c_pm M) 108 29 0) false (M.2.2.1 110) (r_fu (M.2.1 109)).toInt64 (r_fv (M.2.1 109)).toInt64 (r_t (M.2.1 109))).2.2.1 108 21 = Int64.ofInt (r_f (M.2.1 109)).2.2.1 := by rw [c_sq_L _ _ _ _ _ _ _ _ (by decide)]; rfl
    have q22 : (c_sq (ip_uI (c_pm M) 108 29 0) false (M.2.2.1 110) (r_fu (M.2.1 109)).toInt64 (r_fv (M.2.1 109)).toInt64 (r_t (M.2.1 109))).2.2.1 108 22 = Int64.ofInt (r_f (M.2.1 109)).2.2.2 := by rw [c_sq_L _ _ _ _ _ _ _ _ (by decide)]; rfl
    have q23 : (c_sq (ip_uI (c_pm M) 108 29 0) false (M.2.2.1 110) (r_fu (M.2.1 109)).toInt64 (r_fv (M.2.1 109)).toInt64 (r_t (M.2.1 109))).2.2.1 108 23 = Int64.ofInt (r_g (M.2.1 109)).1 := by rw [c_sq_L _ _ _ _ _ _ _ _ (by decide)]; rfl
    have q24 : (c_sq (ip_uI (c_pm M) 108 29 0) false (M.2.2.1 110) (r_fu (M.2.1 109)).toInt64 (r_fv (M.2.1 109)).toInt64 (r_t (M.2.1 109))).2.2.1 108 24 = Int64.ofInt (r_g (M.2.1 109)).2.1 := by rw [c_sq_L _ _ _ _ _ _ _ _ (by decide)]; rfl
    have q25 : (c_sq (ip_uI (c_pm M) 108 29 0) false (M.2.2.1 110) (r_fu (M.2.1 109)).toInt64 (r_fv (M.2.1 109)).toInt64 (r_t (M.2.1 109))).2.2.1 108 25 = Int64.ofInt (r_g (M.2.1 109)).2.2.1 := by rw [c_sq_L _ _ _ _ _ _ _ _ (by decide)]; rfl
    have q26 : (c_sq (ip_uI (c_pm M) 108 29 0) false (M.2.2.1 110) (r_fu (M.2.1 109)).toInt64 (r_fv (M.2.1 109)).toInt64 (r_t (M.2.1 109))).2.2.1 108 26 = Int64.ofInt (r_g (M.2.1 109)).2.2.2 := by rw [c_sq_L _ _ _ _ _ _ _ _ (by decide)]; rfl
    have h1 := fun M1 hs => h1 M1 hs h60 hB _ _ rfl rfl
    exact s_219c X _ K (M.2.1 109 0).toInt (M.2.1 109 1).toInt (M.2.1 109 2).toInt _ _ (scr_G s1 hG) (by rw [rS]) (by rw [rS]) (by rw [rS]) hF bf bg f0 q19 q20 q21 q22 q23 q24 q25 q26 _ _ rfl rfl (h0 _ (scr_x4 s1)) (h0 _ (scr_x4 (scr_cm (scr_x4 s1)))) (fun a b => h1 _ (scr_cm (scr_x4 (scr_cm (scr_x4 s1)))) a b rfl)
  · rw [s_219a X M K hG hq hk hk6 h60 hB]
    exact h0 _ s1
end
