noncomputable section
-- PART 63.rows
-- ROWS COPIED WHOLE
def c_cp {α : Type} (f g : Nat → α) (to so n : Nat) : Nat → α := fun j => if to ≤ j ∧ j < to + n then g (j - to + so) else f j
theorem c_cp_0 {α : Type} (f g : Nat → α) (to so : Nat) : c_cp f g to so 0 = f := by
  funext j
  unfold c_cp
  rw [if_neg (by omega)]
theorem c_cp_s {α : Type} (f g : Nat → α) (to so i : Nat) : (fun b => if b = to + i then g (so + i) else c_cp f g to so i b) = c_cp f g to so (i + 1) := by
  funext j
  unfold c_cp
  by_cases h : j = to + i
  · rw [if_pos h, if_pos (by omega), h, Nat.add_sub_cancel_left, Nat.add_comm]
  · rw [if_neg h]
    by_cases h2 : to ≤ j ∧ j < to + i
    · rw [if_pos h2, if_pos (by omega)]
    · rw [if_neg h2, if_neg (by omega)]
theorem c_cp_out {α : Type} (f g : Nat → α) (to so n j : Nat) (h : ¬ (to ≤ j ∧ j < to + n)) : c_cp f g to so n j = f j := if_neg h
theorem c_cp_in {α : Type} (f g : Nat → α) (to so n j : Nat) (h : j < n) : c_cp f g to so n (to + j) = g (so + j) := by
  unfold c_cp
  rw [if_pos (by omega), Nat.add_sub_cancel_left, Nat.add_comm]
theorem ip_oa (a b : Nat) : Int32.ofNat a + Int32.ofNat b = Int32.ofNat (a + b) := (Int32.ofNat_add a b).symm
theorem ip_om (a b : Nat) : Int32.ofNat a * Int32.ofNat b = Int32.ofNat (a * b) := (Int32.ofNat_mul a b).symm
theorem ip_osb (a b : Nat) (h : b ≤ a) : Int32.ofNat a - Int32.ofNat b = Int32.ofNat (a - b) := by
  have e : Int32.ofNat a = Int32.ofNat (a - b) + Int32.ofNat b := by rw [ip_oa]; congr 1; omega
  rw [e]
  apply Int32.toInt_inj.mp
  have : Int32.ofNat (a - b) + Int32.ofNat b - Int32.ofNat b = Int32.ofNat (a - b) := by grind
  rw [this]

set_option maxHeartbeats 40000000 in
set_option maxRecDepth 100000 in
theorem s_170a (X : ip_X) (M : ip_H) (K : Option Value → ip_H → Prop) (what : Int32) (hG : ip_G M) : ∀ (n i : Nat), i + n = 5747 → ip_wp X 170 13 [.ref 108, .int what, .int (Int32.ofNat (821 + i))] [] (ip_sI M 112 (c_cp (M.2.1 112) (M.2.1 112) (0) (821) i)) K = ip_wp X 170 42 [.ref 108, .int what, .int (Int32.ofNat 6568)] [] (ip_sI M 112 (c_cp (M.2.1 112) (M.2.1 112) (0) (821) 5747)) K := by
  intro n
  induction n with
  | zero =>
    intro i h
    have hi : i = 5747 := by omega
    subst hi
    have hk : (Int32.ofNat (821 + 5747) < 6568) = False := by decide +kernel
    simp (config := { maxSteps := 10000000, maxDischargeDepth := 30, decide := true }) only [w170_13, w170_14, w170_17, ↓ip_ki2, ↓reduceIte, Nat.reduceAdd, Int32.reduceOfNat, Nat.reduceAdd]
  | succ n ih =>
    intro i h
    have hk : (Int32.ofNat (821 + i) < 6568) = True := by rw [show (6568 : Int32) = Int32.ofNat 6568 from rfl, ip_nlt _ _ (by omega) (by decide)]; exact eq_true (by omega)
    have ei : Int32.ofNat (821 + i) + 1 = Int32.ofNat (821 + (i + 1)) := ip_oa (821 + i) 1
    have et : Int32.ofNat (821 + i) - 821 = Int32.ofNat (i) := by rw [show (821 : Int32) = Int32.ofNat 821 from rfl, ip_osb _ _ (by omega)]; congr 1; omega
    have nt : (Int32.ofNat (i) < 0) = False := eq_false (ip_nn _ (by omega))
    have ct : (Int32.ofNat (i)).toNatClampNeg = i := ip_nc _ (by omega)
    have lt : (i < 6568) = True := eq_true (by omega)
    have es : True := trivial
    have ns : (Int32.ofNat (821 + i) < 0) = False := eq_false (ip_nn _ (by omega))
    have cs : (Int32.ofNat (821 + i)).toNatClampNeg = 821 + i := ip_nc _ (by omega)
    have ls : (821 + i < 6568) = True := eq_true (by omega)
    have hrd : (c_cp (M.2.1 112) (M.2.1 112) (0) (821) i) (821 + i) = M.2.1 112 (821 + i) := c_cp_out _ _ _ _ _ _ (by omega)
    have eM : (ip_sI M 112 (c_cp (M.2.1 112) (M.2.1 112) (0) (821) (i + 1))) = ip_uI (ip_sI M 112 (c_cp (M.2.1 112) (M.2.1 112) (0) (821) i)) 112 (i) (M.2.1 112 (821 + i)) := by rw [ip_uI_sI, ← c_cp_s]; simp only [Nat.zero_add]
    have step : ∀ Z : Prop, ip_wp X 170 13 [.ref 108, .int what, .int (Int32.ofNat (821 + (i + 1)))] [] (ip_uI (ip_sI M 112 (c_cp (M.2.1 112) (M.2.1 112) (0) (821) i)) 112 (i) (M.2.1 112 (821 + i))) K = Z → ip_wp X 170 13 [.ref 108, .int what, .int (Int32.ofNat (821 + i))] [] (ip_sI M 112 (c_cp (M.2.1 112) (M.2.1 112) (0) (821) i)) K = Z := by
      intro Z hZ
      simp (config := { maxSteps := 10000000, maxDischargeDepth := 30, decide := true }) only [w170_13, w170_14, w170_17, w170_20, w170_21, w170_24, w170_25, w170_28, w170_29, w170_30, w170_33, w170_34, w170_35, w170_36, ↓ip_ka0, ↓ip_ki2, ip_get_0, ip_get_s, ip_set1, ip_clr_s, ip_cat_i, List.set_cons_zero, List.set_cons_succ, ip_vr_some, ↓reduceIte, Nat.reduceEqDiff, and_self, not_false_eq_true, ip_sI_I, ip_sI_R, ip_sI_sh, ip_ix_eq, hk, ei, et, nt, ct, lt, ns, cs, ls, hrd, gS_108 hG, gS_112 hG, gR_108_6 hG]
      rw [w170_39]
      exact hZ
    exact step _ ((congrArg (fun q => ip_wp X 170 13 [.ref 108, .int what, .int (Int32.ofNat (821 + (i + 1)))] [] q K) eM.symm).trans (ih (i + 1) (by omega)))
theorem s_170a0 (X : ip_X) (M : ip_H) (K : Option Value → ip_H → Prop) (what : Int32) (hG : ip_G M) : ip_wp X 170 13 [.ref 108, .int what, .int (Int32.ofNat 821)] [] M K = ip_wp X 170 42 [.ref 108, .int what, .int (Int32.ofNat 6568)] [] (ip_sI M 112 (c_cp (M.2.1 112) (M.2.1 112) (0) (821) 5747)) K := by
  have h := s_170a X M K what hG 5747 0 rfl
  rw [c_cp_0, ip_sI_id _ _ _ (fun _ => rfl)] at h
  exact h

set_option maxHeartbeats 40000000 in
set_option maxRecDepth 100000 in
theorem s_170b (X : ip_X) (M : ip_H) (K : Option Value → ip_H → Prop) (what : Int32) (hG : ip_G M) : ∀ (n i : Nat), i + n = 63 → ip_wp X 170 45 [.ref 108, .int what, .int (Int32.ofNat (9 + i))] [] (ip_sL M 115 (c_cp (M.2.2.1 115) (M.2.2.1 115) (0) (9) i)) K = ip_wp X 170 72 [.ref 108, .int what, .int (Int32.ofNat 72)] [] (ip_sL M 115 (c_cp (M.2.2.1 115) (M.2.2.1 115) (0) (9) 63)) K := by
  intro n
  induction n with
  | zero =>
    intro i h
    have hi : i = 63 := by omega
    subst hi
    have hk : (Int32.ofNat (9 + 63) < 72) = False := by decide +kernel
    simp (config := { maxSteps := 10000000, maxDischargeDepth := 30, decide := true }) only [w170_45, w170_46, w170_48, w170_51, ↓ip_ki2, ↓reduceIte, Nat.reduceAdd, Int32.reduceOfNat, Nat.reduceAdd]
  | succ n ih =>
    intro i h
    have hk : (Int32.ofNat (9 + i) < 72) = True := by rw [show (72 : Int32) = Int32.ofNat 72 from rfl, ip_nlt _ _ (by omega) (by decide)]; exact eq_true (by omega)
    have ei : Int32.ofNat (9 + i) + 1 = Int32.ofNat (9 + (i + 1)) := ip_oa (9 + i) 1
    have et : Int32.ofNat (9 + i) - 9 = Int32.ofNat (i) := by rw [show (9 : Int32) = Int32.ofNat 9 from rfl, ip_osb _ _ (by omega)]; congr 1; omega
    have nt : (Int32.ofNat (i) < 0) = False := eq_false (ip_nn _ (by omega))
    have ct : (Int32.ofNat (i)).toNatClampNeg = i := ip_nc _ (by omega)
    have lt : (i < 72) = True := eq_true (by omega)
    have es : True := trivial
    have ns : (Int32.ofNat (9 + i) < 0) = False := eq_false (ip_nn _ (by omega))
    have cs : (Int32.ofNat (9 + i)).toNatClampNeg = 9 + i := ip_nc _ (by omega)
    have ls : (9 + i < 72) = True := eq_true (by omega)
    have hrd : (c_cp (M.2.2.1 115) (M.2.2.1 115) (0) (9) i) (9 + i) = M.2.2.1 115 (9 + i) := c_cp_out _ _ _ _ _ _ (by omega)
    have eM : (ip_sL M 115 (c_cp (M.2.2.1 115) (M.2.2.1 115) (0) (9) (i + 1))) = ip_uL (ip_sL M 115 (c_cp (M.2.2.1 115) (M.2.2.1 115) (0) (9) i)) 115 (i) (M.2.2.1 115 (9 + i)) := by rw [ip_uL_sL, ← c_cp_s]; simp only [Nat.zero_add]
    have step : ∀ Z : Prop, ip_wp X 170 45 [.ref 108, .int what, .int (Int32.ofNat (9 + (i + 1)))] [] (ip_uL (ip_sL M 115 (c_cp (M.2.2.1 115) (M.2.2.1 115) (0) (9) i)) 115 (i) (M.2.2.1 115 (9 + i))) K = Z → ip_wp X 170 45 [.ref 108, .int what, .int (Int32.ofNat (9 + i))] [] (ip_sL M 115 (c_cp (M.2.2.1 115) (M.2.2.1 115) (0) (9) i)) K = Z := by
      intro Z hZ
      simp (config := { maxSteps := 10000000, maxDischargeDepth := 30, decide := true }) only [w170_45, w170_46, w170_48, w170_51, w170_52, w170_55, w170_56, w170_58, w170_59, w170_60, w170_63, w170_64, w170_65, w170_66, ↓ip_ka0, ↓ip_ki2, ip_get_0, ip_get_s, ip_set1, ip_clr_s, ip_cat_i, List.set_cons_zero, List.set_cons_succ, ip_vr_some, ↓reduceIte, Nat.reduceEqDiff, and_self, not_false_eq_true, ip_sL_L, ip_sL_R, ip_sL_sh, ip_ix_eq, hk, ei, et, nt, ct, lt, ns, cs, ls, hrd, gS_108 hG, gS_115 hG, gR_108_9 hG]
      rw [w170_69]
      exact hZ
    exact step _ ((congrArg (fun q => ip_wp X 170 45 [.ref 108, .int what, .int (Int32.ofNat (9 + (i + 1)))] [] q K) eM.symm).trans (ih (i + 1) (by omega)))
theorem s_170b0 (X : ip_X) (M : ip_H) (K : Option Value → ip_H → Prop) (what : Int32) (hG : ip_G M) : ip_wp X 170 45 [.ref 108, .int what, .int (Int32.ofNat 9)] [] M K = ip_wp X 170 72 [.ref 108, .int what, .int (Int32.ofNat 72)] [] (ip_sL M 115 (c_cp (M.2.2.1 115) (M.2.2.1 115) (0) (9) 63)) K := by
  have h := s_170b X M K what hG 63 0 rfl
  rw [c_cp_0, ip_sL_id _ _ _ (fun _ => rfl)] at h
  exact h

set_option maxHeartbeats 40000000 in
set_option maxRecDepth 100000 in
theorem s_170c (X : ip_X) (M : ip_H) (K : Option Value → ip_H → Prop) (what : Int32) (hG : ip_G M) : ∀ (n i : Nat), i + n = 7 → ip_wp X 170 74 [.ref 108, .int what, .int (Int32.ofNat (1 + i))] [] (ip_sI M 113 (c_cp (M.2.1 113) (M.2.1 113) (0) (1) i)) K = ip_wp X 170 100 [.ref 108, .int what, .int (Int32.ofNat 8)] [] (ip_sI M 113 (c_cp (M.2.1 113) (M.2.1 113) (0) (1) 7)) K := by
  intro n
  induction n with
  | zero =>
    intro i h
    have hi : i = 7 := by omega
    subst hi
    have hk : (Int32.ofNat (1 + 7) < 8) = False := by decide +kernel
    simp (config := { maxSteps := 10000000, maxDischargeDepth := 30, decide := true }) only [w170_74, w170_75, w170_77, w170_80, ↓ip_ki2, ↓reduceIte, Nat.reduceAdd, Int32.reduceOfNat, Nat.reduceAdd]
  | succ n ih =>
    intro i h
    have hk : (Int32.ofNat (1 + i) < 8) = True := by rw [show (8 : Int32) = Int32.ofNat 8 from rfl, ip_nlt _ _ (by omega) (by decide)]; exact eq_true (by omega)
    have ei : Int32.ofNat (1 + i) + 1 = Int32.ofNat (1 + (i + 1)) := ip_oa (1 + i) 1
    have et : Int32.ofNat (1 + i) - 1 = Int32.ofNat (i) := by rw [show (1 : Int32) = Int32.ofNat 1 from rfl, ip_osb _ _ (by omega)]; congr 1; omega
    have nt : (Int32.ofNat (i) < 0) = False := eq_false (ip_nn _ (by omega))
    have ct : (Int32.ofNat (i)).toNatClampNeg = i := ip_nc _ (by omega)
    have lt : (i < 8) = True := eq_true (by omega)
    have es : True := trivial
    have ns : (Int32.ofNat (1 + i) < 0) = False := eq_false (ip_nn _ (by omega))
    have cs : (Int32.ofNat (1 + i)).toNatClampNeg = 1 + i := ip_nc _ (by omega)
    have ls : (1 + i < 8) = True := eq_true (by omega)
    have hrd : (c_cp (M.2.1 113) (M.2.1 113) (0) (1) i) (1 + i) = M.2.1 113 (1 + i) := c_cp_out _ _ _ _ _ _ (by omega)
    have eM : (ip_sI M 113 (c_cp (M.2.1 113) (M.2.1 113) (0) (1) (i + 1))) = ip_uI (ip_sI M 113 (c_cp (M.2.1 113) (M.2.1 113) (0) (1) i)) 113 (i) (M.2.1 113 (1 + i)) := by rw [ip_uI_sI, ← c_cp_s]; simp only [Nat.zero_add]
    have step : ∀ Z : Prop, ip_wp X 170 74 [.ref 108, .int what, .int (Int32.ofNat (1 + (i + 1)))] [] (ip_uI (ip_sI M 113 (c_cp (M.2.1 113) (M.2.1 113) (0) (1) i)) 113 (i) (M.2.1 113 (1 + i))) K = Z → ip_wp X 170 74 [.ref 108, .int what, .int (Int32.ofNat (1 + i))] [] (ip_sI M 113 (c_cp (M.2.1 113) (M.2.1 113) (0) (1) i)) K = Z := by
      intro Z hZ
      simp (config := { maxSteps := 10000000, maxDischargeDepth := 30, decide := true }) only [w170_74, w170_75, w170_77, w170_80, w170_81, w170_84, w170_85, w170_86, w170_87, w170_88, w170_91, w170_92, w170_93, w170_94, ↓ip_ka0, ↓ip_ki2, ip_get_0, ip_get_s, ip_set1, ip_clr_s, ip_cat_i, List.set_cons_zero, List.set_cons_succ, ip_vr_some, ↓reduceIte, Nat.reduceEqDiff, and_self, not_false_eq_true, ip_sI_I, ip_sI_R, ip_sI_sh, ip_ix_eq, hk, ei, et, nt, ct, lt, ns, cs, ls, hrd, gS_108 hG, gS_113 hG, gR_108_7 hG]
      rw [w170_97]
      exact hZ
    exact step _ ((congrArg (fun q => ip_wp X 170 74 [.ref 108, .int what, .int (Int32.ofNat (1 + (i + 1)))] [] q K) eM.symm).trans (ih (i + 1) (by omega)))
theorem s_170c0 (X : ip_X) (M : ip_H) (K : Option Value → ip_H → Prop) (what : Int32) (hG : ip_G M) : ip_wp X 170 74 [.ref 108, .int what, .int (Int32.ofNat 1)] [] M K = ip_wp X 170 100 [.ref 108, .int what, .int (Int32.ofNat 8)] [] (ip_sI M 113 (c_cp (M.2.1 113) (M.2.1 113) (0) (1) 7)) K := by
  have h := s_170c X M K what hG 7 0 rfl
  rw [c_cp_0, ip_sI_id _ _ _ (fun _ => rfl)] at h
  exact h

set_option maxHeartbeats 40000000 in
set_option maxRecDepth 100000 in
theorem s_170d (X : ip_X) (M : ip_H) (K : Option Value → ip_H → Prop) (what : Int32) (m : Nat) (hm : m ≤ 7) (h12 : M.2.1 108 12 = Int32.ofNat m) (hG : ip_G M) : ∀ (n i : Nat), i + n = 821 → ip_wp X 170 112 [.ref 108, .int what, .int (Int32.ofNat i)] [] (ip_sI M 112 (c_cp (M.2.1 112) (M.2.1 109) (821 * m) (0) i)) K = ip_wp X 170 146 [.ref 108, .int what, .int (Int32.ofNat 821)] [] (ip_sI M 112 (c_cp (M.2.1 112) (M.2.1 109) (821 * m) (0) 821)) K := by
  intro n
  induction n with
  | zero =>
    intro i h
    have hi : i = 821 := by omega
    subst hi
    have hk : (Int32.ofNat 821 < 821) = False := by decide +kernel
    simp (config := { maxSteps := 10000000, maxDischargeDepth := 30, decide := true }) only [w170_112, w170_113, w170_116, ↓ip_ki2, ↓reduceIte, Int32.reduceOfNat]
  | succ n ih =>
    intro i h
    have hk : (Int32.ofNat i < 821) = True := by rw [show (821 : Int32) = Int32.ofNat 821 from rfl, ip_nlt _ _ (by omega) (by decide)]; exact eq_true (by omega)
    have ei : Int32.ofNat i + 1 = Int32.ofNat (i + 1) := ip_oa i 1
    have et : 821 * Int32.ofNat m + Int32.ofNat i = Int32.ofNat (821 * m + i) := by rw [show (821 : Int32) = Int32.ofNat 821 from rfl, ip_om, ip_oa]
    have nt : (Int32.ofNat (821 * m + i) < 0) = False := eq_false (ip_nn _ (by omega))
    have ct : (Int32.ofNat (821 * m + i)).toNatClampNeg = 821 * m + i := ip_nc _ (by omega)
    have lt : (821 * m + i < 6568) = True := eq_true (by omega)
    have es : True := trivial
    have ns : (Int32.ofNat (i) < 0) = False := eq_false (ip_nn _ (by omega))
    have cs : (Int32.ofNat (i)).toNatClampNeg = i := ip_nc _ (by omega)
    have ls : (i < 821) = True := eq_true (by omega)
    have hrd : True := trivial
    have eM : (ip_sI M 112 (c_cp (M.2.1 112) (M.2.1 109) (821 * m) (0) (i + 1))) = ip_uI (ip_sI M 112 (c_cp (M.2.1 112) (M.2.1 109) (821 * m) (0) i)) 112 (821 * m + i) (M.2.1 109 (i)) := by rw [ip_uI_sI, ← c_cp_s]; simp only [Nat.zero_add]
    have step : ∀ Z : Prop, ip_wp X 170 112 [.ref 108, .int what, .int (Int32.ofNat (i + 1))] [] (ip_uI (ip_sI M 112 (c_cp (M.2.1 112) (M.2.1 109) (821 * m) (0) i)) 112 (821 * m + i) (M.2.1 109 (i))) K = Z → ip_wp X 170 112 [.ref 108, .int what, .int (Int32.ofNat i)] [] (ip_sI M 112 (c_cp (M.2.1 112) (M.2.1 109) (821 * m) (0) i)) K = Z := by
      intro Z hZ
      simp (config := { maxSteps := 10000000, maxDischargeDepth := 30, decide := true }) only [w170_112, w170_113, w170_116, w170_119, w170_120, w170_123, w170_126, w170_127, w170_130, w170_131, w170_132, w170_133, w170_134, w170_137, w170_138, w170_139, w170_140, ↓ip_ka0, ↓ip_ki2, ip_get_0, ip_get_s, ip_set1, ip_clr_s, ip_cat_i, List.set_cons_zero, List.set_cons_succ, ip_vr_some, ↓reduceIte, Nat.reduceEqDiff, and_self, not_false_eq_true, ip_sI_I, ip_sI_R, ip_sI_sh, ip_ix_eq, hk, ei, et, nt, ct, lt, ns, cs, ls, gS_108 hG, gS_109 hG, gS_112 hG, gR_108_1 hG, gR_108_6 hG, h12]
      rw [w170_143]
      exact hZ
    exact step _ ((congrArg (fun q => ip_wp X 170 112 [.ref 108, .int what, .int (Int32.ofNat (i + 1))] [] q K) eM.symm).trans (ih (i + 1) (by omega)))
theorem s_170d0 (X : ip_X) (M : ip_H) (K : Option Value → ip_H → Prop) (what : Int32) (m : Nat) (hm : m ≤ 7) (h12 : M.2.1 108 12 = Int32.ofNat m) (hG : ip_G M) : ip_wp X 170 112 [.ref 108, .int what, .int (Int32.ofNat 0)] [] M K = ip_wp X 170 146 [.ref 108, .int what, .int (Int32.ofNat 821)] [] (ip_sI M 112 (c_cp (M.2.1 112) (M.2.1 109) (821 * m) (0) 821)) K := by
  have h := s_170d X M K what m hm h12 hG 821 0 rfl
  rw [c_cp_0, ip_sI_id _ _ _ (fun _ => rfl)] at h
  exact h

set_option maxHeartbeats 40000000 in
set_option maxRecDepth 100000 in
theorem s_170e (X : ip_X) (M : ip_H) (K : Option Value → ip_H → Prop) (what : Int32) (m : Nat) (hm : m ≤ 7) (h12 : M.2.1 108 12 = Int32.ofNat m) (hG : ip_G M) : ∀ (n i : Nat), i + n = 9 → ip_wp X 170 148 [.ref 108, .int what, .int (Int32.ofNat i)] [] (ip_sL M 115 (c_cp (M.2.2.1 115) (M.2.2.1 110) (9 * m) (0) i)) K = ip_wp X 170 180 [.ref 108, .int what, .int (Int32.ofNat 9)] [] (ip_sL M 115 (c_cp (M.2.2.1 115) (M.2.2.1 110) (9 * m) (0) 9)) K := by
  intro n
  induction n with
  | zero =>
    intro i h
    have hi : i = 9 := by omega
    subst hi
    have hk : (Int32.ofNat 9 < 9) = False := by decide +kernel
    simp (config := { maxSteps := 10000000, maxDischargeDepth := 30, decide := true }) only [w170_148, w170_149, w170_151, w170_154, ↓ip_ki2, ↓reduceIte, Int32.reduceOfNat]
  | succ n ih =>
    intro i h
    have hk : (Int32.ofNat i < 9) = True := by rw [show (9 : Int32) = Int32.ofNat 9 from rfl, ip_nlt _ _ (by omega) (by decide)]; exact eq_true (by omega)
    have ei : Int32.ofNat i + 1 = Int32.ofNat (i + 1) := ip_oa i 1
    have et : 9 * Int32.ofNat m + Int32.ofNat i = Int32.ofNat (9 * m + i) := by rw [show (9 : Int32) = Int32.ofNat 9 from rfl, ip_om, ip_oa]
    have nt : (Int32.ofNat (9 * m + i) < 0) = False := eq_false (ip_nn _ (by omega))
    have ct : (Int32.ofNat (9 * m + i)).toNatClampNeg = 9 * m + i := ip_nc _ (by omega)
    have lt : (9 * m + i < 72) = True := eq_true (by omega)
    have es : True := trivial
    have ns : (Int32.ofNat (i) < 0) = False := eq_false (ip_nn _ (by omega))
    have cs : (Int32.ofNat (i)).toNatClampNeg = i := ip_nc _ (by omega)
    have ls : (i < 9) = True := eq_true (by omega)
    have hrd : True := trivial
    have eM : (ip_sL M 115 (c_cp (M.2.2.1 115) (M.2.2.1 110) (9 * m) (0) (i + 1))) = ip_uL (ip_sL M 115 (c_cp (M.2.2.1 115) (M.2.2.1 110) (9 * m) (0) i)) 115 (9 * m + i) (M.2.2.1 110 (i)) := by rw [ip_uL_sL, ← c_cp_s]; simp only [Nat.zero_add]
    have step : ∀ Z : Prop, ip_wp X 170 148 [.ref 108, .int what, .int (Int32.ofNat (i + 1))] [] (ip_uL (ip_sL M 115 (c_cp (M.2.2.1 115) (M.2.2.1 110) (9 * m) (0) i)) 115 (9 * m + i) (M.2.2.1 110 (i))) K = Z → ip_wp X 170 148 [.ref 108, .int what, .int (Int32.ofNat i)] [] (ip_sL M 115 (c_cp (M.2.2.1 115) (M.2.2.1 110) (9 * m) (0) i)) K = Z := by
      intro Z hZ
      simp (config := { maxSteps := 10000000, maxDischargeDepth := 30, decide := true }) only [w170_148, w170_149, w170_151, w170_154, w170_155, w170_158, w170_160, w170_161, w170_164, w170_165, w170_166, w170_167, w170_168, w170_171, w170_172, w170_173, w170_174, ↓ip_ka0, ↓ip_ki2, ip_get_0, ip_get_s, ip_set1, ip_clr_s, ip_cat_i, List.set_cons_zero, List.set_cons_succ, ip_vr_some, ↓reduceIte, Nat.reduceEqDiff, and_self, not_false_eq_true, ip_sL_I, ip_sL_L, ip_sL_R, ip_sL_sh, ip_ix_eq, hk, ei, et, nt, ct, lt, ns, cs, ls, gS_108 hG, gS_110 hG, gS_115 hG, gR_108_2 hG, gR_108_9 hG, h12]
      rw [w170_177]
      exact hZ
    exact step _ ((congrArg (fun q => ip_wp X 170 148 [.ref 108, .int what, .int (Int32.ofNat (i + 1))] [] q K) eM.symm).trans (ih (i + 1) (by omega)))
theorem s_170e0 (X : ip_X) (M : ip_H) (K : Option Value → ip_H → Prop) (what : Int32) (m : Nat) (hm : m ≤ 7) (h12 : M.2.1 108 12 = Int32.ofNat m) (hG : ip_G M) : ip_wp X 170 148 [.ref 108, .int what, .int (Int32.ofNat 0)] [] M K = ip_wp X 170 180 [.ref 108, .int what, .int (Int32.ofNat 9)] [] (ip_sL M 115 (c_cp (M.2.2.1 115) (M.2.2.1 110) (9 * m) (0) 9)) K := by
  have h := s_170e X M K what m hm h12 hG 9 0 rfl
  rw [c_cp_0, ip_sL_id _ _ _ (fun _ => rfl)] at h
  exact h

set_option maxHeartbeats 40000000 in
set_option maxRecDepth 100000 in
theorem s_171a (X : ip_X) (M : ip_H) (K : Option Value → ip_H → Prop) (m : Nat) (hm : m ≤ 7) (h12 : M.2.1 108 12 = Int32.ofNat m) (hG : ip_G M) : ∀ (n i : Nat), i + n = 821 → ip_wp X 171 2 [.ref 108, .int (Int32.ofNat i)] [] (ip_sI M 109 (c_cp (M.2.1 109) (M.2.1 112) (0) (821 * m) i)) K = ip_wp X 171 36 [.ref 108, .int (Int32.ofNat 821)] [] (ip_sI M 109 (c_cp (M.2.1 109) (M.2.1 112) (0) (821 * m) 821)) K := by
  intro n
  induction n with
  | zero =>
    intro i h
    have hi : i = 821 := by omega
    subst hi
    have hk : (Int32.ofNat 821 < 821) = False := by decide +kernel
    simp (config := { maxSteps := 10000000, maxDischargeDepth := 30, decide := true }) only [w171_2, w171_3, w171_6, ↓ip_ki1, ↓reduceIte, Int32.reduceOfNat]
  | succ n ih =>
    intro i h
    have hk : (Int32.ofNat i < 821) = True := by rw [show (821 : Int32) = Int32.ofNat 821 from rfl, ip_nlt _ _ (by omega) (by decide)]; exact eq_true (by omega)
    have ei : Int32.ofNat i + 1 = Int32.ofNat (i + 1) := ip_oa i 1
    have et : True := trivial
    have nt : (Int32.ofNat (i) < 0) = False := eq_false (ip_nn _ (by omega))
    have ct : (Int32.ofNat (i)).toNatClampNeg = i := ip_nc _ (by omega)
    have lt : (i < 821) = True := eq_true (by omega)
    have es : 821 * Int32.ofNat m + Int32.ofNat i = Int32.ofNat (821 * m + i) := by rw [show (821 : Int32) = Int32.ofNat 821 from rfl, ip_om, ip_oa]
    have ns : (Int32.ofNat (821 * m + i) < 0) = False := eq_false (ip_nn _ (by omega))
    have cs : (Int32.ofNat (821 * m + i)).toNatClampNeg = 821 * m + i := ip_nc _ (by omega)
    have ls : (821 * m + i < 6568) = True := eq_true (by omega)
    have hrd : True := trivial
    have eM : (ip_sI M 109 (c_cp (M.2.1 109) (M.2.1 112) (0) (821 * m) (i + 1))) = ip_uI (ip_sI M 109 (c_cp (M.2.1 109) (M.2.1 112) (0) (821 * m) i)) 109 (i) (M.2.1 112 (821 * m + i)) := by rw [ip_uI_sI, ← c_cp_s]; simp only [Nat.zero_add]
    have step : ∀ Z : Prop, ip_wp X 171 2 [.ref 108, .int (Int32.ofNat (i + 1))] [] (ip_uI (ip_sI M 109 (c_cp (M.2.1 109) (M.2.1 112) (0) (821 * m) i)) 109 (i) (M.2.1 112 (821 * m + i))) K = Z → ip_wp X 171 2 [.ref 108, .int (Int32.ofNat i)] [] (ip_sI M 109 (c_cp (M.2.1 109) (M.2.1 112) (0) (821 * m) i)) K = Z := by
      intro Z hZ
      simp (config := { maxSteps := 10000000, maxDischargeDepth := 30, decide := true }) only [w171_2, w171_3, w171_6, w171_9, w171_10, w171_13, w171_14, w171_15, w171_18, w171_21, w171_22, w171_25, w171_26, w171_27, w171_28, w171_29, w171_30, ↓ip_ka0, ↓ip_ki1, ip_get_0, ip_set1, ip_clr_s, ip_cat_r, List.set_cons_zero, List.set_cons_succ, ip_vr_some, ↓reduceIte, Nat.reduceEqDiff, and_self, not_false_eq_true, ip_sI_I, ip_sI_R, ip_sI_sh, ip_ix_eq, hk, ei, nt, ct, lt, es, ns, cs, ls, gS_108 hG, gS_109 hG, gS_112 hG, gR_108_1 hG, gR_108_6 hG, h12]
      rw [w171_33]
      exact hZ
    exact step _ ((congrArg (fun q => ip_wp X 171 2 [.ref 108, .int (Int32.ofNat (i + 1))] [] q K) eM.symm).trans (ih (i + 1) (by omega)))
theorem s_171a0 (X : ip_X) (M : ip_H) (K : Option Value → ip_H → Prop) (m : Nat) (hm : m ≤ 7) (h12 : M.2.1 108 12 = Int32.ofNat m) (hG : ip_G M) : ip_wp X 171 2 [.ref 108, .int (Int32.ofNat 0)] [] M K = ip_wp X 171 36 [.ref 108, .int (Int32.ofNat 821)] [] (ip_sI M 109 (c_cp (M.2.1 109) (M.2.1 112) (0) (821 * m) 821)) K := by
  have h := s_171a X M K m hm h12 hG 821 0 rfl
  rw [c_cp_0, ip_sI_id _ _ _ (fun _ => rfl)] at h
  exact h

set_option maxHeartbeats 40000000 in
set_option maxRecDepth 100000 in
theorem s_171b (X : ip_X) (M : ip_H) (K : Option Value → ip_H → Prop) (m : Nat) (hm : m ≤ 7) (h12 : M.2.1 108 12 = Int32.ofNat m) (hG : ip_G M) : ∀ (n i : Nat), i + n = 9 → ip_wp X 171 38 [.ref 108, .int (Int32.ofNat i)] [] (ip_sL M 110 (c_cp (M.2.2.1 110) (M.2.2.1 115) (0) (9 * m) i)) K = ip_wp X 171 70 [.ref 108, .int (Int32.ofNat 9)] [] (ip_sL M 110 (c_cp (M.2.2.1 110) (M.2.2.1 115) (0) (9 * m) 9)) K := by
  intro n
  induction n with
  | zero =>
    intro i h
    have hi : i = 9 := by omega
    subst hi
    have hk : (Int32.ofNat 9 < 9) = False := by decide +kernel
    simp (config := { maxSteps := 10000000, maxDischargeDepth := 30, decide := true }) only [w171_38, w171_39, w171_41, w171_44, ↓ip_ki1, ↓reduceIte, Int32.reduceOfNat]
  | succ n ih =>
    intro i h
    have hk : (Int32.ofNat i < 9) = True := by rw [show (9 : Int32) = Int32.ofNat 9 from rfl, ip_nlt _ _ (by omega) (by decide)]; exact eq_true (by omega)
    have ei : Int32.ofNat i + 1 = Int32.ofNat (i + 1) := ip_oa i 1
    have et : True := trivial
    have nt : (Int32.ofNat (i) < 0) = False := eq_false (ip_nn _ (by omega))
    have ct : (Int32.ofNat (i)).toNatClampNeg = i := ip_nc _ (by omega)
    have lt : (i < 9) = True := eq_true (by omega)
    have es : 9 * Int32.ofNat m + Int32.ofNat i = Int32.ofNat (9 * m + i) := by rw [show (9 : Int32) = Int32.ofNat 9 from rfl, ip_om, ip_oa]
    have ns : (Int32.ofNat (9 * m + i) < 0) = False := eq_false (ip_nn _ (by omega))
    have cs : (Int32.ofNat (9 * m + i)).toNatClampNeg = 9 * m + i := ip_nc _ (by omega)
    have ls : (9 * m + i < 72) = True := eq_true (by omega)
    have hrd : True := trivial
    have eM : (ip_sL M 110 (c_cp (M.2.2.1 110) (M.2.2.1 115) (0) (9 * m) (i + 1))) = ip_uL (ip_sL M 110 (c_cp (M.2.2.1 110) (M.2.2.1 115) (0) (9 * m) i)) 110 (i) (M.2.2.1 115 (9 * m + i)) := by rw [ip_uL_sL, ← c_cp_s]; simp only [Nat.zero_add]
    have step : ∀ Z : Prop, ip_wp X 171 38 [.ref 108, .int (Int32.ofNat (i + 1))] [] (ip_uL (ip_sL M 110 (c_cp (M.2.2.1 110) (M.2.2.1 115) (0) (9 * m) i)) 110 (i) (M.2.2.1 115 (9 * m + i))) K = Z → ip_wp X 171 38 [.ref 108, .int (Int32.ofNat i)] [] (ip_sL M 110 (c_cp (M.2.2.1 110) (M.2.2.1 115) (0) (9 * m) i)) K = Z := by
      intro Z hZ
      simp (config := { maxSteps := 10000000, maxDischargeDepth := 30, decide := true }) only [w171_38, w171_39, w171_41, w171_44, w171_45, w171_48, w171_49, w171_50, w171_53, w171_55, w171_56, w171_59, w171_60, w171_61, w171_62, w171_63, w171_64, ↓ip_ka0, ↓ip_ki1, ip_get_0, ip_set1, ip_clr_s, ip_cat_r, List.set_cons_zero, List.set_cons_succ, ip_vr_some, ↓reduceIte, Nat.reduceEqDiff, and_self, not_false_eq_true, ip_sL_I, ip_sL_L, ip_sL_R, ip_sL_sh, ip_ix_eq, hk, ei, nt, ct, lt, es, ns, cs, ls, gS_108 hG, gS_110 hG, gS_115 hG, gR_108_2 hG, gR_108_9 hG, h12]
      rw [w171_67]
      exact hZ
    exact step _ ((congrArg (fun q => ip_wp X 171 38 [.ref 108, .int (Int32.ofNat (i + 1))] [] q K) eM.symm).trans (ih (i + 1) (by omega)))
theorem s_171b0 (X : ip_X) (M : ip_H) (K : Option Value → ip_H → Prop) (m : Nat) (hm : m ≤ 7) (h12 : M.2.1 108 12 = Int32.ofNat m) (hG : ip_G M) : ip_wp X 171 38 [.ref 108, .int (Int32.ofNat 0)] [] M K = ip_wp X 171 70 [.ref 108, .int (Int32.ofNat 9)] [] (ip_sL M 110 (c_cp (M.2.2.1 110) (M.2.2.1 115) (0) (9 * m) 9)) K := by
  have h := s_171b X M K m hm h12 hG 9 0 rfl
  rw [c_cp_0, ip_sL_id _ _ _ (fun _ => rfl)] at h
  exact h

set_option maxHeartbeats 40000000 in
set_option maxRecDepth 100000 in
theorem s_174a (X : ip_X) (M : ip_H) (K : Option Value → ip_H → Prop) (m : Nat) (hm : m ≤ 1) (hG : ip_G M) : ∀ (n i : Nat), i + n = 821 → ip_wp X 174 22 [.ref 108, .int (Int32.ofNat m), .int (Int32.ofNat i)] [] (ip_sI M 114 (c_cp (M.2.1 114) (M.2.1 109) (821 * m) (0) i)) K = ip_wp X 174 53 [.ref 108, .int (Int32.ofNat m), .int (Int32.ofNat 821)] [] (ip_sI M 114 (c_cp (M.2.1 114) (M.2.1 109) (821 * m) (0) 821)) K := by
  intro n
  induction n with
  | zero =>
    intro i h
    have hi : i = 821 := by omega
    subst hi
    have hk : (Int32.ofNat 821 < 821) = False := by decide +kernel
    simp (config := { maxSteps := 10000000, maxDischargeDepth := 30, decide := true }) only [w174_22, w174_23, w174_26, ↓ip_ki2, ↓reduceIte, Int32.reduceOfNat]
  | succ n ih =>
    intro i h
    have hk : (Int32.ofNat i < 821) = True := by rw [show (821 : Int32) = Int32.ofNat 821 from rfl, ip_nlt _ _ (by omega) (by decide)]; exact eq_true (by omega)
    have ei : Int32.ofNat i + 1 = Int32.ofNat (i + 1) := ip_oa i 1
    have et : 821 * Int32.ofNat m + Int32.ofNat i = Int32.ofNat (821 * m + i) := by rw [show (821 : Int32) = Int32.ofNat 821 from rfl, ip_om, ip_oa]
    have nt : (Int32.ofNat (821 * m + i) < 0) = False := eq_false (ip_nn _ (by omega))
    have ct : (Int32.ofNat (821 * m + i)).toNatClampNeg = 821 * m + i := ip_nc _ (by omega)
    have lt : (821 * m + i < 1642) = True := eq_true (by omega)
    have es : True := trivial
    have ns : (Int32.ofNat (i) < 0) = False := eq_false (ip_nn _ (by omega))
    have cs : (Int32.ofNat (i)).toNatClampNeg = i := ip_nc _ (by omega)
    have ls : (i < 821) = True := eq_true (by omega)
    have hrd : True := trivial
    have eM : (ip_sI M 114 (c_cp (M.2.1 114) (M.2.1 109) (821 * m) (0) (i + 1))) = ip_uI (ip_sI M 114 (c_cp (M.2.1 114) (M.2.1 109) (821 * m) (0) i)) 114 (821 * m + i) (M.2.1 109 (i)) := by rw [ip_uI_sI, ← c_cp_s]; simp only [Nat.zero_add]
    have step : ∀ Z : Prop, ip_wp X 174 22 [.ref 108, .int (Int32.ofNat m), .int (Int32.ofNat (i + 1))] [] (ip_uI (ip_sI M 114 (c_cp (M.2.1 114) (M.2.1 109) (821 * m) (0) i)) 114 (821 * m + i) (M.2.1 109 (i))) K = Z → ip_wp X 174 22 [.ref 108, .int (Int32.ofNat m), .int (Int32.ofNat i)] [] (ip_sI M 114 (c_cp (M.2.1 114) (M.2.1 109) (821 * m) (0) i)) K = Z := by
      intro Z hZ
      simp (config := { maxSteps := 10000000, maxDischargeDepth := 30, decide := true }) only [w174_22, w174_23, w174_26, w174_29, w174_30, w174_33, w174_36, w174_37, w174_38, w174_39, w174_40, w174_41, w174_44, w174_45, w174_46, w174_47, ↓ip_ka0, ↓ip_ki1, ↓ip_ki2, ip_get_0, ip_get_s, ip_set1, ip_clr_s, ip_cat_i, List.set_cons_zero, List.set_cons_succ, ip_vr_some, ↓reduceIte, Nat.reduceEqDiff, and_self, not_false_eq_true, ip_sI_I, ip_sI_R, ip_sI_sh, ip_ix_eq, hk, ei, et, nt, ct, lt, ns, cs, ls, gS_108 hG, gS_109 hG, gS_114 hG, gR_108_1 hG, gR_108_8 hG]
      rw [w174_50]
      exact hZ
    exact step _ ((congrArg (fun q => ip_wp X 174 22 [.ref 108, .int (Int32.ofNat m), .int (Int32.ofNat (i + 1))] [] q K) eM.symm).trans (ih (i + 1) (by omega)))
theorem s_174a0 (X : ip_X) (M : ip_H) (K : Option Value → ip_H → Prop) (m : Nat) (hm : m ≤ 1) (hG : ip_G M) : ip_wp X 174 22 [.ref 108, .int (Int32.ofNat m), .int (Int32.ofNat 0)] [] M K = ip_wp X 174 53 [.ref 108, .int (Int32.ofNat m), .int (Int32.ofNat 821)] [] (ip_sI M 114 (c_cp (M.2.1 114) (M.2.1 109) (821 * m) (0) 821)) K := by
  have h := s_174a X M K m hm hG 821 0 rfl
  rw [c_cp_0, ip_sI_id _ _ _ (fun _ => rfl)] at h
  exact h

set_option maxHeartbeats 40000000 in
set_option maxRecDepth 100000 in
theorem s_174b (X : ip_X) (M : ip_H) (K : Option Value → ip_H → Prop) (m : Nat) (hm : m ≤ 1) (hG : ip_G M) : ∀ (n i : Nat), i + n = 9 → ip_wp X 174 55 [.ref 108, .int (Int32.ofNat m), .int (Int32.ofNat i)] [] (ip_sL M 116 (c_cp (M.2.2.1 116) (M.2.2.1 110) (9 * m) (0) i)) K = ip_wp X 174 84 [.ref 108, .int (Int32.ofNat m), .int (Int32.ofNat 9)] [] (ip_sL M 116 (c_cp (M.2.2.1 116) (M.2.2.1 110) (9 * m) (0) 9)) K := by
  intro n
  induction n with
  | zero =>
    intro i h
    have hi : i = 9 := by omega
    subst hi
    have hk : (Int32.ofNat 9 < 9) = False := by decide +kernel
    simp (config := { maxSteps := 10000000, maxDischargeDepth := 30, decide := true }) only [w174_55, w174_56, w174_58, w174_61, ↓ip_ki2, ↓reduceIte, Int32.reduceOfNat]
  | succ n ih =>
    intro i h
    have hk : (Int32.ofNat i < 9) = True := by rw [show (9 : Int32) = Int32.ofNat 9 from rfl, ip_nlt _ _ (by omega) (by decide)]; exact eq_true (by omega)
    have ei : Int32.ofNat i + 1 = Int32.ofNat (i + 1) := ip_oa i 1
    have et : 9 * Int32.ofNat m + Int32.ofNat i = Int32.ofNat (9 * m + i) := by rw [show (9 : Int32) = Int32.ofNat 9 from rfl, ip_om, ip_oa]
    have nt : (Int32.ofNat (9 * m + i) < 0) = False := eq_false (ip_nn _ (by omega))
    have ct : (Int32.ofNat (9 * m + i)).toNatClampNeg = 9 * m + i := ip_nc _ (by omega)
    have lt : (9 * m + i < 18) = True := eq_true (by omega)
    have es : True := trivial
    have ns : (Int32.ofNat (i) < 0) = False := eq_false (ip_nn _ (by omega))
    have cs : (Int32.ofNat (i)).toNatClampNeg = i := ip_nc _ (by omega)
    have ls : (i < 9) = True := eq_true (by omega)
    have hrd : True := trivial
    have eM : (ip_sL M 116 (c_cp (M.2.2.1 116) (M.2.2.1 110) (9 * m) (0) (i + 1))) = ip_uL (ip_sL M 116 (c_cp (M.2.2.1 116) (M.2.2.1 110) (9 * m) (0) i)) 116 (9 * m + i) (M.2.2.1 110 (i)) := by rw [ip_uL_sL, ← c_cp_s]; simp only [Nat.zero_add]
    have step : ∀ Z : Prop, ip_wp X 174 55 [.ref 108, .int (Int32.ofNat m), .int (Int32.ofNat (i + 1))] [] (ip_uL (ip_sL M 116 (c_cp (M.2.2.1 116) (M.2.2.1 110) (9 * m) (0) i)) 116 (9 * m + i) (M.2.2.1 110 (i))) K = Z → ip_wp X 174 55 [.ref 108, .int (Int32.ofNat m), .int (Int32.ofNat i)] [] (ip_sL M 116 (c_cp (M.2.2.1 116) (M.2.2.1 110) (9 * m) (0) i)) K = Z := by
      intro Z hZ
      simp (config := { maxSteps := 10000000, maxDischargeDepth := 30, decide := true }) only [w174_55, w174_56, w174_58, w174_61, w174_62, w174_65, w174_67, w174_68, w174_69, w174_70, w174_71, w174_72, w174_75, w174_76, w174_77, w174_78, ↓ip_ka0, ↓ip_ki1, ↓ip_ki2, ip_get_0, ip_get_s, ip_set1, ip_clr_s, ip_cat_i, List.set_cons_zero, List.set_cons_succ, ip_vr_some, ↓reduceIte, Nat.reduceEqDiff, and_self, not_false_eq_true, ip_sL_L, ip_sL_R, ip_sL_sh, ip_ix_eq, hk, ei, et, nt, ct, lt, ns, cs, ls, gS_108 hG, gS_110 hG, gS_116 hG, gR_108_2 hG, gR_108_10 hG]
      rw [w174_81]
      exact hZ
    exact step _ ((congrArg (fun q => ip_wp X 174 55 [.ref 108, .int (Int32.ofNat m), .int (Int32.ofNat (i + 1))] [] q K) eM.symm).trans (ih (i + 1) (by omega)))
theorem s_174b0 (X : ip_X) (M : ip_H) (K : Option Value → ip_H → Prop) (m : Nat) (hm : m ≤ 1) (hG : ip_G M) : ip_wp X 174 55 [.ref 108, .int (Int32.ofNat m), .int (Int32.ofNat 0)] [] M K = ip_wp X 174 84 [.ref 108, .int (Int32.ofNat m), .int (Int32.ofNat 9)] [] (ip_sL M 116 (c_cp (M.2.2.1 116) (M.2.2.1 110) (9 * m) (0) 9)) K := by
  have h := s_174b X M K m hm hG 9 0 rfl
  rw [c_cp_0, ip_sL_id _ _ _ (fun _ => rfl)] at h
  exact h

set_option maxHeartbeats 40000000 in
set_option maxRecDepth 100000 in
theorem s_175a (X : ip_X) (M : ip_H) (K : Option Value → ip_H → Prop) (m : Nat) (hm : m ≤ 1) (hG : ip_G M) : ∀ (n i : Nat), i + n = 821 → ip_wp X 175 38 [.ref 108, .int (Int32.ofNat m), .int (Int32.ofNat i)] [] (ip_sI M 109 (c_cp (M.2.1 109) (M.2.1 114) (0) (821 * m) i)) K = ip_wp X 175 69 [.ref 108, .int (Int32.ofNat m), .int (Int32.ofNat 821)] [] (ip_sI M 109 (c_cp (M.2.1 109) (M.2.1 114) (0) (821 * m) 821)) K := by
  intro n
  induction n with
  | zero =>
    intro i h
    have hi : i = 821 := by omega
    subst hi
    have hk : (Int32.ofNat 821 < 821) = False := by decide +kernel
    simp (config := { maxSteps := 10000000, maxDischargeDepth := 30, decide := true }) only [w175_38, w175_39, w175_42, ↓ip_ki2, ↓reduceIte, Int32.reduceOfNat]
  | succ n ih =>
    intro i h
    have hk : (Int32.ofNat i < 821) = True := by rw [show (821 : Int32) = Int32.ofNat 821 from rfl, ip_nlt _ _ (by omega) (by decide)]; exact eq_true (by omega)
    have ei : Int32.ofNat i + 1 = Int32.ofNat (i + 1) := ip_oa i 1
    have et : True := trivial
    have nt : (Int32.ofNat (i) < 0) = False := eq_false (ip_nn _ (by omega))
    have ct : (Int32.ofNat (i)).toNatClampNeg = i := ip_nc _ (by omega)
    have lt : (i < 821) = True := eq_true (by omega)
    have es : 821 * Int32.ofNat m + Int32.ofNat i = Int32.ofNat (821 * m + i) := by rw [show (821 : Int32) = Int32.ofNat 821 from rfl, ip_om, ip_oa]
    have ns : (Int32.ofNat (821 * m + i) < 0) = False := eq_false (ip_nn _ (by omega))
    have cs : (Int32.ofNat (821 * m + i)).toNatClampNeg = 821 * m + i := ip_nc _ (by omega)
    have ls : (821 * m + i < 1642) = True := eq_true (by omega)
    have hrd : True := trivial
    have eM : (ip_sI M 109 (c_cp (M.2.1 109) (M.2.1 114) (0) (821 * m) (i + 1))) = ip_uI (ip_sI M 109 (c_cp (M.2.1 109) (M.2.1 114) (0) (821 * m) i)) 109 (i) (M.2.1 114 (821 * m + i)) := by rw [ip_uI_sI, ← c_cp_s]; simp only [Nat.zero_add]
    have step : ∀ Z : Prop, ip_wp X 175 38 [.ref 108, .int (Int32.ofNat m), .int (Int32.ofNat (i + 1))] [] (ip_uI (ip_sI M 109 (c_cp (M.2.1 109) (M.2.1 114) (0) (821 * m) i)) 109 (i) (M.2.1 114 (821 * m + i))) K = Z → ip_wp X 175 38 [.ref 108, .int (Int32.ofNat m), .int (Int32.ofNat i)] [] (ip_sI M 109 (c_cp (M.2.1 109) (M.2.1 114) (0) (821 * m) i)) K = Z := by
      intro Z hZ
      simp (config := { maxSteps := 10000000, maxDischargeDepth := 30, decide := true }) only [w175_38, w175_39, w175_42, w175_45, w175_46, w175_49, w175_50, w175_51, w175_54, w175_57, w175_58, w175_59, w175_60, w175_61, w175_62, w175_63, ↓ip_ka0, ↓ip_ki1, ↓ip_ki2, ip_get_0, ip_get_s, ip_set1, ip_clr_s, ip_cat_i, List.set_cons_zero, List.set_cons_succ, ip_vr_some, ↓reduceIte, Nat.reduceEqDiff, and_self, not_false_eq_true, ip_sI_I, ip_sI_R, ip_sI_sh, ip_ix_eq, hk, ei, nt, ct, lt, es, ns, cs, ls, gS_108 hG, gS_109 hG, gS_114 hG, gR_108_1 hG, gR_108_8 hG]
      rw [w175_66]
      exact hZ
    exact step _ ((congrArg (fun q => ip_wp X 175 38 [.ref 108, .int (Int32.ofNat m), .int (Int32.ofNat (i + 1))] [] q K) eM.symm).trans (ih (i + 1) (by omega)))
theorem s_175a0 (X : ip_X) (M : ip_H) (K : Option Value → ip_H → Prop) (m : Nat) (hm : m ≤ 1) (hG : ip_G M) : ip_wp X 175 38 [.ref 108, .int (Int32.ofNat m), .int (Int32.ofNat 0)] [] M K = ip_wp X 175 69 [.ref 108, .int (Int32.ofNat m), .int (Int32.ofNat 821)] [] (ip_sI M 109 (c_cp (M.2.1 109) (M.2.1 114) (0) (821 * m) 821)) K := by
  have h := s_175a X M K m hm hG 821 0 rfl
  rw [c_cp_0, ip_sI_id _ _ _ (fun _ => rfl)] at h
  exact h

set_option maxHeartbeats 40000000 in
set_option maxRecDepth 100000 in
theorem s_175b (X : ip_X) (M : ip_H) (K : Option Value → ip_H → Prop) (m : Nat) (hm : m ≤ 1) (hG : ip_G M) : ∀ (n i : Nat), i + n = 9 → ip_wp X 175 71 [.ref 108, .int (Int32.ofNat m), .int (Int32.ofNat i)] [] (ip_sL M 110 (c_cp (M.2.2.1 110) (M.2.2.1 116) (0) (9 * m) i)) K = ip_wp X 175 100 [.ref 108, .int (Int32.ofNat m), .int (Int32.ofNat 9)] [] (ip_sL M 110 (c_cp (M.2.2.1 110) (M.2.2.1 116) (0) (9 * m) 9)) K := by
  intro n
  induction n with
  | zero =>
    intro i h
    have hi : i = 9 := by omega
    subst hi
    have hk : (Int32.ofNat 9 < 9) = False := by decide +kernel
    simp (config := { maxSteps := 10000000, maxDischargeDepth := 30, decide := true }) only [w175_71, w175_72, w175_74, w175_77, ↓ip_ki2, ↓reduceIte, Int32.reduceOfNat]
  | succ n ih =>
    intro i h
    have hk : (Int32.ofNat i < 9) = True := by rw [show (9 : Int32) = Int32.ofNat 9 from rfl, ip_nlt _ _ (by omega) (by decide)]; exact eq_true (by omega)
    have ei : Int32.ofNat i + 1 = Int32.ofNat (i + 1) := ip_oa i 1
    have et : True := trivial
    have nt : (Int32.ofNat (i) < 0) = False := eq_false (ip_nn _ (by omega))
    have ct : (Int32.ofNat (i)).toNatClampNeg = i := ip_nc _ (by omega)
    have lt : (i < 9) = True := eq_true (by omega)
    have es : 9 * Int32.ofNat m + Int32.ofNat i = Int32.ofNat (9 * m + i) := by rw [show (9 : Int32) = Int32.ofNat 9 from rfl, ip_om, ip_oa]
    have ns : (Int32.ofNat (9 * m + i) < 0) = False := eq_false (ip_nn _ (by omega))
    have cs : (Int32.ofNat (9 * m + i)).toNatClampNeg = 9 * m + i := ip_nc _ (by omega)
    have ls : (9 * m + i < 18) = True := eq_true (by omega)
    have hrd : True := trivial
    have eM : (ip_sL M 110 (c_cp (M.2.2.1 110) (M.2.2.1 116) (0) (9 * m) (i + 1))) = ip_uL (ip_sL M 110 (c_cp (M.2.2.1 110) (M.2.2.1 116) (0) (9 * m) i)) 110 (i) (M.2.2.1 116 (9 * m + i)) := by rw [ip_uL_sL, ← c_cp_s]; simp only [Nat.zero_add]
    have step : ∀ Z : Prop, ip_wp X 175 71 [.ref 108, .int (Int32.ofNat m), .int (Int32.ofNat (i + 1))] [] (ip_uL (ip_sL M 110 (c_cp (M.2.2.1 110) (M.2.2.1 116) (0) (9 * m) i)) 110 (i) (M.2.2.1 116 (9 * m + i))) K = Z → ip_wp X 175 71 [.ref 108, .int (Int32.ofNat m), .int (Int32.ofNat i)] [] (ip_sL M 110 (c_cp (M.2.2.1 110) (M.2.2.1 116) (0) (9 * m) i)) K = Z := by
      intro Z hZ
      simp (config := { maxSteps := 10000000, maxDischargeDepth := 30, decide := true }) only [w175_71, w175_72, w175_74, w175_77, w175_78, w175_81, w175_82, w175_83, w175_86, w175_88, w175_89, w175_90, w175_91, w175_92, w175_93, w175_94, ↓ip_ka0, ↓ip_ki1, ↓ip_ki2, ip_get_0, ip_get_s, ip_set1, ip_clr_s, ip_cat_i, List.set_cons_zero, List.set_cons_succ, ip_vr_some, ↓reduceIte, Nat.reduceEqDiff, and_self, not_false_eq_true, ip_sL_L, ip_sL_R, ip_sL_sh, ip_ix_eq, hk, ei, nt, ct, lt, es, ns, cs, ls, gS_108 hG, gS_110 hG, gS_116 hG, gR_108_2 hG, gR_108_10 hG]
      rw [w175_97]
      exact hZ
    exact step _ ((congrArg (fun q => ip_wp X 175 71 [.ref 108, .int (Int32.ofNat m), .int (Int32.ofNat (i + 1))] [] q K) eM.symm).trans (ih (i + 1) (by omega)))
theorem s_175b0 (X : ip_X) (M : ip_H) (K : Option Value → ip_H → Prop) (m : Nat) (hm : m ≤ 1) (hG : ip_G M) : ip_wp X 175 71 [.ref 108, .int (Int32.ofNat m), .int (Int32.ofNat 0)] [] M K = ip_wp X 175 100 [.ref 108, .int (Int32.ofNat m), .int (Int32.ofNat 9)] [] (ip_sL M 110 (c_cp (M.2.2.1 110) (M.2.2.1 116) (0) (9 * m) 9)) K := by
  have h := s_175b X M K m hm hG 9 0 rfl
  rw [c_cp_0, ip_sL_id _ _ _ (fun _ => rfl)] at h
  exact h

def c_kp (M : ip_H) (what : Int32) (m : Nat) : ip_H := ip_uI (ip_uI (ip_sL (ip_sI M 112 (c_cp (M.2.1 112) (M.2.1 109) (821 * m) 0 821)) 115 (c_cp (M.2.2.1 115) (M.2.2.1 110) (9 * m) 0 9)) 113 m what) 108 12 (Int32.ofNat (m + 1))
/-- the kept rows moved down by one -/
def c_dn (M : ip_H) : ip_H := ip_uI (ip_sI (ip_sL (ip_sI M 112 (c_cp (M.2.1 112) (M.2.1 112) 0 821 5747)) 115 (c_cp (M.2.2.1 115) (M.2.2.1 115) 0 9 63)) 113 (c_cp (M.2.1 113) (M.2.1 113) 0 1 7)) 108 12 (Int32.ofNat 7)
set_option maxHeartbeats 40000000 in
set_option maxRecDepth 100000 in
theorem s_170t (X : ip_X) (M : ip_H) (K : Option Value → ip_H → Prop) (what : Int32) (m : Nat) (hm : m ≤ 7) (h12 : M.2.1 108 12 = Int32.ofNat m) (w : Value) (hG : ip_G M) : ip_wp X 170 110 [.ref 108, .int what, w] [] M K = K none (c_kp M what m) := by
  simp (config := { maxSteps := 10000000, maxDischargeDepth := 30, decide := true }) only [w170_110, w170_111, ip_get_0, ip_get_s, ip_set1, ip_clr_s, ip_cat_i, List.set_cons_zero, List.set_cons_succ, ↓reduceIte, Nat.reduceEqDiff]
  refine (s_170d0 X M K what m hm h12 hG).trans ?_
  simp (config := { maxSteps := 10000000, maxDischargeDepth := 30, decide := true }) only [w170_146, w170_147, ip_get_0, ip_get_s, ip_set1, ip_clr_s, ip_cat_i, List.set_cons_zero, List.set_cons_succ, ↓reduceIte, Nat.reduceEqDiff, Int32.reduceOfNat]
  refine (s_170e0 X (ip_sI M 112 (c_cp (M.2.1 112) (M.2.1 109) (821 * m) 0 821)) K what m hm h12 hG).trans ?_
  have nm : (Int32.ofNat m < 0) = False := eq_false (ip_nn _ (by omega))
  have cm : (Int32.ofNat m).toNatClampNeg = m := ip_nc _ (by omega)
  have lm : (m < 8) = True := eq_true (by omega)
  have ei : Int32.ofNat m + 1 = Int32.ofNat (m + 1) := ip_oa m 1
  unfold c_kp
  simp (config := { maxSteps := 10000000, maxDischargeDepth := 30, decide := true }) only [w170_180, w170_181, w170_184, w170_185, w170_188, w170_189, w170_190, w170_191_r, w170_191_i, w170_192, w170_195, w170_196, w170_197, w170_200, ↓ip_ka0, ↓ip_ki1, ip_uI_I, ip_uI_sh, ip_vr_some, ↓reduceIte, false_and, and_self, not_false_eq_true, ip_sI_I, ip_sI_L, ip_sI_R, ip_sI_sh, ip_sL_I, ip_sL_R, ip_sL_sh, ip_ix_eq, Int32.reduceOfNat, h12, nm, cm, lm, ei, gS_108 hG, gS_113 hG, gR_108_7 hG]

set_option maxHeartbeats 40000000 in
set_option maxRecDepth 100000 in
theorem s_170 (X : ip_X) (M : ip_H) (K : Option Value → ip_H → Prop) (what : Int32) (m : Nat) (hm : m ≤ 7) (h12 : M.2.1 108 12 = Int32.ofNat m) (hG : ip_G M) : ip_wp X 170 0 [.ref 108, .int what, .retAddr 1] [] M K = K none (c_kp M what m) := by
  have hne : (Int32.ofNat m = 8) = False := by rw [show (8 : Int32) = Int32.ofNat 8 from rfl, ip_neq _ _ (by omega) (by decide)]; exact eq_false (by omega)
  simp (config := { maxSteps := 10000000, maxDischargeDepth := 30, decide := true }) only [w170_0, w170_1, w170_4, w170_6, ↓ip_ka0, ↓reduceIte, h12, hne, gS_108 hG]
  exact s_170t X M K what m hm h12 (.retAddr 1) hG

set_option maxHeartbeats 40000000 in
set_option maxRecDepth 100000 in
theorem s_170x (X : ip_X) (M : ip_H) (K : Option Value → ip_H → Prop) (what : Int32) (h12 : M.2.1 108 12 = Int32.ofNat 8) (hG : ip_G M) : ip_wp X 170 0 [.ref 108, .int what, .retAddr 1] [] M K = K none (c_kp (c_dn M) what 7) := by
  have he : (Int32.ofNat 8 = 8) = True := eq_true rfl
  have e7 : Int32.ofNat 8 - 1 = Int32.ofNat 7 := by decide +kernel
  simp (config := { maxSteps := 10000000, maxDischargeDepth := 30, decide := true }) only [w170_0, w170_1, w170_4, w170_6, w170_9, w170_12, ↓ip_ka0, ip_get_0, ip_get_s, ip_set1, ip_clr_s, ip_cat_i, List.set_cons_zero, List.set_cons_succ, ↓reduceIte, Nat.reduceEqDiff, Int32.reduceOfNat, h12, he, gS_108 hG]
  refine (s_170a0 X M K what hG).trans ?_
  simp (config := { maxSteps := 10000000, maxDischargeDepth := 30, decide := true }) only [w170_42, w170_44, ip_get_0, ip_get_s, ip_set1, ip_clr_s, ip_cat_i, List.set_cons_zero, List.set_cons_succ, ↓reduceIte, Nat.reduceEqDiff, Int32.reduceOfNat]
  refine (s_170b0 X (ip_sI M 112 (c_cp (M.2.1 112) (M.2.1 112) 0 821 5747)) K what hG).trans ?_
  simp (config := { maxSteps := 10000000, maxDischargeDepth := 30, decide := true }) only [w170_72, w170_73, ip_get_0, ip_get_s, ip_set1, ip_clr_s, ip_cat_i, List.set_cons_zero, List.set_cons_succ, ↓reduceIte, Nat.reduceEqDiff, ip_sI_L, Int32.reduceOfNat]
  refine (s_170c0 X (ip_sL (ip_sI M 112 (c_cp (M.2.1 112) (M.2.1 112) 0 821 5747)) 115 (c_cp (M.2.2.1 115) (M.2.2.1 115) 0 9 63)) K what hG).trans ?_
  simp (config := { maxSteps := 10000000, maxDischargeDepth := 30, decide := true }) only [w170_100, w170_101_r, w170_102, w170_105, w170_106, w170_107, ↓ip_ka0, ↓reduceIte, ip_sI_I, ip_sI_sh, ip_sL_I, ip_sL_sh, Int32.reduceSub, Int32.reduceOfNat, h12, e7, gS_108 hG]
  exact s_170t X (c_dn M) K what 7 (by decide) rfl _ hG
end
noncomputable section
-- PART 64.small
-- SMALL METHODS of the reference
theorem ip_nn1 : (- -1 : Int32) = 1 := by decide +kernel
theorem ip_nn2 : (- -2 : Int32) = 2 := by decide +kernel
theorem ip_nn3 : (- -3 : Int32) = 3 := by decide +kernel
theorem ip_nn4 : (- -4 : Int32) = 4 := by decide +kernel
theorem ip_nn5 : (- -5 : Int32) = 5 := by decide +kernel
theorem ip_nn6 : (- -6 : Int32) = 6 := by decide +kernel
theorem ip_b_ft (c : Bool) : (c = false ∨ c = true) = True := by cases c <;> simp
def l_sm (v : Int64) : Bool := !decide (v < -150) && !decide (150 < v)
def i_in (v lo hi : Int32) : Bool := !decide (v < lo) && !decide (hi < v)
def c_no (M : ip_H) (n : Nat) (c : Int32) : ip_H := ip_uI (ip_uI M 108 4 c) 111 n (M.2.1 111 n + 1)
def c_ye (M : ip_H) : ip_H := ip_uI M 108 4 0
theorem z_l2i (a : Int) : (Int64.ofInt a).toInt32 = Int32.ofInt a := Int64.toInt32_ofInt
theorem l_sm_z {a : Int} (h : zb 9223372036854775807 a) : (l_sm (Int64.ofInt a) = true) = zb 150 a := by
  have e1 := z_lt (b := -150) h ⟨by decide, by decide⟩
  have e2 := z_lt (a := 150) ⟨by decide, by decide⟩ h
  have f1 : (-150 : Int64) = Int64.ofInt (-150) := rfl
  have f2 : (150 : Int64) = Int64.ofInt 150 := rfl
  apply propext
  unfold l_sm zb
  rw [Bool.and_eq_true, Bool.not_eq_true', Bool.not_eq_true', decide_eq_false_iff_not, decide_eq_false_iff_not, f1, f2, e1, e2]
  omega
theorem l_sm_w {x : Int32} : (l_sm (Int64.ofInt x.toInt) = true) = zb 150 x.toInt := by
  have h1 := Int32.le_toInt x
  have h2 := Int32.toInt_lt x
  exact l_sm_z ⟨by omega, by omega⟩
theorem i_in_z {v lo hi : Int32} : (i_in v lo hi = true) = (lo.toInt ≤ v.toInt ∧ v.toInt ≤ hi.toInt) := by
  apply propext
  unfold i_in
  rw [Bool.and_eq_true, Bool.not_eq_true', Bool.not_eq_true', decide_eq_false_iff_not, decide_eq_false_iff_not, Int32.lt_iff_toInt_lt, Int32.lt_iff_toInt_lt]
  omega
def c_clf (N : Nat → Int32) (p q r : Int32) : Nat → Int32 := fun j => if j = 0 then p else if j = 1 then q else if j = 2 then r else if j = 3 then 0 else if j = 5 then 0 else if j = 6 then -1 else if j = 7 then 0 else if 9 ≤ j ∧ j < 33 then (if j % 4 = 0 then 1 else 0) else N j
def c_cl (M : ip_H) (p q r : Int32) : ip_H := ip_sI M 109 (c_clf (M.2.1 109) p q r)
/-- all is kept, the oldest given up where there are 8 -/
def c_ks (M : ip_H) (what : Int32) : ip_H := if M.2.1 108 12 = 8 then c_kp (c_dn M) what 7 else c_kp M what (M.2.1 108 12).toNatClampNeg
theorem c_ks_ne (M : ip_H) (what : Int32) (P : ip_H → Prop) (h1 : P (c_kp (c_dn M) what 7)) (h2 : P (c_kp M what (M.2.1 108 12).toNatClampNeg)) : P (c_ks M what) := by
  unfold c_ks
  split
  · exact h1
  · exact h2
theorem c_ks_1 (M : ip_H) (w : Int32) : (c_ks M w).1 = M.1 := c_ks_ne M w (fun q => q.1 = M.1) rfl rfl
theorem c_ks_R (M : ip_H) (w : Int32) : (c_ks M w).2.2.2 = M.2.2.2 := c_ks_ne M w (fun q => q.2.2.2 = M.2.2.2) rfl rfl
theorem c_ks_sh (M : ip_H) (w : Int32) (k : Nat) : ip_sh (c_ks M w) k = ip_sh M k := by unfold ip_sh; rw [c_ks_1]
theorem gG_ks (M : ip_H) (w : Int32) (h : ip_G M) : ip_G (c_ks M w) := c_ks_ne M w ip_G h h
/-- 0 .. 8 -/
def m8 (x : Int32) : Bool := decide (0 ≤ x.toInt) && decide (x.toInt ≤ 8)
theorem c_ks_I (M : ip_H) (w : Int32) (a b : Nat) (h1 : ¬ a = 112) (h2 : ¬ a = 113) (h3 : ¬ (a = 108 ∧ b = 12)) : (c_ks M w).2.1 a b = M.2.1 a b := by
  refine c_ks_ne M w (fun q => q.2.1 a b = M.2.1 a b) ?_ ?_
  · unfold c_kp c_dn
    simp only [ip_uI_I, ip_sI_I, ip_sL_I, h1, h2, h3, ↓reduceIte, false_and]
  · unfold c_kp
    simp only [ip_uI_I, ip_sI_I, ip_sL_I, h1, h2, h3, ↓reduceIte, false_and]
theorem c_ks_L (M : ip_H) (w : Int32) (a b : Nat) (h1 : ¬ a = 115) : (c_ks M w).2.2.1 a b = M.2.2.1 a b := by
  refine c_ks_ne M w (fun q => q.2.2.1 a b = M.2.2.1 a b) ?_ ?_
  · unfold c_kp c_dn
    simp only [ip_uI_L, ip_sI_L, ip_sL_L, h1, ↓reduceIte]
  · unfold c_kp
    simp only [ip_uI_L, ip_sI_L, ip_sL_L, h1, ↓reduceIte]
/-- a value laid into the store -/
def c_ly (N : ip_H) (i : Nat) (a b c d : Int32) : ip_H := ip_uI (ip_uI (ip_uI (ip_uI (ip_uI N 109 (9 + 4 * i) a) 109 (9 + 4 * i + 1) b) 109 (9 + 4 * i + 2) c) 109 (9 + 4 * i + 3) d) 108 4 0
theorem i6 {x : Int32} (h : i_in x 0 5 = true) : ∃ i : Nat, i < 6 ∧ x = Int32.ofNat i := by
  rw [i_in_z] at h
  have e0 : (0 : Int32).toInt = 0 := rfl
  have e5 : (5 : Int32).toInt = 5 := rfl
  have hx := ip_nat x (by omega)
  refine ⟨x.toNatClampNeg, ?_, hx⟩
  have e : x.toNatClampNeg = x.toInt.toNat := rfl
  omega

set_option maxHeartbeats 40000000 in
set_option maxRecDepth 100000 in
theorem s_166 (X : ip_X) (M : ip_H) (K : Option Value → ip_H → Prop) (v lo hi : Int32) : ip_wp X 166 0 [.int v, .int lo, .int hi] [] M K = K (some (.int (ip_b (i_in v lo hi)))) M := by
  unfold i_in
  by_cases h1 : v < lo
  · simp (config := { maxSteps := 10000000, maxDischargeDepth := 30, decide := true }) only [w166_0, w166_1, w166_2, w166_5, w166_6, w166_7, w166_10, w166_11, w166_14, w166_15, ↓ip_ki0, ↓ip_ki1, ↓reduceIte, or_false, ip_b_f, h1, decide_true, Bool.not_true, Bool.false_and]
  · by_cases h2 : hi < v
    · simp (config := { maxSteps := 10000000, maxDischargeDepth := 30, decide := true }) only [w166_0, w166_1, w166_2, w166_5, w166_6, w166_7, w166_10, w166_11, w166_14, w166_15, ↓ip_ki0, ↓ip_ki1, ↓ip_ki2, ↓reduceIte, or_false, ip_b_f, h1, h2, decide_true, decide_false, Bool.not_true, Bool.not_false, Bool.and_false]
    · simp (config := { maxSteps := 10000000, maxDischargeDepth := 30, decide := true }) only [w166_0, w166_1, w166_2, w166_5, w166_6, w166_7, w166_10, w166_11, w166_14, w166_15, ↓ip_ki0, ↓ip_ki1, ↓ip_ki2, ↓reduceIte, or_true, ip_b_t, h1, h2, decide_false, Bool.not_false, Bool.and_true]

set_option maxHeartbeats 40000000 in
set_option maxRecDepth 100000 in
theorem s_167_1 (X : ip_X) (M : ip_H) (K : Option Value → ip_H → Prop) (hG : ip_G M) : ip_wp X 167 0 [.ref 108, .int (-1)] [] M K = K (some (.int (-1))) (c_no M 1 (-1)) := by
  unfold c_no
  simp (config := { maxSteps := 10000000, maxDischargeDepth := 30, decide := true }) only [w167_0, w167_1, w167_2, w167_5, w167_6, w167_9, w167_10, w167_11, w167_12, w167_13, w167_14, w167_15, w167_16, w167_17, ↓ip_ka0, ↓ip_ki1, ip_uI_I, ip_uI_R, ip_uI_sh, ip_vr_some, ↓reduceIte, Int32.reduceToNatClampNeg, ip_ix_eq, gS_108 hG, gS_111 hG, gR_108_5 hG, ip_nn1]

set_option maxHeartbeats 40000000 in
set_option maxRecDepth 100000 in
theorem s_167_2 (X : ip_X) (M : ip_H) (K : Option Value → ip_H → Prop) (hG : ip_G M) : ip_wp X 167 0 [.ref 108, .int (-2)] [] M K = K (some (.int (-2))) (c_no M 2 (-2)) := by
  unfold c_no
  simp (config := { maxSteps := 10000000, maxDischargeDepth := 30, decide := true }) only [w167_0, w167_1, w167_2, w167_5, w167_6, w167_9, w167_10, w167_11, w167_12, w167_13, w167_14, w167_15, w167_16, w167_17, ↓ip_ka0, ↓ip_ki1, ip_uI_I, ip_uI_R, ip_uI_sh, ip_vr_some, ↓reduceIte, Int32.reduceToNatClampNeg, ip_ix_eq, gS_108 hG, gS_111 hG, gR_108_5 hG, ip_nn2]

set_option maxHeartbeats 40000000 in
set_option maxRecDepth 100000 in
theorem s_167_3 (X : ip_X) (M : ip_H) (K : Option Value → ip_H → Prop) (hG : ip_G M) : ip_wp X 167 0 [.ref 108, .int (-3)] [] M K = K (some (.int (-3))) (c_no M 3 (-3)) := by
  unfold c_no
  simp (config := { maxSteps := 10000000, maxDischargeDepth := 30, decide := true }) only [w167_0, w167_1, w167_2, w167_5, w167_6, w167_9, w167_10, w167_11, w167_12, w167_13, w167_14, w167_15, w167_16, w167_17, ↓ip_ka0, ↓ip_ki1, ip_uI_I, ip_uI_R, ip_uI_sh, ip_vr_some, ↓reduceIte, Int32.reduceToNatClampNeg, ip_ix_eq, gS_108 hG, gS_111 hG, gR_108_5 hG, ip_nn3]

set_option maxHeartbeats 40000000 in
set_option maxRecDepth 100000 in
theorem s_167_4 (X : ip_X) (M : ip_H) (K : Option Value → ip_H → Prop) (hG : ip_G M) : ip_wp X 167 0 [.ref 108, .int (-4)] [] M K = K (some (.int (-4))) (c_no M 4 (-4)) := by
  unfold c_no
  simp (config := { maxSteps := 10000000, maxDischargeDepth := 30, decide := true }) only [w167_0, w167_1, w167_2, w167_5, w167_6, w167_9, w167_10, w167_11, w167_12, w167_13, w167_14, w167_15, w167_16, w167_17, ↓ip_ka0, ↓ip_ki1, ip_uI_I, ip_uI_R, ip_uI_sh, ip_vr_some, ↓reduceIte, Int32.reduceToNatClampNeg, ip_ix_eq, gS_108 hG, gS_111 hG, gR_108_5 hG, ip_nn4]

set_option maxHeartbeats 40000000 in
set_option maxRecDepth 100000 in
theorem s_167_5 (X : ip_X) (M : ip_H) (K : Option Value → ip_H → Prop) (hG : ip_G M) : ip_wp X 167 0 [.ref 108, .int (-5)] [] M K = K (some (.int (-5))) (c_no M 5 (-5)) := by
  unfold c_no
  simp (config := { maxSteps := 10000000, maxDischargeDepth := 30, decide := true }) only [w167_0, w167_1, w167_2, w167_5, w167_6, w167_9, w167_10, w167_11, w167_12, w167_13, w167_14, w167_15, w167_16, w167_17, ↓ip_ka0, ↓ip_ki1, ip_uI_I, ip_uI_R, ip_uI_sh, ip_vr_some, ↓reduceIte, Int32.reduceToNatClampNeg, ip_ix_eq, gS_108 hG, gS_111 hG, gR_108_5 hG, ip_nn5]

set_option maxHeartbeats 40000000 in
set_option maxRecDepth 100000 in
theorem s_167_6 (X : ip_X) (M : ip_H) (K : Option Value → ip_H → Prop) (hG : ip_G M) : ip_wp X 167 0 [.ref 108, .int (-6)] [] M K = K (some (.int (-6))) (c_no M 6 (-6)) := by
  unfold c_no
  simp (config := { maxSteps := 10000000, maxDischargeDepth := 30, decide := true }) only [w167_0, w167_1, w167_2, w167_5, w167_6, w167_9, w167_10, w167_11, w167_12, w167_13, w167_14, w167_15, w167_16, w167_17, ↓ip_ka0, ↓ip_ki1, ip_uI_I, ip_uI_R, ip_uI_sh, ip_vr_some, ↓reduceIte, Int32.reduceToNatClampNeg, ip_ix_eq, gS_108 hG, gS_111 hG, gR_108_5 hG, ip_nn6]

set_option maxHeartbeats 40000000 in
set_option maxRecDepth 100000 in
theorem s_168 (X : ip_X) (M : ip_H) (K : Option Value → ip_H → Prop) (v : Int32) (hG : ip_G M) : ip_wp X 168 0 [.ref 108, .int v] [] M K = K (some (.int v)) (c_ye M) := by
  unfold c_ye
  simp (config := { maxSteps := 10000000, maxDischargeDepth := 30, decide := true }) only [w168_0, w168_1, w168_2, w168_5, w168_6, ↓ip_ka0, ↓ip_ki1, gS_108 hG]

set_option maxHeartbeats 40000000 in
set_option maxRecDepth 100000 in
theorem s_196 (X : ip_X) (M : ip_H) (K : Option Value → ip_H → Prop) (v : Int32) : ip_wp X 196 0 [.int v] [] M K = K (some (.int (ip_b (i_in v 0 5)))) M := by
  simp (config := { maxSteps := 10000000, maxDischargeDepth := 30, decide := true }) only [w196_0, w196_1, w196_2, w196_3, w196_6, ↓ip_ki0, Option.toList_some, List.nil_append, List.cons_append, List.length_nil, Nat.zero_le, ip_b_0, ip_b_1, s_166, ip_b_ft]

set_option maxHeartbeats 40000000 in
set_option maxRecDepth 100000 in
theorem s_189 (X : ip_X) (M : ip_H) (K : Option Value → ip_H → Prop) (v : Int64) : ip_wp X 189 0 [.long v, .retAddr 1] [] M K = K (some (.int (ip_b (l_sm v)))) M := by
  unfold l_sm
  by_cases h1 : v < -150
  · simp (config := { maxSteps := 10000000, maxDischargeDepth := 30, decide := true }) only [w189_0, w189_1, w189_4, w189_5, w189_8, w189_9, w189_12, w189_13, w189_16, w189_17, w189_20, w189_21, ↓ip_kl0, ↓reduceIte, or_false, ip_b_f, ip_cmp_lt, h1, decide_true, Bool.not_true, Bool.false_and]
  · by_cases h2 : 150 < v
    · simp (config := { maxSteps := 10000000, maxDischargeDepth := 30, decide := true }) only [w189_0, w189_1, w189_4, w189_5, w189_8, w189_9, w189_12, w189_13, w189_16, w189_17, w189_20, w189_21, ↓ip_kl0, ↓reduceIte, or_false, ip_b_f, ip_cmp_lt, ip_cmp_gt, h1, h2, decide_true, decide_false, Bool.not_true, Bool.not_false, Bool.and_false]
    · simp (config := { maxSteps := 10000000, maxDischargeDepth := 30, decide := true }) only [w189_0, w189_1, w189_4, w189_5, w189_8, w189_9, w189_12, w189_13, w189_16, w189_17, w189_20, w189_21, ↓ip_kl0, ↓reduceIte, or_true, ip_b_t, ip_cmp_lt, ip_cmp_gt, h1, h2, decide_false, Bool.not_false, Bool.and_true]

set_option maxHeartbeats 40000000 in
set_option maxRecDepth 100000 in
theorem s_190 (X : ip_X) (M : ip_H) (K : Option Value → ip_H → Prop) (hG : ip_G M) : ip_wp X 190 0 [.ref 108] [] M K = K (some (.int (ip_b (l_sm (M.2.2.1 108 13) && (l_sm (M.2.2.1 108 14) && (l_sm (M.2.2.1 108 15) && !decide (150 < M.2.2.1 108 16))))))) M := by
  cases h1 : l_sm (M.2.2.1 108 13)
  · simp (config := { maxSteps := 10000000, maxDischargeDepth := 30, decide := true }) only [w190_0, w190_1, w190_4, w190_7, w190_10, w190_11, w190_14, w190_17, w190_20, w190_21, w190_24, w190_27, w190_30, w190_31, w190_34, w190_37, w190_38, w190_41, w190_42, w190_45, w190_46, ↓ip_ka0, Option.toList_some, List.nil_append, List.cons_append, List.length_nil, ↓reduceIte, Nat.zero_le, or_false, ip_b_f, gS_108 hG, s_189, h1, Bool.false_and]
  cases h2 : l_sm (M.2.2.1 108 14)
  · simp (config := { maxSteps := 10000000, maxDischargeDepth := 30, decide := true }) only [w190_0, w190_1, w190_4, w190_7, w190_10, w190_11, w190_14, w190_17, w190_20, w190_21, w190_24, w190_27, w190_30, w190_31, w190_34, w190_37, w190_38, w190_41, w190_42, w190_45, w190_46, ↓ip_ka0, Option.toList_some, List.nil_append, List.cons_append, List.length_nil, ↓reduceIte, Nat.zero_le, or_false, ip_b_t, ip_b_f, gS_108 hG, s_189, h1, h2, Bool.and_false, Bool.false_and]
  cases h3 : l_sm (M.2.2.1 108 15)
  · simp (config := { maxSteps := 10000000, maxDischargeDepth := 30, decide := true }) only [w190_0, w190_1, w190_4, w190_7, w190_10, w190_11, w190_14, w190_17, w190_20, w190_21, w190_24, w190_27, w190_30, w190_31, w190_34, w190_37, w190_38, w190_41, w190_42, w190_45, w190_46, ↓ip_ka0, Option.toList_some, List.nil_append, List.cons_append, List.length_nil, ↓reduceIte, Nat.zero_le, or_false, ip_b_t, ip_b_f, gS_108 hG, s_189, h1, h2, h3, Bool.and_false, Bool.false_and]
  by_cases h4 : 150 < M.2.2.1 108 16
  · simp (config := { maxSteps := 10000000, maxDischargeDepth := 30, decide := true }) only [w190_0, w190_1, w190_4, w190_7, w190_10, w190_11, w190_14, w190_17, w190_20, w190_21, w190_24, w190_27, w190_30, w190_31, w190_34, w190_37, w190_38, w190_41, w190_42, w190_45, w190_46, ↓ip_ka0, Option.toList_some, List.nil_append, List.cons_append, List.length_nil, ↓reduceIte, Nat.zero_le, or_false, ip_b_t, ip_b_f, ip_cmp_gt, gS_108 hG, s_189, h1, h2, h3, h4, decide_true, Bool.not_true, Bool.and_false]
  · simp (config := { maxSteps := 10000000, maxDischargeDepth := 30, decide := true }) only [w190_0, w190_1, w190_4, w190_7, w190_10, w190_11, w190_14, w190_17, w190_20, w190_21, w190_24, w190_27, w190_30, w190_31, w190_34, w190_37, w190_38, w190_41, w190_42, w190_45, w190_46, ↓ip_ka0, Option.toList_some, List.nil_append, List.cons_append, List.length_nil, ↓reduceIte, Nat.zero_le, or_true, ip_b_t, ip_cmp_gt, gS_108 hG, s_189, h1, h2, h3, h4, decide_false, Bool.not_false, Bool.and_true]

set_option maxHeartbeats 40000000 in
set_option maxRecDepth 100000 in
theorem s_197_0 (X : ip_X) (M : ip_H) (K : Option Value → ip_H → Prop) (i : Nat) (hi : i < 6) (hG : ip_G M) : ip_wp X 197 0 [.ref 108, .int (Int32.ofNat i), .int 0] [] M K = K (some (.int (M.2.1 109 (9 + 4 * i + 0)))) M := by
  have e : 9 + 4 * Int32.ofNat i + 0 = Int32.ofNat (9 + 4 * i + 0) := by rw [show (9 : Int32) = Int32.ofNat 9 from rfl, show (4 : Int32) = Int32.ofNat 4 from rfl, show (0 : Int32) = Int32.ofNat 0 from rfl, ip_om, ip_oa, ip_oa]
  have n := eq_false (ip_nn (9 + 4 * i + 0) (by omega))
  have c := ip_nc (9 + 4 * i + 0) (by omega)
  have l : (9 + 4 * i + 0 < 821) = True := eq_true (by omega)
  simp (config := { maxSteps := 10000000, maxDischargeDepth := 30, decide := true }) only [w197_0, w197_1, w197_4, w197_6, w197_7, w197_8, w197_9, w197_10, w197_11, w197_12, w197_13, ↓ip_ka0, ↓ip_ki1, ↓ip_ki2, ip_vr_some, and_self, not_false_eq_true, ip_ix_eq, gS_108 hG, gS_109 hG, gR_108_1 hG, e, n, c, l]

set_option maxHeartbeats 40000000 in
set_option maxRecDepth 100000 in
theorem s_197_1 (X : ip_X) (M : ip_H) (K : Option Value → ip_H → Prop) (i : Nat) (hi : i < 6) (hG : ip_G M) : ip_wp X 197 0 [.ref 108, .int (Int32.ofNat i), .int 1] [] M K = K (some (.int (M.2.1 109 (9 + 4 * i + 1)))) M := by
  have e : 9 + 4 * Int32.ofNat i + 1 = Int32.ofNat (9 + 4 * i + 1) := by rw [show (9 : Int32) = Int32.ofNat 9 from rfl, show (4 : Int32) = Int32.ofNat 4 from rfl, show (1 : Int32) = Int32.ofNat 1 from rfl, ip_om, ip_oa, ip_oa]
  have n := eq_false (ip_nn (9 + 4 * i + 1) (by omega))
  have c := ip_nc (9 + 4 * i + 1) (by omega)
  have l : (9 + 4 * i + 1 < 821) = True := eq_true (by omega)
  simp (config := { maxSteps := 10000000, maxDischargeDepth := 30, decide := true }) only [w197_0, w197_1, w197_4, w197_6, w197_7, w197_8, w197_9, w197_10, w197_11, w197_12, w197_13, ↓ip_ka0, ↓ip_ki1, ↓ip_ki2, ip_vr_some, and_self, not_false_eq_true, ip_ix_eq, gS_108 hG, gS_109 hG, gR_108_1 hG, e, n, c, l]

set_option maxHeartbeats 40000000 in
set_option maxRecDepth 100000 in
theorem s_197_2 (X : ip_X) (M : ip_H) (K : Option Value → ip_H → Prop) (i : Nat) (hi : i < 6) (hG : ip_G M) : ip_wp X 197 0 [.ref 108, .int (Int32.ofNat i), .int 2] [] M K = K (some (.int (M.2.1 109 (9 + 4 * i + 2)))) M := by
  have e : 9 + 4 * Int32.ofNat i + 2 = Int32.ofNat (9 + 4 * i + 2) := by rw [show (9 : Int32) = Int32.ofNat 9 from rfl, show (4 : Int32) = Int32.ofNat 4 from rfl, show (2 : Int32) = Int32.ofNat 2 from rfl, ip_om, ip_oa, ip_oa]
  have n := eq_false (ip_nn (9 + 4 * i + 2) (by omega))
  have c := ip_nc (9 + 4 * i + 2) (by omega)
  have l : (9 + 4 * i + 2 < 821) = True := eq_true (by omega)
  simp (config := { maxSteps := 10000000, maxDischargeDepth := 30, decide := true }) only [w197_0, w197_1, w197_4, w197_6, w197_7, w197_8, w197_9, w197_10, w197_11, w197_12, w197_13, ↓ip_ka0, ↓ip_ki1, ↓ip_ki2, ip_vr_some, and_self, not_false_eq_true, ip_ix_eq, gS_108 hG, gS_109 hG, gR_108_1 hG, e, n, c, l]

set_option maxHeartbeats 40000000 in
set_option maxRecDepth 100000 in
theorem s_197_3 (X : ip_X) (M : ip_H) (K : Option Value → ip_H → Prop) (i : Nat) (hi : i < 6) (hG : ip_G M) : ip_wp X 197 0 [.ref 108, .int (Int32.ofNat i), .int 3] [] M K = K (some (.int (M.2.1 109 (9 + 4 * i + 3)))) M := by
  have e : 9 + 4 * Int32.ofNat i + 3 = Int32.ofNat (9 + 4 * i + 3) := by rw [show (9 : Int32) = Int32.ofNat 9 from rfl, show (4 : Int32) = Int32.ofNat 4 from rfl, show (3 : Int32) = Int32.ofNat 3 from rfl, ip_om, ip_oa, ip_oa]
  have n := eq_false (ip_nn (9 + 4 * i + 3) (by omega))
  have c := ip_nc (9 + 4 * i + 3) (by omega)
  have l : (9 + 4 * i + 3 < 821) = True := eq_true (by omega)
  simp (config := { maxSteps := 10000000, maxDischargeDepth := 30, decide := true }) only [w197_0, w197_1, w197_4, w197_6, w197_7, w197_8, w197_9, w197_10, w197_11, w197_12, w197_13, ↓ip_ka0, ↓ip_ki1, ↓ip_ki2, ip_vr_some, and_self, not_false_eq_true, ip_ix_eq, gS_108 hG, gS_109 hG, gR_108_1 hG, e, n, c, l]

set_option maxHeartbeats 40000000 in
set_option maxRecDepth 100000 in
theorem s_208_0 (X : ip_X) (M : ip_H) (K : Option Value → ip_H → Prop) (i : Nat) (hi : i ≤ 60) (hG : ip_G M) : ip_wp X 208 0 [.ref 108, .int (Int32.ofNat i), .int 0] [] M K = K (some (.int (M.2.1 109 (153 + 8 * i)))) M := by
  have e : 153 + 8 * Int32.ofNat i + 0 = Int32.ofNat (153 + 8 * i) := by rw [show (153 : Int32) = Int32.ofNat 153 from rfl, show (8 : Int32) = Int32.ofNat 8 from rfl, show (0 : Int32) = Int32.ofNat 0 from rfl, ip_om, ip_oa, ip_oa] <;> rfl
  have n := eq_false (ip_nn (153 + 8 * i) (by omega))
  have c := ip_nc (153 + 8 * i) (by omega)
  have l : (153 + 8 * i < 821) = True := eq_true (by omega)
  simp (config := { maxSteps := 10000000, maxDischargeDepth := 30, decide := true }) only [w208_0, w208_1, w208_4, w208_7, w208_9, w208_10, w208_11, w208_12, w208_13, w208_14, w208_15, ↓ip_ka0, ↓ip_ki1, ↓ip_ki2, ip_vr_some, and_self, not_false_eq_true, ip_ix_eq, gS_108 hG, gS_109 hG, gR_108_1 hG, e, n, c, l]

set_option maxHeartbeats 40000000 in
set_option maxRecDepth 100000 in
theorem s_208_1 (X : ip_X) (M : ip_H) (K : Option Value → ip_H → Prop) (i : Nat) (hi : i ≤ 60) (hG : ip_G M) : ip_wp X 208 0 [.ref 108, .int (Int32.ofNat i), .int 1] [] M K = K (some (.int (M.2.1 109 (153 + 8 * i + 1)))) M := by
  have e : 153 + 8 * Int32.ofNat i + 1 = Int32.ofNat (153 + 8 * i + 1) := by rw [show (153 : Int32) = Int32.ofNat 153 from rfl, show (8 : Int32) = Int32.ofNat 8 from rfl, show (1 : Int32) = Int32.ofNat 1 from rfl, ip_om, ip_oa, ip_oa] <;> rfl
  have n := eq_false (ip_nn (153 + 8 * i + 1) (by omega))
  have c := ip_nc (153 + 8 * i + 1) (by omega)
  have l : (153 + 8 * i + 1 < 821) = True := eq_true (by omega)
  simp (config := { maxSteps := 10000000, maxDischargeDepth := 30, decide := true }) only [w208_0, w208_1, w208_4, w208_7, w208_9, w208_10, w208_11, w208_12, w208_13, w208_14, w208_15, ↓ip_ka0, ↓ip_ki1, ↓ip_ki2, ip_vr_some, and_self, not_false_eq_true, ip_ix_eq, gS_108 hG, gS_109 hG, gR_108_1 hG, e, n, c, l]

set_option maxHeartbeats 40000000 in
set_option maxRecDepth 100000 in
theorem s_208_2 (X : ip_X) (M : ip_H) (K : Option Value → ip_H → Prop) (i : Nat) (hi : i ≤ 60) (hG : ip_G M) : ip_wp X 208 0 [.ref 108, .int (Int32.ofNat i), .int 2] [] M K = K (some (.int (M.2.1 109 (153 + 8 * i + 2)))) M := by
  have e : 153 + 8 * Int32.ofNat i + 2 = Int32.ofNat (153 + 8 * i + 2) := by rw [show (153 : Int32) = Int32.ofNat 153 from rfl, show (8 : Int32) = Int32.ofNat 8 from rfl, show (2 : Int32) = Int32.ofNat 2 from rfl, ip_om, ip_oa, ip_oa] <;> rfl
  have n := eq_false (ip_nn (153 + 8 * i + 2) (by omega))
  have c := ip_nc (153 + 8 * i + 2) (by omega)
  have l : (153 + 8 * i + 2 < 821) = True := eq_true (by omega)
  simp (config := { maxSteps := 10000000, maxDischargeDepth := 30, decide := true }) only [w208_0, w208_1, w208_4, w208_7, w208_9, w208_10, w208_11, w208_12, w208_13, w208_14, w208_15, ↓ip_ka0, ↓ip_ki1, ↓ip_ki2, ip_vr_some, and_self, not_false_eq_true, ip_ix_eq, gS_108 hG, gS_109 hG, gR_108_1 hG, e, n, c, l]

set_option maxHeartbeats 40000000 in
set_option maxRecDepth 100000 in
theorem s_208_3 (X : ip_X) (M : ip_H) (K : Option Value → ip_H → Prop) (i : Nat) (hi : i ≤ 60) (hG : ip_G M) : ip_wp X 208 0 [.ref 108, .int (Int32.ofNat i), .int 3] [] M K = K (some (.int (M.2.1 109 (153 + 8 * i + 3)))) M := by
  have e : 153 + 8 * Int32.ofNat i + 3 = Int32.ofNat (153 + 8 * i + 3) := by rw [show (153 : Int32) = Int32.ofNat 153 from rfl, show (8 : Int32) = Int32.ofNat 8 from rfl, show (3 : Int32) = Int32.ofNat 3 from rfl, ip_om, ip_oa, ip_oa] <;> rfl
  have n := eq_false (ip_nn (153 + 8 * i + 3) (by omega))
  have c := ip_nc (153 + 8 * i + 3) (by omega)
  have l : (153 + 8 * i + 3 < 821) = True := eq_true (by omega)
  simp (config := { maxSteps := 10000000, maxDischargeDepth := 30, decide := true }) only [w208_0, w208_1, w208_4, w208_7, w208_9, w208_10, w208_11, w208_12, w208_13, w208_14, w208_15, ↓ip_ka0, ↓ip_ki1, ↓ip_ki2, ip_vr_some, and_self, not_false_eq_true, ip_ix_eq, gS_108 hG, gS_109 hG, gR_108_1 hG, e, n, c, l]

set_option maxHeartbeats 40000000 in
set_option maxRecDepth 100000 in
theorem s_208_4 (X : ip_X) (M : ip_H) (K : Option Value → ip_H → Prop) (i : Nat) (hi : i ≤ 60) (hG : ip_G M) : ip_wp X 208 0 [.ref 108, .int (Int32.ofNat i), .int 4] [] M K = K (some (.int (M.2.1 109 (153 + 8 * i + 4)))) M := by
  have e : 153 + 8 * Int32.ofNat i + 4 = Int32.ofNat (153 + 8 * i + 4) := by rw [show (153 : Int32) = Int32.ofNat 153 from rfl, show (8 : Int32) = Int32.ofNat 8 from rfl, show (4 : Int32) = Int32.ofNat 4 from rfl, ip_om, ip_oa, ip_oa] <;> rfl
  have n := eq_false (ip_nn (153 + 8 * i + 4) (by omega))
  have c := ip_nc (153 + 8 * i + 4) (by omega)
  have l : (153 + 8 * i + 4 < 821) = True := eq_true (by omega)
  simp (config := { maxSteps := 10000000, maxDischargeDepth := 30, decide := true }) only [w208_0, w208_1, w208_4, w208_7, w208_9, w208_10, w208_11, w208_12, w208_13, w208_14, w208_15, ↓ip_ka0, ↓ip_ki1, ↓ip_ki2, ip_vr_some, and_self, not_false_eq_true, ip_ix_eq, gS_108 hG, gS_109 hG, gR_108_1 hG, e, n, c, l]

set_option maxHeartbeats 40000000 in
set_option maxRecDepth 100000 in
theorem s_208_5 (X : ip_X) (M : ip_H) (K : Option Value → ip_H → Prop) (i : Nat) (hi : i ≤ 60) (hG : ip_G M) : ip_wp X 208 0 [.ref 108, .int (Int32.ofNat i), .int 5] [] M K = K (some (.int (M.2.1 109 (153 + 8 * i + 5)))) M := by
  have e : 153 + 8 * Int32.ofNat i + 5 = Int32.ofNat (153 + 8 * i + 5) := by rw [show (153 : Int32) = Int32.ofNat 153 from rfl, show (8 : Int32) = Int32.ofNat 8 from rfl, show (5 : Int32) = Int32.ofNat 5 from rfl, ip_om, ip_oa, ip_oa] <;> rfl
  have n := eq_false (ip_nn (153 + 8 * i + 5) (by omega))
  have c := ip_nc (153 + 8 * i + 5) (by omega)
  have l : (153 + 8 * i + 5 < 821) = True := eq_true (by omega)
  simp (config := { maxSteps := 10000000, maxDischargeDepth := 30, decide := true }) only [w208_0, w208_1, w208_4, w208_7, w208_9, w208_10, w208_11, w208_12, w208_13, w208_14, w208_15, ↓ip_ka0, ↓ip_ki1, ↓ip_ki2, ip_vr_some, and_self, not_false_eq_true, ip_ix_eq, gS_108 hG, gS_109 hG, gR_108_1 hG, e, n, c, l]

set_option maxHeartbeats 40000000 in
set_option maxRecDepth 100000 in
theorem s_208_6 (X : ip_X) (M : ip_H) (K : Option Value → ip_H → Prop) (i : Nat) (hi : i ≤ 60) (hG : ip_G M) : ip_wp X 208 0 [.ref 108, .int (Int32.ofNat i), .int 6] [] M K = K (some (.int (M.2.1 109 (153 + 8 * i + 6)))) M := by
  have e : 153 + 8 * Int32.ofNat i + 6 = Int32.ofNat (153 + 8 * i + 6) := by rw [show (153 : Int32) = Int32.ofNat 153 from rfl, show (8 : Int32) = Int32.ofNat 8 from rfl, show (6 : Int32) = Int32.ofNat 6 from rfl, ip_om, ip_oa, ip_oa] <;> rfl
  have n := eq_false (ip_nn (153 + 8 * i + 6) (by omega))
  have c := ip_nc (153 + 8 * i + 6) (by omega)
  have l : (153 + 8 * i + 6 < 821) = True := eq_true (by omega)
  simp (config := { maxSteps := 10000000, maxDischargeDepth := 30, decide := true }) only [w208_0, w208_1, w208_4, w208_7, w208_9, w208_10, w208_11, w208_12, w208_13, w208_14, w208_15, ↓ip_ka0, ↓ip_ki1, ↓ip_ki2, ip_vr_some, and_self, not_false_eq_true, ip_ix_eq, gS_108 hG, gS_109 hG, gR_108_1 hG, e, n, c, l]

set_option maxHeartbeats 40000000 in
set_option maxRecDepth 100000 in
theorem s_208_7 (X : ip_X) (M : ip_H) (K : Option Value → ip_H → Prop) (i : Nat) (hi : i ≤ 60) (hG : ip_G M) : ip_wp X 208 0 [.ref 108, .int (Int32.ofNat i), .int 7] [] M K = K (some (.int (M.2.1 109 (153 + 8 * i + 7)))) M := by
  have e : 153 + 8 * Int32.ofNat i + 7 = Int32.ofNat (153 + 8 * i + 7) := by rw [show (153 : Int32) = Int32.ofNat 153 from rfl, show (8 : Int32) = Int32.ofNat 8 from rfl, show (7 : Int32) = Int32.ofNat 7 from rfl, ip_om, ip_oa, ip_oa] <;> rfl
  have n := eq_false (ip_nn (153 + 8 * i + 7) (by omega))
  have c := ip_nc (153 + 8 * i + 7) (by omega)
  have l : (153 + 8 * i + 7 < 821) = True := eq_true (by omega)
  simp (config := { maxSteps := 10000000, maxDischargeDepth := 30, decide := true }) only [w208_0, w208_1, w208_4, w208_7, w208_9, w208_10, w208_11, w208_12, w208_13, w208_14, w208_15, ↓ip_ka0, ↓ip_ki1, ↓ip_ki2, ip_vr_some, and_self, not_false_eq_true, ip_ix_eq, gS_108 hG, gS_109 hG, gR_108_1 hG, e, n, c, l]

set_option maxHeartbeats 40000000 in
set_option maxRecDepth 100000 in
theorem s_209_0 (X : ip_X) (M : ip_H) (K : Option Value → ip_H → Prop) (i : Nat) (hi : i ≤ 60) (hG : ip_G M) (hq : q3 (M.2.1 109 1) = true) : ip_wp X 209 0 [.ref 108, .int (Int32.ofNat i), .int 0, .retAddr 1] [] M K = K (some (.int (z_fl (M.2.1 109 0).toInt (M.2.1 109 1).toInt (M.2.1 109 2).toInt (M.2.1 109 (153 + 8 * i)).toInt (M.2.1 109 (153 + 8 * i + 1)).toInt (M.2.1 109 (153 + 8 * i + 2)).toInt (M.2.1 109 (153 + 8 * i + 3)).toInt))) M := by
  have e0 : (153 + 8 * Int32.ofNat i + 0 : Int32) = Int32.ofNat (153 + 8 * i) := by rw [show (153 : Int32) = Int32.ofNat 153 from rfl, show (8 : Int32) = Int32.ofNat 8 from rfl, show (0 : Int32) = Int32.ofNat 0 from rfl, ip_om, ip_oa, ip_oa] <;> rfl
  have n0 := eq_false (ip_nn (153 + 8 * i) (by omega))
  have c0 := ip_nc (153 + 8 * i) (by omega)
  have l0 : (153 + 8 * i < 821) = True := eq_true (by omega)
  have e1 : Int32.ofNat (153 + 8 * i) + 1 = Int32.ofNat (153 + 8 * i + 1) := ip_oa _ 1
  have n1 := eq_false (ip_nn (153 + 8 * i + 1) (by omega))
  have c1 := ip_nc (153 + 8 * i + 1) (by omega)
  have l1 : (153 + 8 * i + 1 < 821) = True := eq_true (by omega)
  have e2 : Int32.ofNat (153 + 8 * i) + 2 = Int32.ofNat (153 + 8 * i + 2) := ip_oa _ 2
  have n2 := eq_false (ip_nn (153 + 8 * i + 2) (by omega))
  have c2 := ip_nc (153 + 8 * i + 2) (by omega)
  have l2 : (153 + 8 * i + 2 < 821) = True := eq_true (by omega)
  have e3 : Int32.ofNat (153 + 8 * i) + 3 = Int32.ofNat (153 + 8 * i + 3) := ip_oa _ 3
  have n3 := eq_false (ip_nn (153 + 8 * i + 3) (by omega))
  have c3 := ip_nc (153 + 8 * i + 3) (by omega)
  have l3 : (153 + 8 * i + 3 < 821) = True := eq_true (by omega)
  have ea : (8 : Int32) * Int32.ofNat i = Int32.ofNat (8 * i) := ip_om 8 i
  have z4 : (4 : Int32) * 0 = 0 := by decide +kernel
  simp (config := { maxSteps := 10000000, maxDischargeDepth := 30, decide := true }) only [w209_0, w209_3, w209_5, w209_6, w209_7, w209_8, w209_9, w209_10, w209_11, w209_12, w209_13, w209_14, w209_15, w209_18, w209_19, w209_20, w209_21, w209_22, w209_25, w209_26, w209_27, w209_28, w209_29, w209_30, w209_31, w209_34, w209_35, w209_36, w209_37, w209_38, w209_39, w209_40, w209_43, w209_44, w209_45, w209_46, w209_47, w209_48, w209_51, ↓ip_ka0, ↓ip_ki1, ↓ip_ki2, ↓ip_ki3, ip_get_0, ip_get_s, ip_set1, ip_clr_s, ip_cat_i, List.set_cons_zero, List.set_cons_succ, ip_vr_some, Option.toList_some, List.nil_append, List.cons_append, List.length_nil, ↓reduceIte, Nat.reduceEqDiff, Nat.zero_le, and_self, not_false_eq_true, ip_ix_eq, gS_108 hG, gS_109 hG, gR_108_1 hG, hG, hq, s_186, z4, e3, n3, c3, l3, e2, n2, c2, l2, e1, n1, c1, l1, e0, n0, c0, l0, z_w]

set_option maxHeartbeats 40000000 in
set_option maxRecDepth 100000 in
theorem s_209_1 (X : ip_X) (M : ip_H) (K : Option Value → ip_H → Prop) (i : Nat) (hi : i ≤ 60) (hG : ip_G M) (hq : q3 (M.2.1 109 1) = true) : ip_wp X 209 0 [.ref 108, .int (Int32.ofNat i), .int 1, .retAddr 1] [] M K = K (some (.int (z_fl (M.2.1 109 0).toInt (M.2.1 109 1).toInt (M.2.1 109 2).toInt (M.2.1 109 (153 + 8 * i + 4)).toInt (M.2.1 109 (153 + 8 * i + 5)).toInt (M.2.1 109 (153 + 8 * i + 6)).toInt (M.2.1 109 (153 + 8 * i + 7)).toInt))) M := by
  have e0 : (153 + 8 * Int32.ofNat i + 4 : Int32) = Int32.ofNat (153 + 8 * i + 4) := by rw [show (153 : Int32) = Int32.ofNat 153 from rfl, show (8 : Int32) = Int32.ofNat 8 from rfl, show (4 : Int32) = Int32.ofNat 4 from rfl, ip_om, ip_oa, ip_oa] <;> rfl
  have n0 := eq_false (ip_nn (153 + 8 * i + 4) (by omega))
  have c0 := ip_nc (153 + 8 * i + 4) (by omega)
  have l0 : (153 + 8 * i + 4 < 821) = True := eq_true (by omega)
  have e1 : Int32.ofNat (153 + 8 * i + 4) + 1 = Int32.ofNat (153 + 8 * i + 5) := ip_oa _ 1
  have n1 := eq_false (ip_nn (153 + 8 * i + 5) (by omega))
  have c1 := ip_nc (153 + 8 * i + 5) (by omega)
  have l1 : (153 + 8 * i + 5 < 821) = True := eq_true (by omega)
  have e2 : Int32.ofNat (153 + 8 * i + 4) + 2 = Int32.ofNat (153 + 8 * i + 6) := ip_oa _ 2
  have n2 := eq_false (ip_nn (153 + 8 * i + 6) (by omega))
  have c2 := ip_nc (153 + 8 * i + 6) (by omega)
  have l2 : (153 + 8 * i + 6 < 821) = True := eq_true (by omega)
  have e3 : Int32.ofNat (153 + 8 * i + 4) + 3 = Int32.ofNat (153 + 8 * i + 7) := ip_oa _ 3
  have n3 := eq_false (ip_nn (153 + 8 * i + 7) (by omega))
  have c3 := ip_nc (153 + 8 * i + 7) (by omega)
  have l3 : (153 + 8 * i + 7 < 821) = True := eq_true (by omega)
  have ea : (8 : Int32) * Int32.ofNat i = Int32.ofNat (8 * i) := ip_om 8 i
  have z4 : (4 : Int32) * 1 = 4 := by decide +kernel
  simp (config := { maxSteps := 10000000, maxDischargeDepth := 30, decide := true }) only [w209_0, w209_3, w209_5, w209_6, w209_7, w209_8, w209_9, w209_10, w209_11, w209_12, w209_13, w209_14, w209_15, w209_18, w209_19, w209_20, w209_21, w209_22, w209_25, w209_26, w209_27, w209_28, w209_29, w209_30, w209_31, w209_34, w209_35, w209_36, w209_37, w209_38, w209_39, w209_40, w209_43, w209_44, w209_45, w209_46, w209_47, w209_48, w209_51, ↓ip_ka0, ↓ip_ki1, ↓ip_ki2, ↓ip_ki3, ip_get_0, ip_get_s, ip_set1, ip_clr_s, ip_cat_i, List.set_cons_zero, List.set_cons_succ, ip_vr_some, Option.toList_some, List.nil_append, List.cons_append, List.length_nil, ↓reduceIte, Nat.reduceEqDiff, Nat.zero_le, and_self, not_false_eq_true, ip_ix_eq, gS_108 hG, gS_109 hG, gR_108_1 hG, hG, hq, s_186, z4, e3, n3, c3, l3, e2, n2, c2, l2, e1, n1, c1, l1, e0, n0, c0, l0, z_w]

set_option maxHeartbeats 40000000 in
set_option maxRecDepth 100000 in
theorem s_169 (X : ip_X) (M : ip_H) (K : Option Value → ip_H → Prop) (p q r : Int32) (hG : ip_G M) : ip_wp X 169 0 [.ref 108, .int p, .int q, .int r, .retAddr 1, .retAddr 1] [] M K = K none (c_cl M p q r) := by
  have key : ∀ M1, M1 = c_cl M p q r → K none M1 = K none (c_cl M p q r) := fun M1 h => by rw [h]
  simp (config := { maxSteps := 10000000, maxDischargeDepth := 30, decide := true }) only [w169_0, w169_1, w169_4, w169_5, w169_6, w169_7, w169_8, w169_11, w169_12, w169_13, w169_14, w169_15, w169_18, w169_19, w169_20, w169_21, w169_22, w169_25, w169_26, w169_27, w169_28, w169_29, w169_32, w169_33, w169_34, w169_35, w169_36, w169_39, w169_41, w169_42, w169_43, w169_44, w169_47, w169_49, w169_50, w169_51, w169_52, w169_54, w169_56, w169_58, w169_61, w169_62, w169_64, w169_66, w169_67, w169_70, w169_71, w169_74, w169_76, w169_77, w169_79, w169_80, w169_81, w169_83, w169_84, w169_86, w169_87, w169_90, w169_91, w169_94, w169_95, w169_96, w169_99, w169_102, w169_105, w169_108, ↓ip_ka0, ↓ip_ki1, ↓ip_ki2, ↓ip_ki3, ↓ip_ki4, ↓ip_ki5, ip_get_0, ip_get_s, ip_set1, ip_clr_s, ip_cat_i, List.set_cons_zero, List.set_cons_succ, ip_uI_R, ip_uI_sh, ip_vr_some, ↓reduceIte, Nat.reduceEqDiff, Int32.reduceAdd, Int32.reduceMul, Int32.reduceToNatClampNeg, ip_ix_eq, gS_108 hG, gS_109 hG, gR_108_1 hG]
  apply key
  unfold c_cl
  rw [ip_uI_as M 109]
  simp only [ip_uI_sI]
  congr 1
  funext j
  unfold c_clf
  match j with
  | 0 => rfl
  | 1 => rfl
  | 2 => rfl
  | 3 => rfl
  | 4 => rfl
  | 5 => rfl
  | 6 => rfl
  | 7 => rfl
  | 8 => rfl
  | 9 => rfl
  | 10 => rfl
  | 11 => rfl
  | 12 => rfl
  | 13 => rfl
  | 14 => rfl
  | 15 => rfl
  | 16 => rfl
  | 17 => rfl
  | 18 => rfl
  | 19 => rfl
  | 20 => rfl
  | 21 => rfl
  | 22 => rfl
  | 23 => rfl
  | 24 => rfl
  | 25 => rfl
  | 26 => rfl
  | 27 => rfl
  | 28 => rfl
  | 29 => rfl
  | 30 => rfl
  | 31 => rfl
  | 32 => rfl
  | n + 33 =>
    have h : ¬ (9 ≤ n + 33 ∧ n + 33 < 33) := by omega
    simp only [h, Nat.reduceEqDiff, reduceIte]

set_option maxHeartbeats 40000000 in
set_option maxRecDepth 100000 in
theorem s_170u (X : ip_X) (M : ip_H) (K : Option Value → ip_H → Prop) (what : Int32) (hG : ip_G M) (hm : m8 (M.2.1 108 12) = true) : ip_wp X 170 0 [.ref 108, .int what, .retAddr 1] [] M K = K none (c_ks M what) := by
  unfold m8 at hm
  rw [Bool.and_eq_true, decide_eq_true_eq, decide_eq_true_eq] at hm
  have hx := ip_nat _ hm.1
  have e : (M.2.1 108 12).toNatClampNeg = (M.2.1 108 12).toInt.toNat := rfl
  unfold c_ks
  by_cases h8 : M.2.1 108 12 = 8
  · rw [if_pos h8]
    exact s_170x X M K what h8 hG
  · rw [if_neg h8]
    refine s_170 X M K what _ ?_ hx hG
    have : (M.2.1 108 12).toInt ≠ 8 := fun q => h8 (Int32.toInt_inj.mp q)
    omega

set_option maxHeartbeats 40000000 in
set_option maxRecDepth 100000 in
theorem s_198 (X : ip_X) (M : ip_H) (K : Option Value → ip_H → Prop) (i : Nat) (hi : i < 6) (hG : ip_G M) (hq : q3 (M.2.1 109 1) = true) : ip_wp X 198 0 [.ref 108, .int (Int32.ofNat i)] [] M K = K (some (.int (z_fl (M.2.1 109 0).toInt (M.2.1 109 1).toInt (M.2.1 109 2).toInt (M.2.2.1 108 13).toInt (M.2.2.1 108 14).toInt (M.2.2.1 108 15).toInt (M.2.2.1 108 16).toInt))) (c_ly M i (M.2.2.1 108 13).toInt32 (M.2.2.1 108 14).toInt32 (M.2.2.1 108 15).toInt32 (M.2.2.1 108 16).toInt32) := by
  have hi' : i = 0 ∨ i = 1 ∨ i = 2 ∨ i = 3 ∨ i = 4 ∨ i = 5 := by omega
  have key : ∀ (N : ip_H) (a b c d : Int64), ip_G N → q3 (N.2.1 109 1) = true → ∀ K, ip_wp X 186 0 [.ref 108, .long a, .retAddr 1, .long b, .retAddr 1, .long c, .retAddr 1, .long d, .retAddr 1, .retAddr 1, .retAddr 1, .retAddr 1] [] N K = K (some (.int (z_fl (N.2.1 109 0).toInt (N.2.1 109 1).toInt (N.2.1 109 2).toInt a.toInt b.toInt c.toInt d.toInt))) N := by
    intro N a b c d hG hq K
    have h := s_186 X N K a.toInt b.toInt c.toInt d.toInt hG hq
    simp only [Int64.ofInt_toInt] at h
    exact h
  unfold c_ly
  rcases hi' with rfl | rfl | rfl | rfl | rfl | rfl
  all_goals (simp (config := { maxSteps := 10000000, maxDischargeDepth := 30, decide := true }) only [w198_0, w198_1, w198_4, w198_6, w198_7, w198_8, w198_9, w198_10, w198_11, w198_14, w198_15, w198_16, w198_17, w198_20, w198_22, w198_23, w198_24, w198_25, w198_26, w198_27, w198_28, w198_29, w198_32, w198_33, w198_34, w198_35, w198_38, w198_40, w198_41, w198_42, w198_43, w198_44, w198_45, w198_46, w198_47, w198_50, w198_51, w198_52, w198_53, w198_56, w198_58, w198_59, w198_60, w198_61, w198_62, w198_63, w198_64, w198_65, w198_68, w198_69, w198_70, w198_71, w198_72, w198_73, w198_76, w198_77, w198_80, w198_81, w198_84, w198_85, w198_88, w198_91, w198_94, w168_0, w168_1, w168_2, w168_5, w168_6, ↓ip_ka0, ↓ip_ki1, ip_uI_I, ip_uI_L, ip_uI_R, ip_uI_sh, ip_vr_some, Option.toList_some, List.nil_append, List.cons_append, List.length_nil, List.length_cons, ↓reduceIte, Nat.reduceAdd, Nat.reduceLeDiff, Nat.zero_add, Nat.zero_le, gG_uI, Int32.reduceAdd, Int32.reduceMul, Int32.reduceToNatClampNeg, ip_ix_eq, Int32.reduceOfNat, gS_108 hG, gS_109 hG, gR_108_1 hG, hG, hq, key, Nat.reduceMul])

end
noncomputable section
-- PART 65.ops1
-- THE REFERENCE: field, set, combine
theorem c_cl_1 (M : ip_H) (p q r : Int32) : (c_cl M p q r).1 = M.1 := rfl
theorem c_cl_sh (M : ip_H) (p q r : Int32) (k : Nat) : ip_sh (c_cl M p q r) k = ip_sh M k := rfl
theorem gG_cl (M : ip_H) (p q r : Int32) (h : ip_G M) : ip_G (c_cl M p q r) := h
def ip_D32 (p q r : Int32) : Int32 := p * p * q * q + 4 * q * q * q - 4 * p * p * p * r - 27 * r * r - 18 * p * q * r
def ip_kq (m : Int32) : Nat → Int32 → Bool
  | 0, k => decide (m < k)
  | n + 1, k => decide (¬ m < k) && ip_kq m n (k + 1)
theorem ip_kq11 : ip_kq 5 11 (-5) = true := by decide +kernel
def ip_mf (p q r : Int32) : Nat → Int32 → Int32 → Int32
  | 0, _, s => s
  | n + 1, x, s => if s = 0 then ip_mf p q r n (x + 1) 0 else if x * x * x = p * x * x + q * x + r then ip_mf p q r n (x + 1) 0 else ip_mf p q r n (x + 1) 1
def ip_mF (p q r : Int32) : Int32 := ip_mf p q r 11 (-5) (if ip_D32 p q r < 0 then 1 else 0)
def ip_7 : List Int32 := [-3, -2, -1, 0, 1, 2, 3]
theorem ip_7m (x : Int32) (h : i_in x (-3) 3 = true) : x ∈ ip_7 := by
  rw [i_in_z] at h
  simp only [Int32.reduceToInt] at h
  have h : x.toInt = -3 ∨ x.toInt = -2 ∨ x.toInt = -1 ∨ x.toInt = 0 ∨ x.toInt = 1 ∨ x.toInt = 2 ∨ x.toInt = 3 := by omega
  have e : ∀ c : Int32, x.toInt = c.toInt → x = c := fun c q => Int32.toInt_inj.mp q
  rcases h with h | h | h | h | h | h | h
  · rw [e (-3) (h.trans (by decide))]; decide
  · rw [e (-2) (h.trans (by decide))]; decide
  · rw [e (-1) (h.trans (by decide))]; decide
  · rw [e 0 (h.trans (by decide))]; decide
  · rw [e 1 (h.trans (by decide))]; decide
  · rw [e 2 (h.trans (by decide))]; decide
  · rw [e 3 (h.trans (by decide))]; decide
set_option maxRecDepth 1000000 in
theorem ip_ff : ∀ p ∈ ip_7, ∀ q ∈ ip_7, ∀ r ∈ ip_7, ip_mF p q r = ip_b (zF p.toInt q.toInt r.toInt) ∧ (ip_D32 p q r).toInt = zD p.toInt q.toInt r.toInt := by decide +kernel
/-- a value by its place in a row -/
def c_vo (f : Nat → Int32) (s : Nat) : Prop := zb 150 (f s).toInt ∧ zb 150 (f (s + 1)).toInt ∧ zb 150 (f (s + 2)).toInt ∧ (1 ≤ (f (s + 3)).toInt ∧ (f (s + 3)).toInt ≤ 150)
/-- what stands before lowest terms: i and j together, less, times, by -/
def zJ (how : Nat) (p q r a b c d f g h e : Int) : Int × Int × Int × Int := match how with
  | 0 => (a * e + 1 * f * d, b * e + 1 * g * d, c * e + 1 * h * d, d * e)
  | 1 => (a * e + -1 * f * d, b * e + -1 * g * d, c * e + -1 * h * d, d * e)
  | 2 => (zA p q r a b c f g h, zB p q r a b c f g h, zC p q r a b c f g h, d * e)
  | _ => zQ p q r a b c d f g h e
/-- lowest terms -/
def zl (z : Int × Int × Int × Int) : Int × Int × Int × Int := (z.1.tdiv (zg z.1 z.2.1 z.2.2.1 z.2.2.2), z.2.1.tdiv (zg z.1 z.2.1 z.2.2.1 z.2.2.2), z.2.2.1.tdiv (zg z.1 z.2.1 z.2.2.1 z.2.2.2), z.2.2.2.tdiv (zg z.1 z.2.1 z.2.2.1 z.2.2.2))
def c_x4 (M : ip_H) (z : Int × Int × Int × Int) : ip_H := ip_x4 M z.1 z.2.1 z.2.2.1 z.2.2.2
theorem z_m1 : (-1 : Int64) = Int64.ofInt (-1) := rfl

set_option maxHeartbeats 40000000 in
set_option maxRecDepth 100000 in
theorem s_199 (X : ip_X) (M : ip_H) (K : Option Value → ip_H → Prop) (p q r : Int32) : ip_wp X 199 0 [.int p, .int q, .int r] [] M K = K (some (.int (ip_D32 p q r))) M := by
  unfold ip_D32
  simp (config := { maxSteps := 10000000, maxDischargeDepth := 30, decide := true }) only [w199_0, w199_1, w199_2, w199_3, w199_4, w199_5, w199_6, w199_7, w199_8, w199_9, w199_10, w199_11, w199_12, w199_13, w199_14, w199_15, w199_16, w199_17, w199_18, w199_19, w199_20, w199_21, w199_22, w199_23, w199_24, w199_25, w199_27, w199_28, w199_29, w199_30, w199_31, w199_32, w199_34, w199_35, w199_36, w199_37, w199_38, w199_39, w199_40, w199_41, ↓ip_ki0, ↓ip_ki1, ↓ip_ki2]

set_option maxHeartbeats 40000000 in
set_option maxRecDepth 100000 in
theorem s_200l (X : ip_X) (M : ip_H) (K : Option Value → ip_H → Prop) (p q r : Int32) : ∀ (n : Nat) (x s : Int32), (s = 0 ∨ s = 1) → ip_kq 5 n x = true → ip_wp X 200 19 [.int p, .int q, .int r, .int s, .int x] [] M K = K (some (.int (ip_mf p q r n x s))) M := by
  intro n
  induction n with
  | zero =>
    intro x s hs hk
    have hk' : 5 < x := by simpa only [ip_kq, decide_eq_true_eq] using hk
    rw [ip_mf]
    simp (config := { maxSteps := 10000000, maxDischargeDepth := 30, decide := true }) only [w200_0, w200_1, w200_2, w200_3, w200_6, w200_9, w200_10, w200_13, w200_14, w200_15, w200_17, w200_19, w200_21, w200_22, w200_25, w200_26, w200_29, w200_31, w200_33, w200_34, w200_36, w200_37, w200_38, w200_40, w200_41, w200_43, w200_44, w200_45, w200_47, w200_48, w200_49, w200_50, w200_51, w200_54, w200_55, w200_58, w200_59, w200_60, w200_66, w200_67, ↓ip_ki3, ↓ip_ki4, ↓reduceIte, hk', hs]
  | succ n ih =>
    intro x s hs hk
    simp only [ip_kq, Bool.and_eq_true, decide_eq_true_eq] at hk
    obtain ⟨hk1, hk2⟩ := hk
    rw [ip_mf]
    by_cases hs0 : s = 0
    · rw [if_pos hs0]
      simp (config := { maxSteps := 10000000, maxDischargeDepth := 30, decide := true }) only [w200_0, w200_1, w200_2, w200_3, w200_6, w200_9, w200_10, w200_13, w200_14, w200_15, w200_17, w200_19, w200_21, w200_22, w200_25, w200_26, w200_29, w200_31, w200_33, w200_34, w200_36, w200_37, w200_38, w200_40, w200_41, w200_43, w200_44, w200_45, w200_47, w200_48, w200_49, w200_50, w200_51, w200_54, w200_55, w200_58, w200_59, w200_60, w200_66, w200_67, ↓ip_ki3, ↓ip_ki4, ip_get_0, ip_get_s, ip_set1, ip_clr_s, ip_cat_i, List.set_cons_zero, List.set_cons_succ, ↓reduceIte, Nat.reduceEqDiff, hk1, hs0]
      rw [w200_63]
      exact ih _ _ (by decide) hk2
    · rw [if_neg hs0]
      by_cases h0 : x * x * x = p * x * x + q * x + r
      · rw [if_pos h0]
        simp (config := { maxSteps := 10000000, maxDischargeDepth := 30, decide := true }) only [w200_0, w200_1, w200_2, w200_3, w200_6, w200_9, w200_10, w200_13, w200_14, w200_15, w200_17, w200_19, w200_21, w200_22, w200_25, w200_26, w200_29, w200_31, w200_33, w200_34, w200_36, w200_37, w200_38, w200_40, w200_41, w200_43, w200_44, w200_45, w200_47, w200_48, w200_49, w200_50, w200_51, w200_54, w200_55, w200_58, w200_59, w200_60, w200_66, w200_67, ↓ip_ki0, ↓ip_ki1, ↓ip_ki2, ↓ip_ki3, ↓ip_ki4, ip_get_0, ip_get_s, ip_set1, ip_clr_s, ip_cat_i, List.set_cons_zero, List.set_cons_succ, ↓reduceIte, Nat.reduceEqDiff, hk1, hs0, h0]
        rw [w200_63]
        exact ih _ _ (by decide) hk2
      · rw [if_neg h0]
        simp (config := { maxSteps := 10000000, maxDischargeDepth := 30, decide := true }) only [w200_0, w200_1, w200_2, w200_3, w200_6, w200_9, w200_10, w200_13, w200_14, w200_15, w200_17, w200_19, w200_21, w200_22, w200_25, w200_26, w200_29, w200_31, w200_33, w200_34, w200_36, w200_37, w200_38, w200_40, w200_41, w200_43, w200_44, w200_45, w200_47, w200_48, w200_49, w200_50, w200_51, w200_54, w200_55, w200_58, w200_59, w200_60, w200_66, w200_67, ↓ip_ki0, ↓ip_ki1, ↓ip_ki2, ↓ip_ki3, ↓ip_ki4, ip_get_0, ip_get_s, ip_set1, ip_clr_s, ip_cat_i, List.set_cons_zero, List.set_cons_succ, ↓reduceIte, Nat.reduceEqDiff, hk1, hs0, h0]
        rw [w200_63]
        exact ih _ _ (by decide) hk2

set_option maxHeartbeats 40000000 in
set_option maxRecDepth 100000 in
theorem s_200 (X : ip_X) (M : ip_H) (K : Option Value → ip_H → Prop) (p q r : Int32) : ip_wp X 200 0 [.int p, .int q, .int r, .retAddr 1, .retAddr 1] [] M K = K (some (.int (ip_mF p q r))) M := by
  unfold ip_mF
  by_cases hD : ip_D32 p q r < 0
  · rw [if_pos hD]
    simp (config := { maxSteps := 10000000, maxDischargeDepth := 30, decide := true }) only [w200_0, w200_1, w200_2, w200_3, w200_6, w200_9, w200_10, w200_13, w200_14, w200_15, w200_17, ↓ip_ki0, ↓ip_ki1, ↓ip_ki2, ip_get_0, ip_get_s, ip_set1, ip_clr_s, ip_cat_i, List.set_cons_zero, List.set_cons_succ, Option.toList_some, List.nil_append, List.cons_append, List.length_nil, ↓reduceIte, Nat.reduceEqDiff, Nat.zero_le, s_199, hD]
    exact s_200l X M K p q r 11 _ _ (by decide) ip_kq11
  · rw [if_neg hD]
    simp (config := { maxSteps := 10000000, maxDischargeDepth := 30, decide := true }) only [w200_0, w200_1, w200_2, w200_3, w200_6, w200_9, w200_10, w200_13, w200_14, w200_15, w200_17, ↓ip_ki0, ↓ip_ki1, ↓ip_ki2, ip_get_0, ip_get_s, ip_set1, ip_clr_s, ip_cat_i, List.set_cons_zero, List.set_cons_succ, Option.toList_some, List.nil_append, List.cons_append, List.length_nil, ↓reduceIte, Nat.reduceEqDiff, Nat.zero_le, s_199, hD]
    exact s_200l X M K p q r 11 _ _ (by decide) ip_kq11

set_option maxHeartbeats 40000000 in
set_option maxRecDepth 100000 in
theorem o_201 (X : ip_X) (M : ip_H) (K : Option Value → ip_H → Prop) (p q r : Int32) (hG : ip_G M) (hq : q3 (M.2.1 109 1) = true) (hm : m8 (M.2.1 108 12) = true) (ht : M.2.1 108 0 = 0) (h1 : (i_in p (-3) 3 && (i_in q (-3) 3 && i_in r (-3) 3)) = false → K (some (.int (-1))) (c_no M 1 (-1)))
    (h2 : i_in p (-3) 3 = true → i_in q (-3) 3 = true → i_in r (-3) 3 = true → zF p.toInt q.toInt r.toInt = false → K (some (.int (-4))) (c_no M 4 (-4)))
    (h3 : i_in p (-3) 3 = true → i_in q (-3) 3 = true → i_in r (-3) 3 = true → zF p.toInt q.toInt r.toInt = true → K (some (.int (ip_D32 p q r))) (c_ye (c_cl (c_ks M 0) p q r))) : ip_wp X 201 0 [.ref 108, .int p, .int q, .int r] [] M K := by
  have et : ip_uI M 108 0 0 = M := ip_uI_id ht
  cases e1 : i_in p (-3) 3
  · have h1 := h1 (by rw [e1]; rfl)
    simp (config := { maxSteps := 10000000, maxDischargeDepth := 30, decide := true }) only [w201_0, w201_1, w201_2, w201_5, w201_6, w201_8, w201_9, w201_12, w201_15, w201_16, w201_18, w201_19, w201_22, w201_25, w201_26, w201_28, w201_29, w201_32, w201_35, w201_36, w201_37, w201_40, w201_41, w201_42, w201_43, w201_44, w201_47, w201_50, w201_51, w201_53, w201_56, w201_57, w201_58, w201_59, w201_62, w201_63, w201_64, w201_65, w201_66, w201_69, w201_70, w201_71, w201_72, w201_73, w201_76, w201_79, ↓ip_ka0, ↓ip_ki1, Option.toList_some, List.nil_append, List.cons_append, List.length_nil, ↓reduceIte, Nat.zero_le, ip_b_f, gS_108 hG, hG, et, s_166, s_167_1, s_169, s_199, s_200, gG_cl, c_cl_1, c_cl_sh, e1]
    exact h1
  cases e2 : i_in q (-3) 3
  · have h1 := h1 (by rw [e1, e2]; rfl)
    simp (config := { maxSteps := 10000000, maxDischargeDepth := 30, decide := true }) only [w201_0, w201_1, w201_2, w201_5, w201_6, w201_8, w201_9, w201_12, w201_15, w201_16, w201_18, w201_19, w201_22, w201_25, w201_26, w201_28, w201_29, w201_32, w201_35, w201_36, w201_37, w201_40, w201_41, w201_42, w201_43, w201_44, w201_47, w201_50, w201_51, w201_53, w201_56, w201_57, w201_58, w201_59, w201_62, w201_63, w201_64, w201_65, w201_66, w201_69, w201_70, w201_71, w201_72, w201_73, w201_76, w201_79, ↓ip_ka0, ↓ip_ki1, ↓ip_ki2, Option.toList_some, List.nil_append, List.cons_append, List.length_nil, ↓reduceIte, Nat.zero_le, ip_b_t, ip_b_f, gS_108 hG, hG, et, s_166, s_167_1, s_169, s_199, s_200, gG_cl, c_cl_1, c_cl_sh, e1, e2]
    exact h1
  cases e3 : i_in r (-3) 3
  · have h1 := h1 (by rw [e1, e2, e3]; rfl)
    simp (config := { maxSteps := 10000000, maxDischargeDepth := 30, decide := true }) only [w201_0, w201_1, w201_2, w201_5, w201_6, w201_8, w201_9, w201_12, w201_15, w201_16, w201_18, w201_19, w201_22, w201_25, w201_26, w201_28, w201_29, w201_32, w201_35, w201_36, w201_37, w201_40, w201_41, w201_42, w201_43, w201_44, w201_47, w201_50, w201_51, w201_53, w201_56, w201_57, w201_58, w201_59, w201_62, w201_63, w201_64, w201_65, w201_66, w201_69, w201_70, w201_71, w201_72, w201_73, w201_76, w201_79, ↓ip_ka0, ↓ip_ki1, ↓ip_ki2, ↓ip_ki3, Option.toList_some, List.nil_append, List.cons_append, List.length_nil, ↓reduceIte, Nat.zero_le, ip_b_t, ip_b_f, gS_108 hG, hG, et, s_166, s_167_1, s_169, s_199, s_200, gG_cl, c_cl_1, c_cl_sh, e1, e2, e3]
    exact h1
  obtain ⟨ef, -⟩ := ip_ff p (ip_7m p e1) q (ip_7m q e2) r (ip_7m r e3)
  cases e4 : zF p.toInt q.toInt r.toInt
  · have h2 := h2 e1 e2 e3 e4
    rw [e4] at ef
    simp (config := { maxSteps := 10000000, maxDischargeDepth := 30, decide := true }) only [w201_0, w201_1, w201_2, w201_5, w201_6, w201_8, w201_9, w201_12, w201_15, w201_16, w201_18, w201_19, w201_22, w201_25, w201_26, w201_28, w201_29, w201_32, w201_35, w201_36, w201_37, w201_40, w201_41, w201_42, w201_43, w201_44, w201_47, w201_50, w201_51, w201_53, w201_56, w201_57, w201_58, w201_59, w201_62, w201_63, w201_64, w201_65, w201_66, w201_69, w201_70, w201_71, w201_72, w201_73, w201_76, w201_79, ↓ip_ka0, ↓ip_ki1, ↓ip_ki2, ↓ip_ki3, Option.toList_some, List.nil_append, List.cons_append, List.length_nil, ↓reduceIte, Nat.zero_le, ip_b_t, ip_b_f, gS_108 hG, hG, et, s_166, s_167_4, s_169, s_199, s_200, gG_cl, c_cl_1, c_cl_sh, e1, e2, e3, ef]
    exact h2
  · have h3 := h3 e1 e2 e3 e4
    rw [e4] at ef
    simp (config := { maxSteps := 10000000, maxDischargeDepth := 30, decide := true }) only [w201_0, w201_1, w201_2, w201_5, w201_6, w201_8, w201_9, w201_12, w201_15, w201_16, w201_18, w201_19, w201_22, w201_25, w201_26, w201_28, w201_29, w201_32, w201_35, w201_36, w201_37, w201_40, w201_41, w201_42, w201_43, w201_44, w201_47, w201_50, w201_51, w201_53, w201_56, w201_57, w201_58, w201_59, w201_62, w201_63, w201_64, w201_65, w201_66, w201_69, w201_70, w201_71, w201_72, w201_73, w201_76, w201_79, ↓ip_ka0, ↓ip_ki1, ↓ip_ki2, ↓ip_ki3, Option.toList_some, Option.toList_none, List.nil_append, List.cons_append, List.length_nil, List.length_cons, ↓reduceIte, Nat.reduceLeDiff, Nat.zero_add, Nat.zero_le, ip_b_t, gS_108 hG, hG, hm, et, s_166, s_168, s_170u, s_169, s_199, s_200, gG_cl, c_cl_1, c_cl_sh, e1, e2, e3, ef, c_ks_sh, gG_ks]
    exact h3
end
noncomputable section
-- PART 66.ops2
-- THE REFERENCE: combine, begin
theorem zl_d {z : Int × Int × Int × Int} (h : z.2.2.2 ≠ 0) : 1 ≤ (zl z).2.2.2 := zg_d h

set_option maxHeartbeats 40000000 in
set_option maxRecDepth 100000 in
theorem s_205_0 (X : ip_X) (M : ip_H) (K : Option Value → ip_H → Prop) (i j : Nat) (hi : i < 6) (hj : j < 6) (hG : ip_G M) (hF : zF (M.2.1 109 0).toInt (M.2.1 109 1).toInt (M.2.1 109 2).toInt = true) (vi : c_vo (M.2.1 109) (9 + 4 * i)) (vj : c_vo (M.2.1 109) (9 + 4 * j)) : ip_wp X 205 0 [.ref 108, .int 0, .int (Int32.ofNat i), .int (Int32.ofNat j), .retAddr 1, .retAddr 1, .retAddr 1, .retAddr 1, .retAddr 1, .retAddr 1, .retAddr 1, .retAddr 1, .retAddr 1, .retAddr 1, .retAddr 1, .retAddr 1, .retAddr 1, .retAddr 1, .retAddr 1, .retAddr 1, .retAddr 1] [] M K = K none (c_x4 M (zl (zJ 0 (M.2.1 109 0).toInt (M.2.1 109 1).toInt (M.2.1 109 2).toInt (M.2.1 109 (9 + 4 * i)).toInt (M.2.1 109 (9 + 4 * i + 1)).toInt (M.2.1 109 (9 + 4 * i + 2)).toInt (M.2.1 109 (9 + 4 * i + 3)).toInt (M.2.1 109 (9 + 4 * j)).toInt (M.2.1 109 (9 + 4 * j + 1)).toInt (M.2.1 109 (9 + 4 * j + 2)).toInt (M.2.1 109 (9 + 4 * j + 3)).toInt))) := by
  obtain ⟨a1, a2, a3, a4⟩ := vi
  obtain ⟨b1, b2, b3, b4⟩ := vj
  obtain ⟨hp, hq, hr⟩ := zF_b hF
  have d1 : zb 150 (M.2.1 109 (9 + 4 * i + 3)).toInt := ⟨by omega, a4.2⟩
  have d2 : zb 150 (M.2.1 109 (9 + 4 * j + 3)).toInt := ⟨by omega, b4.2⟩
  have hde : (M.2.1 109 (9 + 4 * i + 3)).toInt * (M.2.1 109 (9 + 4 * j + 3)).toInt ≠ 0 := by
    intro w
    rcases Int.mul_eq_zero.mp w with w | w <;> omega
  have bde : zb 22500 ((M.2.1 109 (9 + 4 * i + 3)).toInt * (M.2.1 109 (9 + 4 * j + 3)).toInt) := zb_m d1 d2 (by decide)
  have x0 : zb 90000000000 ((M.2.1 109 (9 + 4 * i)).toInt * (M.2.1 109 (9 + 4 * j + 3)).toInt + 1 * (M.2.1 109 (9 + 4 * j)).toInt * (M.2.1 109 (9 + 4 * i + 3)).toInt) := zb_a (zb_m (a1) d2 (Int.le_refl _)) (zb_m (zb_m (zb_c 1 (1) (by decide) (by decide)) (b1) (Int.le_refl _)) d1 (Int.le_refl _)) (by decide)
  have x1 : zb 90000000000 ((M.2.1 109 (9 + 4 * i + 1)).toInt * (M.2.1 109 (9 + 4 * j + 3)).toInt + 1 * (M.2.1 109 (9 + 4 * j + 1)).toInt * (M.2.1 109 (9 + 4 * i + 3)).toInt) := zb_a (zb_m (a2) d2 (Int.le_refl _)) (zb_m (zb_m (zb_c 1 (1) (by decide) (by decide)) (b2) (Int.le_refl _)) d1 (Int.le_refl _)) (by decide)
  have x2 : zb 90000000000 ((M.2.1 109 (9 + 4 * i + 2)).toInt * (M.2.1 109 (9 + 4 * j + 3)).toInt + 1 * (M.2.1 109 (9 + 4 * j + 2)).toInt * (M.2.1 109 (9 + 4 * i + 3)).toInt) := zb_a (zb_m (a3) d2 (Int.le_refl _)) (zb_m (zb_m (zb_c 1 (1) (by decide) (by decide)) (b3) (Int.le_refl _)) d1 (Int.le_refl _)) (by decide)
  simp (config := { maxSteps := 10000000, maxDischargeDepth := 30, decide := true }) only [w205_0, w205_1, w205_2, w205_3, w205_6, w205_7, w205_9, w205_10, w205_11, w205_12, w205_15, w205_16, w205_18, w205_19, w205_20, w205_21, w205_24, w205_25, w205_27, w205_28, w205_29, w205_30, w205_33, w205_34, w205_36, w205_37, w205_38, w205_39, w205_42, w205_43, w205_45, w205_46, w205_47, w205_48, w205_51, w205_52, w205_54, w205_55, w205_56, w205_57, w205_60, w205_61, w205_63, w205_64, w205_65, w205_66, w205_69, w205_70, w205_72, w205_73, w205_74, w205_77, w205_78, w205_81, w205_82, w205_84, w205_85, w205_86, w205_89, w205_90, w205_92, w205_94, w205_95, w205_97, w205_98, w205_100, w205_101, w205_103, w205_104, w205_105, w205_107, w205_109, w205_110, w205_112, w205_113, w205_115, w205_116, w205_118, w205_119, w205_120, w205_122, w205_124, w205_125, w205_127, w205_128, w205_130, w205_131, w205_133, w205_134, w205_135, w205_137, w205_139, w205_140, w205_143, w205_146, w205_147, w205_148, w205_151, w205_152, w205_154, w205_156, w205_158, w205_160, w205_162, w205_164, w205_166, w205_168, w205_169, w205_172, w205_175, w205_176, w205_178, w205_180, w205_182, w205_184, w205_186, w205_188, w205_190, w205_192, w205_195, ↓ip_ka0, ↓ip_ki1, ↓ip_ki2, ↓ip_ki3, ↓ip_kl4, ↓ip_kl6, ↓ip_kl8, ↓ip_kl10, ↓ip_kl12, ↓ip_kl14, ↓ip_kl16, ↓ip_kl18, ↓ip_ki20, ip_get_0, ip_get_s, ip_set1, ip_set2, ip_clr_s, ip_cat_i, ip_cat_a, List.set_cons_zero, List.set_cons_succ, Option.toList_some, List.nil_append, List.cons_append, List.length_nil, ↓reduceIte, Nat.reduceAdd, Nat.reduceEqDiff, Nat.zero_le, Int32.reduceToInt, gS_108 hG, hG, hi, hj, z_m1, s_197_0, s_197_1, s_197_2, s_197_3, z_w, ← Int64.ofInt_mul, ← Int64.ofInt_add]
  refine (s_188 X M _ _ _ _ _ hG (zb_w x0 (by decide)) (zb_w x1 (by decide)) (zb_w x2 (by decide)) (zb_w bde (by decide)) hde).trans ?_
  simp (config := { maxSteps := 10000000, maxDischargeDepth := 30, decide := true }) only [w205_143, w205_195, Option.toList_none, List.nil_append]
  rfl

set_option maxHeartbeats 40000000 in
set_option maxRecDepth 100000 in
theorem s_205_1 (X : ip_X) (M : ip_H) (K : Option Value → ip_H → Prop) (i j : Nat) (hi : i < 6) (hj : j < 6) (hG : ip_G M) (hF : zF (M.2.1 109 0).toInt (M.2.1 109 1).toInt (M.2.1 109 2).toInt = true) (vi : c_vo (M.2.1 109) (9 + 4 * i)) (vj : c_vo (M.2.1 109) (9 + 4 * j)) : ip_wp X 205 0 [.ref 108, .int 1, .int (Int32.ofNat i), .int (Int32.ofNat j), .retAddr 1, .retAddr 1, .retAddr 1, .retAddr 1, .retAddr 1, .retAddr 1, .retAddr 1, .retAddr 1, .retAddr 1, .retAddr 1, .retAddr 1, .retAddr 1, .retAddr 1, .retAddr 1, .retAddr 1, .retAddr 1, .retAddr 1] [] M K = K none (c_x4 M (zl (zJ 1 (M.2.1 109 0).toInt (M.2.1 109 1).toInt (M.2.1 109 2).toInt (M.2.1 109 (9 + 4 * i)).toInt (M.2.1 109 (9 + 4 * i + 1)).toInt (M.2.1 109 (9 + 4 * i + 2)).toInt (M.2.1 109 (9 + 4 * i + 3)).toInt (M.2.1 109 (9 + 4 * j)).toInt (M.2.1 109 (9 + 4 * j + 1)).toInt (M.2.1 109 (9 + 4 * j + 2)).toInt (M.2.1 109 (9 + 4 * j + 3)).toInt))) := by
  obtain ⟨a1, a2, a3, a4⟩ := vi
  obtain ⟨b1, b2, b3, b4⟩ := vj
  obtain ⟨hp, hq, hr⟩ := zF_b hF
  have d1 : zb 150 (M.2.1 109 (9 + 4 * i + 3)).toInt := ⟨by omega, a4.2⟩
  have d2 : zb 150 (M.2.1 109 (9 + 4 * j + 3)).toInt := ⟨by omega, b4.2⟩
  have hde : (M.2.1 109 (9 + 4 * i + 3)).toInt * (M.2.1 109 (9 + 4 * j + 3)).toInt ≠ 0 := by
    intro w
    rcases Int.mul_eq_zero.mp w with w | w <;> omega
  have bde : zb 22500 ((M.2.1 109 (9 + 4 * i + 3)).toInt * (M.2.1 109 (9 + 4 * j + 3)).toInt) := zb_m d1 d2 (by decide)
  have x0 : zb 90000000000 ((M.2.1 109 (9 + 4 * i)).toInt * (M.2.1 109 (9 + 4 * j + 3)).toInt + -1 * (M.2.1 109 (9 + 4 * j)).toInt * (M.2.1 109 (9 + 4 * i + 3)).toInt) := zb_a (zb_m (a1) d2 (Int.le_refl _)) (zb_m (zb_m (zb_c 1 (-1) (by decide) (by decide)) (b1) (Int.le_refl _)) d1 (Int.le_refl _)) (by decide)
  have x1 : zb 90000000000 ((M.2.1 109 (9 + 4 * i + 1)).toInt * (M.2.1 109 (9 + 4 * j + 3)).toInt + -1 * (M.2.1 109 (9 + 4 * j + 1)).toInt * (M.2.1 109 (9 + 4 * i + 3)).toInt) := zb_a (zb_m (a2) d2 (Int.le_refl _)) (zb_m (zb_m (zb_c 1 (-1) (by decide) (by decide)) (b2) (Int.le_refl _)) d1 (Int.le_refl _)) (by decide)
  have x2 : zb 90000000000 ((M.2.1 109 (9 + 4 * i + 2)).toInt * (M.2.1 109 (9 + 4 * j + 3)).toInt + -1 * (M.2.1 109 (9 + 4 * j + 2)).toInt * (M.2.1 109 (9 + 4 * i + 3)).toInt) := zb_a (zb_m (a3) d2 (Int.le_refl _)) (zb_m (zb_m (zb_c 1 (-1) (by decide) (by decide)) (b3) (Int.le_refl _)) d1 (Int.le_refl _)) (by decide)
  simp (config := { maxSteps := 10000000, maxDischargeDepth := 30, decide := true }) only [w205_0, w205_1, w205_2, w205_3, w205_6, w205_7, w205_9, w205_10, w205_11, w205_12, w205_15, w205_16, w205_18, w205_19, w205_20, w205_21, w205_24, w205_25, w205_27, w205_28, w205_29, w205_30, w205_33, w205_34, w205_36, w205_37, w205_38, w205_39, w205_42, w205_43, w205_45, w205_46, w205_47, w205_48, w205_51, w205_52, w205_54, w205_55, w205_56, w205_57, w205_60, w205_61, w205_63, w205_64, w205_65, w205_66, w205_69, w205_70, w205_72, w205_73, w205_74, w205_77, w205_78, w205_81, w205_82, w205_84, w205_85, w205_86, w205_89, w205_90, w205_92, w205_94, w205_95, w205_97, w205_98, w205_100, w205_101, w205_103, w205_104, w205_105, w205_107, w205_109, w205_110, w205_112, w205_113, w205_115, w205_116, w205_118, w205_119, w205_120, w205_122, w205_124, w205_125, w205_127, w205_128, w205_130, w205_131, w205_133, w205_134, w205_135, w205_137, w205_139, w205_140, w205_143, w205_146, w205_147, w205_148, w205_151, w205_152, w205_154, w205_156, w205_158, w205_160, w205_162, w205_164, w205_166, w205_168, w205_169, w205_172, w205_175, w205_176, w205_178, w205_180, w205_182, w205_184, w205_186, w205_188, w205_190, w205_192, w205_195, ↓ip_ka0, ↓ip_ki1, ↓ip_ki2, ↓ip_ki3, ↓ip_kl4, ↓ip_kl6, ↓ip_kl8, ↓ip_kl10, ↓ip_kl12, ↓ip_kl14, ↓ip_kl16, ↓ip_kl18, ↓ip_ki20, ip_get_0, ip_get_s, ip_set1, ip_set2, ip_clr_s, ip_cat_i, ip_cat_a, List.set_cons_zero, List.set_cons_succ, Option.toList_some, List.nil_append, List.cons_append, List.length_nil, ↓reduceIte, Nat.reduceAdd, Nat.reduceEqDiff, Nat.zero_le, Int32.reduceToInt, gS_108 hG, hG, hi, hj, z_m1, s_197_0, s_197_1, s_197_2, s_197_3, z_w, ← Int64.ofInt_mul, ← Int64.ofInt_add]
  refine (s_188 X M _ _ _ _ _ hG (zb_w x0 (by decide)) (zb_w x1 (by decide)) (zb_w x2 (by decide)) (zb_w bde (by decide)) hde).trans ?_
  simp (config := { maxSteps := 10000000, maxDischargeDepth := 30, decide := true }) only [w205_143, w205_195, Option.toList_none, List.nil_append]
  rfl

set_option maxHeartbeats 40000000 in
set_option maxRecDepth 100000 in
theorem s_205_2 (X : ip_X) (M : ip_H) (K : Option Value → ip_H → Prop) (i j : Nat) (hi : i < 6) (hj : j < 6) (hG : ip_G M) (hF : zF (M.2.1 109 0).toInt (M.2.1 109 1).toInt (M.2.1 109 2).toInt = true) (vi : c_vo (M.2.1 109) (9 + 4 * i)) (vj : c_vo (M.2.1 109) (9 + 4 * j)) : ip_wp X 205 0 [.ref 108, .int 2, .int (Int32.ofNat i), .int (Int32.ofNat j), .retAddr 1, .retAddr 1, .retAddr 1, .retAddr 1, .retAddr 1, .retAddr 1, .retAddr 1, .retAddr 1, .retAddr 1, .retAddr 1, .retAddr 1, .retAddr 1, .retAddr 1, .retAddr 1, .retAddr 1, .retAddr 1, .retAddr 1] [] M K = K none (c_x4 M (zl (zJ 2 (M.2.1 109 0).toInt (M.2.1 109 1).toInt (M.2.1 109 2).toInt (M.2.1 109 (9 + 4 * i)).toInt (M.2.1 109 (9 + 4 * i + 1)).toInt (M.2.1 109 (9 + 4 * i + 2)).toInt (M.2.1 109 (9 + 4 * i + 3)).toInt (M.2.1 109 (9 + 4 * j)).toInt (M.2.1 109 (9 + 4 * j + 1)).toInt (M.2.1 109 (9 + 4 * j + 2)).toInt (M.2.1 109 (9 + 4 * j + 3)).toInt))) := by
  obtain ⟨a1, a2, a3, a4⟩ := vi
  obtain ⟨b1, b2, b3, b4⟩ := vj
  obtain ⟨hp, hq, hr⟩ := zF_b hF
  have d1 : zb 150 (M.2.1 109 (9 + 4 * i + 3)).toInt := ⟨by omega, a4.2⟩
  have d2 : zb 150 (M.2.1 109 (9 + 4 * j + 3)).toInt := ⟨by omega, b4.2⟩
  have hde : (M.2.1 109 (9 + 4 * i + 3)).toInt * (M.2.1 109 (9 + 4 * j + 3)).toInt ≠ 0 := by
    intro w
    rcases Int.mul_eq_zero.mp w with w | w <;> omega
  have bde : zb 22500 ((M.2.1 109 (9 + 4 * i + 3)).toInt * (M.2.1 109 (9 + 4 * j + 3)).toInt) := zb_m d1 d2 (by decide)
  have k1 : zb 4000000000 (M.2.1 109 (9 + 4 * j)).toInt := zb_w b1 (by decide)
  have k2 : zb 30000000 (M.2.1 109 (9 + 4 * j + 1)).toInt := zb_w b2 (by decide)
  have k3 : zb 30000000 (M.2.1 109 (9 + 4 * j + 2)).toInt := zb_w b3 (by decide)
  have l1 : zb 20000 (M.2.1 109 (9 + 4 * i)).toInt := zb_w a1 (by decide)
  have l2 : zb 200 (M.2.1 109 (9 + 4 * i + 1)).toInt := zb_w a2 (by decide)
  have l3 : zb 200 (M.2.1 109 (9 + 4 * i + 2)).toInt := zb_w a3 (by decide)
  simp (config := { maxSteps := 10000000, maxDischargeDepth := 30, decide := true }) only [w205_0, w205_1, w205_2, w205_3, w205_6, w205_7, w205_9, w205_10, w205_11, w205_12, w205_15, w205_16, w205_18, w205_19, w205_20, w205_21, w205_24, w205_25, w205_27, w205_28, w205_29, w205_30, w205_33, w205_34, w205_36, w205_37, w205_38, w205_39, w205_42, w205_43, w205_45, w205_46, w205_47, w205_48, w205_51, w205_52, w205_54, w205_55, w205_56, w205_57, w205_60, w205_61, w205_63, w205_64, w205_65, w205_66, w205_69, w205_70, w205_72, w205_73, w205_74, w205_77, w205_78, w205_81, w205_82, w205_84, w205_85, w205_86, w205_89, w205_90, w205_92, w205_94, w205_95, w205_97, w205_98, w205_100, w205_101, w205_103, w205_104, w205_105, w205_107, w205_109, w205_110, w205_112, w205_113, w205_115, w205_116, w205_118, w205_119, w205_120, w205_122, w205_124, w205_125, w205_127, w205_128, w205_130, w205_131, w205_133, w205_134, w205_135, w205_137, w205_139, w205_140, w205_143, w205_146, w205_147, w205_148, w205_151, w205_152, w205_154, w205_156, w205_158, w205_160, w205_162, w205_164, w205_166, w205_168, w205_169, w205_172, w205_175, w205_176, w205_178, w205_180, w205_182, w205_184, w205_186, w205_188, w205_190, w205_192, w205_195, ↓ip_ka0, ↓ip_ki1, ↓ip_ki2, ↓ip_ki3, ↓ip_kl4, ↓ip_kl6, ↓ip_kl8, ↓ip_kl10, ↓ip_kl12, ↓ip_kl14, ↓ip_kl16, ↓ip_kl18, ip_get_0, ip_get_s, ip_set1, ip_set2, ip_clr_s, ip_cat_i, ip_cat_a, List.set_cons_zero, List.set_cons_succ, Option.toList_some, List.nil_append, List.cons_append, List.length_nil, ↓reduceIte, Nat.reduceAdd, Nat.reduceEqDiff, Nat.zero_le, gS_108 hG, hG, hi, hj, s_197_0, s_197_1, s_197_2, s_197_3, z_w, ← Int64.ofInt_mul]
  refine (s_191 X M _ _ _ _ _ _ _ _ hG (zb_w (zA_b hp hq hr l1 l2 l3 k1 k2 k3) (by decide)) (zb_w (zB_b hp hq hr l1 l2 l3 k1 k2 k3) (by decide)) (zb_w (zC_b hp hq hr l1 l2 l3 k1 k2 k3) (by decide)) (zb_w bde (by decide)) hde).trans ?_
  simp (config := { maxSteps := 10000000, maxDischargeDepth := 30, decide := true }) only [w205_172, w205_195, Option.toList_none, List.nil_append]
  rfl

set_option maxHeartbeats 40000000 in
set_option maxRecDepth 100000 in
theorem s_205_3 (X : ip_X) (M : ip_H) (K : Option Value → ip_H → Prop) (i j : Nat) (hi : i < 6) (hj : j < 6) (hG : ip_G M) (hF : zF (M.2.1 109 0).toInt (M.2.1 109 1).toInt (M.2.1 109 2).toInt = true) (vi : c_vo (M.2.1 109) (9 + 4 * i)) (vj : c_vo (M.2.1 109) (9 + 4 * j)) (h0 : ¬ ((M.2.1 109 (9 + 4 * j)).toInt = 0 ∧ (M.2.1 109 (9 + 4 * j + 1)).toInt = 0 ∧ (M.2.1 109 (9 + 4 * j + 2)).toInt = 0)) : ip_wp X 205 0 [.ref 108, .int 3, .int (Int32.ofNat i), .int (Int32.ofNat j), .retAddr 1, .retAddr 1, .retAddr 1, .retAddr 1, .retAddr 1, .retAddr 1, .retAddr 1, .retAddr 1, .retAddr 1, .retAddr 1, .retAddr 1, .retAddr 1, .retAddr 1, .retAddr 1, .retAddr 1, .retAddr 1, .retAddr 1] [] M K = K none (c_x4 M (zl (zJ 3 (M.2.1 109 0).toInt (M.2.1 109 1).toInt (M.2.1 109 2).toInt (M.2.1 109 (9 + 4 * i)).toInt (M.2.1 109 (9 + 4 * i + 1)).toInt (M.2.1 109 (9 + 4 * i + 2)).toInt (M.2.1 109 (9 + 4 * i + 3)).toInt (M.2.1 109 (9 + 4 * j)).toInt (M.2.1 109 (9 + 4 * j + 1)).toInt (M.2.1 109 (9 + 4 * j + 2)).toInt (M.2.1 109 (9 + 4 * j + 3)).toInt))) := by
  obtain ⟨a1, a2, a3, a4⟩ := vi
  obtain ⟨b1, b2, b3, b4⟩ := vj
  obtain ⟨hp, hq, hr⟩ := zF_b hF
  have d1 : zb 150 (M.2.1 109 (9 + 4 * i + 3)).toInt := ⟨by omega, a4.2⟩
  have d2 : zb 150 (M.2.1 109 (9 + 4 * j + 3)).toInt := ⟨by omega, b4.2⟩
  have hde : (M.2.1 109 (9 + 4 * i + 3)).toInt * (M.2.1 109 (9 + 4 * j + 3)).toInt ≠ 0 := by
    intro w
    rcases Int.mul_eq_zero.mp w with w | w <;> omega
  have bde : zb 22500 ((M.2.1 109 (9 + 4 * i + 3)).toInt * (M.2.1 109 (9 + 4 * j + 3)).toInt) := zb_m d1 d2 (by decide)
  simp (config := { maxSteps := 10000000, maxDischargeDepth := 30, decide := true }) only [w205_0, w205_1, w205_2, w205_3, w205_6, w205_7, w205_9, w205_10, w205_11, w205_12, w205_15, w205_16, w205_18, w205_19, w205_20, w205_21, w205_24, w205_25, w205_27, w205_28, w205_29, w205_30, w205_33, w205_34, w205_36, w205_37, w205_38, w205_39, w205_42, w205_43, w205_45, w205_46, w205_47, w205_48, w205_51, w205_52, w205_54, w205_55, w205_56, w205_57, w205_60, w205_61, w205_63, w205_64, w205_65, w205_66, w205_69, w205_70, w205_72, w205_73, w205_74, w205_77, w205_78, w205_81, w205_82, w205_84, w205_85, w205_86, w205_89, w205_90, w205_92, w205_94, w205_95, w205_97, w205_98, w205_100, w205_101, w205_103, w205_104, w205_105, w205_107, w205_109, w205_110, w205_112, w205_113, w205_115, w205_116, w205_118, w205_119, w205_120, w205_122, w205_124, w205_125, w205_127, w205_128, w205_130, w205_131, w205_133, w205_134, w205_135, w205_137, w205_139, w205_140, w205_143, w205_146, w205_147, w205_148, w205_151, w205_152, w205_154, w205_156, w205_158, w205_160, w205_162, w205_164, w205_166, w205_168, w205_169, w205_172, w205_175, w205_176, w205_178, w205_180, w205_182, w205_184, w205_186, w205_188, w205_190, w205_192, w205_195, ↓ip_ka0, ↓ip_ki1, ↓ip_ki2, ↓ip_ki3, ↓ip_kl4, ↓ip_kl6, ↓ip_kl8, ↓ip_kl10, ↓ip_kl12, ↓ip_kl14, ↓ip_kl16, ↓ip_kl18, ip_get_0, ip_get_s, ip_set1, ip_set2, ip_clr_s, ip_cat_i, ip_cat_a, List.set_cons_zero, List.set_cons_succ, Option.toList_some, List.nil_append, List.cons_append, List.length_nil, ↓reduceIte, Nat.reduceAdd, Nat.reduceEqDiff, Nat.zero_le, gS_108 hG, hG, hi, hj, s_197_0, s_197_1, s_197_2, s_197_3, z_w]
  refine (s_192 X M _ _ _ _ _ _ _ _ _ hG hF (zb_w a1 (by decide)) (zb_w a2 (by decide)) (zb_w a3 (by decide)) a4 b4 (zb_w b1 (by decide)) (zb_w b2 (by decide)) (zb_w b3 (by decide)) h0).trans ?_
  simp (config := { maxSteps := 10000000, maxDischargeDepth := 30, decide := true }) only [w205_195, Option.toList_none, List.nil_append]
  rfl

set_option maxHeartbeats 40000000 in
set_option maxRecDepth 100000 in
theorem s_206 (X : ip_X) (M : ip_H) (K : Option Value → ip_H → Prop) (i : Nat) (hi : i < 6) (hG : ip_G M) : ip_wp X 206 0 [.ref 108, .int (Int32.ofNat i)] [] M K = K (some (.int (ip_b (decide (M.2.1 109 (9 + 4 * i) = 0) && (decide (M.2.1 109 (9 + 4 * i + 1) = 0) && decide (M.2.1 109 (9 + 4 * i + 2) = 0)))))) M := by
  have e0 : 9 + 4 * i + 0 = 9 + 4 * i := rfl
  by_cases h1 : M.2.1 109 (9 + 4 * i) = 0
  · by_cases h2 : M.2.1 109 (9 + 4 * i + 1) = 0
    · by_cases h3 : M.2.1 109 (9 + 4 * i + 2) = 0
      · simp (config := { maxSteps := 10000000, maxDischargeDepth := 30, decide := true }) only [w206_0, w206_1, w206_2, w206_3, w206_6, w206_9, w206_10, w206_11, w206_12, w206_15, w206_18, w206_19, w206_20, w206_21, w206_24, w206_27, w206_28, w206_31, w206_32, ↓ip_ka0, ↓ip_ki1, Option.toList_some, List.nil_append, List.cons_append, List.length_nil, ↓reduceIte, Nat.zero_le, or_true, ip_b_t, gS_108 hG, hG, hi, Nat.add_zero, s_197_0, s_197_1, s_197_2, h1, h2, h3, decide_true, Bool.and_true]
      · simp (config := { maxSteps := 10000000, maxDischargeDepth := 30, decide := true }) only [w206_0, w206_1, w206_2, w206_3, w206_6, w206_9, w206_10, w206_11, w206_12, w206_15, w206_18, w206_19, w206_20, w206_21, w206_24, w206_27, w206_28, w206_31, w206_32, ↓ip_ka0, ↓ip_ki1, Option.toList_some, List.nil_append, List.cons_append, List.length_nil, ↓reduceIte, Nat.zero_le, or_false, ip_b_f, gS_108 hG, hG, hi, Nat.add_zero, s_197_0, s_197_1, s_197_2, h1, h2, h3, decide_true, decide_false, Bool.and_false]
    · simp (config := { maxSteps := 10000000, maxDischargeDepth := 30, decide := true }) only [w206_0, w206_1, w206_2, w206_3, w206_6, w206_9, w206_10, w206_11, w206_12, w206_15, w206_18, w206_19, w206_20, w206_21, w206_24, w206_27, w206_28, w206_31, w206_32, ↓ip_ka0, ↓ip_ki1, Option.toList_some, List.nil_append, List.cons_append, List.length_nil, ↓reduceIte, Nat.zero_le, or_false, ip_b_f, gS_108 hG, hG, hi, Nat.add_zero, s_197_0, s_197_1, h1, h2, decide_true, decide_false, Bool.and_false, Bool.false_and]
  · simp (config := { maxSteps := 10000000, maxDischargeDepth := 30, decide := true }) only [w206_0, w206_1, w206_2, w206_3, w206_6, w206_9, w206_10, w206_11, w206_12, w206_15, w206_18, w206_19, w206_20, w206_21, w206_24, w206_27, w206_28, w206_31, w206_32, ↓ip_ka0, ↓ip_ki1, Option.toList_some, List.nil_append, List.cons_append, List.length_nil, ↓reduceIte, Nat.zero_le, or_false, ip_b_f, gS_108 hG, hG, hi, Nat.add_zero, s_197_0, h1, decide_false, Bool.false_and]

def nought (f : Nat → Int32) (s : Nat) : Prop := (f s).toInt = 0 ∧ (f (s + 1)).toInt = 0 ∧ (f (s + 2)).toInt = 0
theorem nought_b {f : Nat → Int32} {s : Nat} : ((decide (f s = 0) && (decide (f (s + 1) = 0) && decide (f (s + 2) = 0))) = true) = nought f s := by
  apply propext
  unfold nought
  rw [Bool.and_eq_true, Bool.and_eq_true, decide_eq_true_eq, decide_eq_true_eq, decide_eq_true_eq, ← Int32.toInt_inj, ← Int32.toInt_inj, ← Int32.toInt_inj]
  rfl
/-- lowest terms are no greater -/
theorem zl_b {z : Int × Int × Int × Int} {n : Int} (h1 : zb n z.1) (h2 : zb n z.2.1) (h3 : zb n z.2.2.1) (h4 : zb n z.2.2.2) : zb n (zl z).1 ∧ zb n (zl z).2.1 ∧ zb n (zl z).2.2.1 ∧ zb n (zl z).2.2.2 := ⟨z_tdiv_b h1, z_tdiv_b h2, z_tdiv_b h3, z_tdiv_b h4⟩
theorem zQ_b {p q r a b c d f g h e : Int} (hF : zF p q r = true) (ha : zb 20000 a) (hb : zb 200 b) (hc : zb 200 c) (hd : 1 ≤ d ∧ d ≤ 150) (he : 1 ≤ e ∧ e ≤ 150) (hf : zb 20000 f) (hg : zb 200 g) (hh : zb 200 h) (h0 : ¬ (f = 0 ∧ g = 0 ∧ h = 0)) : zb 13500000000000000 (zQ p q r a b c d f g h e).1 ∧ zb 13500000000000000 (zQ p q r a b c d f g h e).2.1 ∧ zb 13500000000000000 (zQ p q r a b c d f g h e).2.2.1 ∧ zb 13500000000000000 (zQ p q r a b c d f g h e).2.2.2 ∧ (zQ p q r a b c d f g h e).2.2.2 ≠ 0 := by
  obtain ⟨hp, hq, hr⟩ := zF_b hF
  have hN0 := zN_ne hF h0
  have bU := z_tdiv_b (y := zg (zU p q r f g h) (zV p q r f g h) (zW p q r f g h) (zN p q r f g h)) (zU_b hp hq hr hf hg hh)
  have bV := z_tdiv_b (y := zg (zU p q r f g h) (zV p q r f g h) (zW p q r f g h) (zN p q r f g h)) (zV_b hp hq hr hf hg hh)
  have bW := z_tdiv_b (y := zg (zU p q r f g h) (zV p q r f g h) (zW p q r f g h) (zN p q r f g h)) (zW_b hp hq hr hf hg hh)
  have bN := z_tdiv_b (y := zg (zU p q r f g h) (zV p q r f g h) (zW p q r f g h) (zN p q r f g h)) (zN_b hp hq hr hf hg hh)
  have hx1 := zg_d (a := zU p q r f g h) (b := zV p q r f g h) (c := zW p q r f g h) hN0
  unfold zQ
  dsimp only
  generalize (zU p q r f g h).tdiv (zg (zU p q r f g h) (zV p q r f g h) (zW p q r f g h) (zN p q r f g h)) = k at *
  generalize (zV p q r f g h).tdiv (zg (zU p q r f g h) (zV p q r f g h) (zW p q r f g h) (zN p q r f g h)) = l at *
  generalize (zW p q r f g h).tdiv (zg (zU p q r f g h) (zV p q r f g h) (zW p q r f g h) (zN p q r f g h)) = m at *
  generalize (zN p q r f g h).tdiv (zg (zU p q r f g h) (zV p q r f g h) (zW p q r f g h) (zN p q r f g h)) = x at *
  have he' : zb 150 e := ⟨by omega, by omega⟩
  have hd' : zb 150 d := ⟨by omega, by omega⟩
  have hy : zb 150 (e.tdiv (Int.gcd e x : Nat)) := z_tdiv_b he'
  have hz : zb 10000000000000 (x.tdiv (Int.gcd e x : Nat)) := z_tdiv_b bN
  have hx2 : 1 ≤ x.tdiv (Int.gcd e x : Nat) := by
    obtain ⟨t, ht⟩ := Int.gcd_dvd_right e x
    have hgp : 0 < Int.gcd e x := Int.gcd_pos_of_ne_zero_left _ (by omega)
    have hg0 : ((Int.gcd e x : Nat) : Int) ≠ 0 := by omega
    generalize Int.gcd e x = G at *
    rw [ht, Int.mul_tdiv_cancel_left _ hg0]
    rcases Int.lt_or_le 0 t with w | w
    · omega
    · have := Int.mul_le_mul_of_nonneg_left w (show 0 ≤ (G : Int) by omega)
      omega
  refine ⟨zb_m (zA_b hp hq hr ha hb hc bU bV bW) hy (by decide), zb_m (zB_b hp hq hr ha hb hc bU bV bW) hy (by decide), zb_m (zC_b hp hq hr ha hb hc bU bV bW) hy (by decide), zb_m hd' hz (by decide), ?_⟩
  intro w
  rcases Int.mul_eq_zero.mp w with w | w <;> omega
theorem zJ_b {f : Nat → Int32} {p q r : Int} {n s t : Nat} (hn : n < 4) (hF : zF p q r = true) (vi : c_vo f s) (vj : c_vo f t) (h0 : n = 3 → ¬ nought f t) (z : Int × Int × Int × Int) (hz : z = zJ n p q r (f s).toInt (f (s + 1)).toInt (f (s + 2)).toInt (f (s + 3)).toInt (f t).toInt (f (t + 1)).toInt (f (t + 2)).toInt (f (t + 3)).toInt) : zb 13500000000000000 z.1 ∧ zb 13500000000000000 z.2.1 ∧ zb 13500000000000000 z.2.2.1 ∧ zb 13500000000000000 z.2.2.2 ∧ z.2.2.2 ≠ 0 := by
  obtain ⟨a1, a2, a3, a4⟩ := vi
  obtain ⟨b1, b2, b3, b4⟩ := vj
  obtain ⟨hp, hq, hr⟩ := zF_b hF
  have d1 : zb 150 (f (s + 3)).toInt := ⟨by omega, a4.2⟩
  have d2 : zb 150 (f (t + 3)).toInt := ⟨by omega, b4.2⟩
  have hde : (f (s + 3)).toInt * (f (t + 3)).toInt ≠ 0 := by
    intro w
    rcases Int.mul_eq_zero.mp w with w | w <;> omega
  have bde : zb 13500000000000000 ((f (s + 3)).toInt * (f (t + 3)).toInt) := zb_m d1 d2 (by decide)
  have hn' : n = 0 ∨ n = 1 ∨ n = 2 ∨ n = 3 := by omega
  have pl : ∀ {x y z w : Int} (k : Int), zb 1 k → zb 150 x → zb 150 y → zb 150 z → zb 150 w → zb 13500000000000000 (x * y + k * z * w) := fun k h0 h1 h2 h3 h4 => zb_a (zb_m h1 h2 (Int.le_refl _)) (zb_m (zb_m h0 h3 (Int.le_refl _)) h4 (Int.le_refl _)) (by decide)
  subst hz
  rcases hn' with rfl | rfl | rfl | rfl
  · exact ⟨pl 1 (zb_c 1 1 (by decide) (by decide)) a1 d2 b1 d1, pl 1 (zb_c 1 1 (by decide) (by decide)) a2 d2 b2 d1, pl 1 (zb_c 1 1 (by decide) (by decide)) a3 d2 b3 d1, bde, hde⟩
  · exact ⟨pl (-1) (zb_c 1 (-1) (by decide) (by decide)) a1 d2 b1 d1, pl (-1) (zb_c 1 (-1) (by decide) (by decide)) a2 d2 b2 d1, pl (-1) (zb_c 1 (-1) (by decide) (by decide)) a3 d2 b3 d1, bde, hde⟩
  · have k1 : zb 4000000000 (f t).toInt := zb_w b1 (by decide)
    have k2 : zb 30000000 (f (t + 1)).toInt := zb_w b2 (by decide)
    have k3 : zb 30000000 (f (t + 2)).toInt := zb_w b3 (by decide)
    have l1 : zb 20000 (f s).toInt := zb_w a1 (by decide)
    have l2 : zb 200 (f (s + 1)).toInt := zb_w a2 (by decide)
    have l3 : zb 200 (f (s + 2)).toInt := zb_w a3 (by decide)
    exact ⟨zb_w (zA_b hp hq hr l1 l2 l3 k1 k2 k3) (by decide), zb_w (zB_b hp hq hr l1 l2 l3 k1 k2 k3) (by decide), zb_w (zC_b hp hq hr l1 l2 l3 k1 k2 k3) (by decide), bde, hde⟩
  · exact zQ_b hF (zb_w a1 (by decide)) (zb_w a2 (by decide)) (zb_w a3 (by decide)) a4 b4 (zb_w b1 (by decide)) (zb_w b2 (by decide)) (zb_w b3 (by decide)) (h0 rfl)
/-- it can be a value -/
def zcan (z : Int × Int × Int × Int) : Bool := l_sm (Int64.ofInt z.1) && (l_sm (Int64.ofInt z.2.1) && (l_sm (Int64.ofInt z.2.2.1) && !decide (150 < Int64.ofInt z.2.2.2)))
theorem zcan_z {z : Int × Int × Int × Int} (h1 : zb 9223372036854775807 z.1) (h2 : zb 9223372036854775807 z.2.1) (h3 : zb 9223372036854775807 z.2.2.1) (h4 : zb 9223372036854775807 z.2.2.2) : (zcan z = true) = (zb 150 z.1 ∧ zb 150 z.2.1 ∧ zb 150 z.2.2.1 ∧ z.2.2.2 ≤ 150) := by
  apply propext
  unfold zcan
  have e := z_lt (a := 150) ⟨by decide, by decide⟩ h4
  have f2 : (150 : Int64) = Int64.ofInt 150 := rfl
  rw [Bool.and_eq_true, Bool.and_eq_true, Bool.and_eq_true, l_sm_z h1, l_sm_z h2, l_sm_z h3, Bool.not_eq_true', decide_eq_false_iff_not, f2, e, Int.not_lt]
theorem i4 {x : Int32} (h : i_in x 0 3 = true) : ∃ n : Nat, n < 4 ∧ x = Int32.ofNat n := by
  rw [i_in_z] at h
  have e0 : (0 : Int32).toInt = 0 := rfl
  have e5 : (3 : Int32).toInt = 3 := rfl
  have hx := ip_nat x (by omega)
  refine ⟨x.toNatClampNeg, ?_, hx⟩
  have e : x.toNatClampNeg = x.toInt.toNat := rfl
  omega
def c_f4 (p q r : Int) (z : Int × Int × Int × Int) : Int32 := z_fl p q r z.1 z.2.1 z.2.2.1 z.2.2.2
def c_l4 (M : ip_H) (k : Nat) (z : Int × Int × Int × Int) : ip_H := c_ly M k (Int32.ofInt z.1) (Int32.ofInt z.2.1) (Int32.ofInt z.2.2.1) (Int32.ofInt z.2.2.2)
end
noncomputable section
-- PART 67.ops3
-- THE REFERENCE: begin; what a step is laid out from
def c_fl (f : Nat → Int32) (p q r : Int) (s : Nat) : Int32 := z_fl p q r (f s).toInt (f (s + 1)).toInt (f (s + 2)).toInt (f (s + 3)).toInt
def c_sg (f : Nat → Int32) (p q r : Int) (s : Nat) : Int32 := z_sg (zN p q r (f s).toInt (f (s + 1)).toInt (f (s + 2)).toInt)
/-- a course can begin with these -/
def c_cb (f : Nat → Int32) (p q r : Int) (s t : Nat) : Bool := decide (0 < c_sg f p q r s) && (decide (0 < c_sg f p q r t) && (!decide (99 < c_fl f p q r s) && !decide (99 < c_fl f p q r t)))
def c_bg (M : ip_H) (i j : Nat) (w : Int32) : ip_H := (ip_uL (ip_uL (ip_uL (ip_uL (ip_uL (ip_uL (ip_uL (ip_uL (ip_uL (ip_uI (ip_uI (ip_uI (ip_uI (ip_uI (ip_uI (ip_uI (ip_uI (ip_uI (ip_uI (ip_uI (ip_uI (ip_uI M 109 153 (M.2.1 109 (9 + 4 * i))) 109 157 (M.2.1 109 (9 + 4 * j))) 109 154 (M.2.1 109 (9 + 4 * i + 1))) 109 158 (M.2.1 109 (9 + 4 * j + 1))) 109 155 (M.2.1 109 (9 + 4 * i + 2))) 109 159 (M.2.1 109 (9 + 4 * j + 2))) 109 156 (M.2.1 109 (9 + 4 * i + 3))) 109 160 (M.2.1 109 (9 + 4 * j + 3))) 109 3 1) 109 4 w) 109 5 0) 109 6 (-1)) 109 7 0) 110 0 1) 110 1 0) 110 2 0) 110 3 0) 110 4 1) 110 5 0) 110 6 0) 110 7 0) 110 8 1)
-- the order of writes
theorem nf_IL (M : ip_H) (k j k2 i : Nat) (v : Int64) (w : Int32) : ip_uI (ip_uL M k j v) k2 i w = ip_uL (ip_uI M k2 i w) k j v := rfl
theorem nf_II (M : ip_H) (k j i : Nat) (v w : Int32) (h : i < j) : ip_uI (ip_uI M k j v) k i w = ip_uI (ip_uI M k i w) k j v := by
  have e : (fun a b => if a = k ∧ b = i then w else if a = k ∧ b = j then v else M.2.1 a b) = (fun a b => if a = k ∧ b = j then v else if a = k ∧ b = i then w else M.2.1 a b) := by
    funext a b
    by_cases h1 : a = k ∧ b = i
    · rw [if_pos h1, if_neg (by omega), if_pos h1]
    · rw [if_neg h1]
      by_cases h2 : a = k ∧ b = j
      · rw [if_pos h2, if_pos h2]
      · rw [if_neg h2, if_neg h2, if_neg h1]
  exact Prod.ext rfl (Prod.ext e rfl)
theorem nf_LL (M : ip_H) (k j i : Nat) (v w : Int64) (h : i < j) : ip_uL (ip_uL M k j v) k i w = ip_uL (ip_uL M k i w) k j v := by
  have e : (fun a b => if a = k ∧ b = i then w else if a = k ∧ b = j then v else M.2.2.1 a b) = (fun a b => if a = k ∧ b = j then v else if a = k ∧ b = i then w else M.2.2.1 a b) := by
    funext a b
    by_cases h1 : a = k ∧ b = i
    · rw [if_pos h1, if_neg (by omega), if_pos h1]
    · rw [if_neg h1]
      by_cases h2 : a = k ∧ b = j
      · rw [if_pos h2, if_pos h2]
      · rw [if_neg h2, if_neg h2, if_neg h1]
  exact Prod.ext rfl (Prod.ext rfl (Prod.ext e rfl))
-- what a step is laid out from, by the row
def r_k (N : Nat → Int32) : Nat := (N 5).toNatClampNeg
def r_v (N : Nat → Int32) (s : Nat) : Int := (N s).toInt
def r_fu (N : Nat → Int32) : Int32 := c_fl N (r_v N 0) (r_v N 1) (r_v N 2) (153 + 8 * r_k N)
def r_fv (N : Nat → Int32) : Int32 := c_fl N (r_v N 0) (r_v N 1) (r_v N 2) (153 + 8 * r_k N + 4)
def r_f0 (N : Nat → Int32) : Int × Int × Int × Int := (r_v N (153 + 8 * r_k N) - (r_fu N).toInt * r_v N (153 + 8 * r_k N + 3), r_v N (153 + 8 * r_k N + 1), r_v N (153 + 8 * r_k N + 2), r_v N (153 + 8 * r_k N + 3))
def r_g0 (N : Nat → Int32) : Int × Int × Int × Int := (r_v N (153 + 8 * r_k N + 4) - (r_fv N).toInt * r_v N (153 + 8 * r_k N + 7), r_v N (153 + 8 * r_k N + 5), r_v N (153 + 8 * r_k N + 6), r_v N (153 + 8 * r_k N + 7))
/-- f less g -/
def r_lt (p q r : Int) (f g : Int × Int × Int × Int) : Bool := decide (z_sg (zN p q r (f.1 * g.2.2.2 - g.1 * f.2.2.2) (f.2.1 * g.2.2.2 - g.2.1 * f.2.2.2) (f.2.2.1 * g.2.2.2 - g.2.2.1 * f.2.2.2)) < 0)
def r_t (N : Nat → Int32) : Bool := decide (N 4 = 1) && r_lt (r_v N 0) (r_v N 1) (r_v N 2) (r_f0 N) (r_g0 N)
def r_f (N : Nat → Int32) : Int × Int × Int × Int := if r_t N = true then r_g0 N else r_f0 N
def r_g (N : Nat → Int32) : Int × Int × Int × Int := if r_t N = true then r_f0 N else r_g0 N
def c_pt (M : ip_H) (fu fv t : Int32) (f g : Int × Int × Int × Int) : ip_H := ip_uL (ip_uL (ip_uL (ip_uL (ip_uL (ip_uL (ip_uL (ip_uL (ip_uI (ip_uI (ip_uI M 108 17 fu) 108 18 fv) 108 27 t) 108 19 (Int64.ofInt f.1)) 108 20 (Int64.ofInt f.2.1)) 108 21 (Int64.ofInt f.2.2.1)) 108 22 (Int64.ofInt f.2.2.2)) 108 23 (Int64.ofInt g.1)) 108 24 (Int64.ofInt g.2.1)) 108 25 (Int64.ofInt g.2.2.1)) 108 26 (Int64.ofInt g.2.2.2)
def c_p0 (M : ip_H) (fu fv : Int32) (f g : Int × Int × Int × Int) : ip_H := ip_uL (ip_uL (ip_uL (ip_uL (ip_uL (ip_uL (ip_uL (ip_uL (ip_uI (ip_uI M 108 17 fu) 108 18 fv) 108 19 (Int64.ofInt f.1)) 108 20 (Int64.ofInt f.2.1)) 108 21 (Int64.ofInt f.2.2.1)) 108 22 (Int64.ofInt f.2.2.2)) 108 23 (Int64.ofInt g.1)) 108 24 (Int64.ofInt g.2.1)) 108 25 (Int64.ofInt g.2.2.1)) 108 26 (Int64.ofInt g.2.2.2)
theorem c_p0_sh (M : ip_H) (fu fv : Int32) (f g : Int × Int × Int × Int) (k : Nat) : ip_sh (c_p0 M fu fv f g) k = ip_sh M k := rfl
theorem gG_p0 (M : ip_H) (fu fv : Int32) (f g : Int × Int × Int × Int) (h : ip_G M) : ip_G (c_p0 M fu fv f g) := gG_uL _ _ _ _ (gG_uL _ _ _ _ (gG_uL _ _ _ _ (gG_uL _ _ _ _ (gG_uL _ _ _ _ (gG_uL _ _ _ _ (gG_uL _ _ _ _ (gG_uL _ _ _ _ (gG_uI _ _ _ _ (gG_uI _ _ _ _ h)))))))))
theorem c_p0_R (M : ip_H) (fu fv : Int32) (f g : Int × Int × Int × Int) : (c_p0 M fu fv f g).2.2.2 = M.2.2.2 := rfl
theorem c_p0_I (M : ip_H) (fu fv : Int32) (f g : Int × Int × Int × Int) (a b : Nat) : (c_p0 M fu fv f g).2.1 a b = if a = 108 ∧ b = 18 then fv else if a = 108 ∧ b = 17 then fu else M.2.1 a b := rfl
theorem c_p0_L (M : ip_H) (fu fv : Int32) (f g : Int × Int × Int × Int) (a b : Nat) : (c_p0 M fu fv f g).2.2.1 a b = if a = 108 ∧ b = 26 then Int64.ofInt g.2.2.2 else if a = 108 ∧ b = 25 then Int64.ofInt g.2.2.1 else if a = 108 ∧ b = 24 then Int64.ofInt g.2.1 else if a = 108 ∧ b = 23 then Int64.ofInt g.1 else if a = 108 ∧ b = 22 then Int64.ofInt f.2.2.2 else if a = 108 ∧ b = 21 then Int64.ofInt f.2.2.1 else if a = 108 ∧ b = 20 then Int64.ofInt f.2.1 else if a = 108 ∧ b = 19 then Int64.ofInt f.1 else M.2.2.1 a b := rfl
theorem ip_uI_row (M : ip_H) (k j : Nat) (v : Int32) (a : Nat) (h : ¬ a = k) : (ip_uI M k j v).2.1 a = M.2.1 a := by
  funext b
  rw [ip_uI_I, if_neg (fun q => h q.1)]
def c_pm (M : ip_H) : ip_H := c_pt M (r_fu (M.2.1 109)) (r_fv (M.2.1 109)) (ip_b (r_t (M.2.1 109))) (r_f (M.2.1 109)) (r_g (M.2.1 109))
theorem c_pt_1 (M : ip_H) (fu fv t : Int32) (f g : Int × Int × Int × Int) : (c_pt M fu fv t f g).1 = M.1 := rfl
theorem c_pt_R (M : ip_H) (fu fv t : Int32) (f g : Int × Int × Int × Int) : (c_pt M fu fv t f g).2.2.2 = M.2.2.2 := rfl
theorem c_pt_sh (M : ip_H) (fu fv t : Int32) (f g : Int × Int × Int × Int) (k : Nat) : ip_sh (c_pt M fu fv t f g) k = ip_sh M k := rfl
theorem gG_pt (M : ip_H) (fu fv t : Int32) (f g : Int × Int × Int × Int) (h : ip_G M) : ip_G (c_pt M fu fv t f g) := gG_uL _ _ _ _ (gG_uL _ _ _ _ (gG_uL _ _ _ _ (gG_uL _ _ _ _ (gG_uL _ _ _ _ (gG_uL _ _ _ _ (gG_uL _ _ _ _ (gG_uL _ _ _ _ (gG_uI _ _ _ _ (gG_uI _ _ _ _ (gG_uI _ _ _ _ h))))))))))
theorem c_pt_I (M : ip_H) (fu fv t : Int32) (f g : Int × Int × Int × Int) (a b : Nat) : (c_pt M fu fv t f g).2.1 a b = if a = 108 ∧ b = 27 then t else if a = 108 ∧ b = 18 then fv else if a = 108 ∧ b = 17 then fu else M.2.1 a b := rfl
theorem c_pt_L (M : ip_H) (fu fv t : Int32) (f g : Int × Int × Int × Int) (a b : Nat) : (c_pt M fu fv t f g).2.2.1 a b = if a = 108 ∧ b = 26 then Int64.ofInt g.2.2.2 else if a = 108 ∧ b = 25 then Int64.ofInt g.2.2.1 else if a = 108 ∧ b = 24 then Int64.ofInt g.2.1 else if a = 108 ∧ b = 23 then Int64.ofInt g.1 else if a = 108 ∧ b = 22 then Int64.ofInt f.2.2.2 else if a = 108 ∧ b = 21 then Int64.ofInt f.2.2.1 else if a = 108 ∧ b = 20 then Int64.ofInt f.2.1 else if a = 108 ∧ b = 19 then Int64.ofInt f.1 else M.2.2.1 a b := rfl
theorem c_pt_row (M : ip_H) (fu fv t : Int32) (f g : Int × Int × Int × Int) : (c_pt M fu fv t f g).2.1 109 = M.2.1 109 := by
  funext b
  rw [c_pt_I, if_neg (by omega), if_neg (by omega), if_neg (by omega)]

set_option maxHeartbeats 40000000 in
set_option maxRecDepth 100000 in
theorem s_210 (X : ip_X) (M : ip_H) (K : Option Value → ip_H → Prop) (i j : Nat) (hi : i < 6) (hj : j < 6) (hG : ip_G M) (hq : q3 (M.2.1 109 1) = true) : ip_wp X 210 0 [.ref 108, .int (Int32.ofNat i), .int (Int32.ofNat j)] [] M K = K (some (.int (ip_b (c_cb (M.2.1 109) (M.2.1 109 0).toInt (M.2.1 109 1).toInt (M.2.1 109 2).toInt (9 + 4 * i) (9 + 4 * j))))) M := by
  unfold c_cb
  by_cases h1 : 0 < c_sg (M.2.1 109) (M.2.1 109 0).toInt (M.2.1 109 1).toInt (M.2.1 109 2).toInt (9 + 4 * i)
  · by_cases h2 : 0 < c_sg (M.2.1 109) (M.2.1 109 0).toInt (M.2.1 109 1).toInt (M.2.1 109 2).toInt (9 + 4 * j)
    · by_cases h3 : 99 < c_fl (M.2.1 109) (M.2.1 109 0).toInt (M.2.1 109 1).toInt (M.2.1 109 2).toInt (9 + 4 * i)
      · unfold c_sg c_fl at *
        simp (config := { maxSteps := 10000000, maxDischargeDepth := 30, decide := true }) only [w210_0, w210_1, w210_2, w210_3, w210_4, w210_7, w210_8, w210_9, w210_10, w210_11, w210_14, w210_15, w210_16, w210_17, w210_18, w210_21, w210_22, w210_25, w210_28, w210_29, w210_30, w210_31, w210_32, w210_35, w210_36, w210_37, w210_38, w210_39, w210_42, w210_43, w210_44, w210_45, w210_46, w210_49, w210_50, w210_53, w210_56, w210_57, w210_58, w210_59, w210_60, w210_61, w210_62, w210_65, w210_66, w210_67, w210_68, w210_69, w210_72, w210_73, w210_74, w210_75, w210_76, w210_79, w210_80, w210_81, w210_82, w210_83, w210_86, w210_87, w210_90, w210_92, w210_95, w210_96, w210_97, w210_98, w210_99, w210_102, w210_103, w210_104, w210_105, w210_106, w210_109, w210_110, w210_111, w210_112, w210_113, w210_116, w210_117, w210_118, w210_119, w210_120, w210_123, w210_124, w210_127, w210_129, w210_132, w210_133, w210_136, w210_137, ↓ip_ka0, ↓ip_ki1, ↓ip_ki2, Option.toList_some, List.nil_append, List.cons_append, List.length_nil, List.length_cons, ↓reduceIte, Nat.reduceAdd, Nat.reduceLeDiff, Nat.zero_add, Nat.zero_le, or_false, ip_b_f, gS_108 hG, hG, hq, hi, hj, s_185, s_186, z_w, Nat.add_zero, s_197_0, s_197_1, s_197_2, s_197_3, h1, h2, h3, decide_true, Bool.not_true, Bool.and_false, Bool.false_and]
      · by_cases h4 : 99 < c_fl (M.2.1 109) (M.2.1 109 0).toInt (M.2.1 109 1).toInt (M.2.1 109 2).toInt (9 + 4 * j)
        · unfold c_sg c_fl at *
          simp (config := { maxSteps := 10000000, maxDischargeDepth := 30, decide := true }) only [w210_0, w210_1, w210_2, w210_3, w210_4, w210_7, w210_8, w210_9, w210_10, w210_11, w210_14, w210_15, w210_16, w210_17, w210_18, w210_21, w210_22, w210_25, w210_28, w210_29, w210_30, w210_31, w210_32, w210_35, w210_36, w210_37, w210_38, w210_39, w210_42, w210_43, w210_44, w210_45, w210_46, w210_49, w210_50, w210_53, w210_56, w210_57, w210_58, w210_59, w210_60, w210_61, w210_62, w210_65, w210_66, w210_67, w210_68, w210_69, w210_72, w210_73, w210_74, w210_75, w210_76, w210_79, w210_80, w210_81, w210_82, w210_83, w210_86, w210_87, w210_90, w210_92, w210_95, w210_96, w210_97, w210_98, w210_99, w210_102, w210_103, w210_104, w210_105, w210_106, w210_109, w210_110, w210_111, w210_112, w210_113, w210_116, w210_117, w210_118, w210_119, w210_120, w210_123, w210_124, w210_127, w210_129, w210_132, w210_133, w210_136, w210_137, ↓ip_ka0, ↓ip_ki1, ↓ip_ki2, Option.toList_some, List.nil_append, List.cons_append, List.length_nil, List.length_cons, ↓reduceIte, Nat.reduceAdd, Nat.reduceLeDiff, Nat.zero_add, Nat.zero_le, or_false, ip_b_f, gS_108 hG, hG, hq, hi, hj, s_185, s_186, z_w, Nat.add_zero, s_197_0, s_197_1, s_197_2, s_197_3, h1, h2, h3, h4, decide_true, decide_false, Bool.not_true, Bool.not_false, Bool.and_false]
        · unfold c_sg c_fl at *
          simp (config := { maxSteps := 10000000, maxDischargeDepth := 30, decide := true }) only [w210_0, w210_1, w210_2, w210_3, w210_4, w210_7, w210_8, w210_9, w210_10, w210_11, w210_14, w210_15, w210_16, w210_17, w210_18, w210_21, w210_22, w210_25, w210_28, w210_29, w210_30, w210_31, w210_32, w210_35, w210_36, w210_37, w210_38, w210_39, w210_42, w210_43, w210_44, w210_45, w210_46, w210_49, w210_50, w210_53, w210_56, w210_57, w210_58, w210_59, w210_60, w210_61, w210_62, w210_65, w210_66, w210_67, w210_68, w210_69, w210_72, w210_73, w210_74, w210_75, w210_76, w210_79, w210_80, w210_81, w210_82, w210_83, w210_86, w210_87, w210_90, w210_92, w210_95, w210_96, w210_97, w210_98, w210_99, w210_102, w210_103, w210_104, w210_105, w210_106, w210_109, w210_110, w210_111, w210_112, w210_113, w210_116, w210_117, w210_118, w210_119, w210_120, w210_123, w210_124, w210_127, w210_129, w210_132, w210_133, w210_136, w210_137, ↓ip_ka0, ↓ip_ki1, ↓ip_ki2, Option.toList_some, List.nil_append, List.cons_append, List.length_nil, List.length_cons, ↓reduceIte, Nat.reduceAdd, Nat.reduceLeDiff, Nat.zero_add, Nat.zero_le, or_true, ip_b_t, gS_108 hG, hG, hq, hi, hj, s_185, s_186, z_w, Nat.add_zero, s_197_0, s_197_1, s_197_2, s_197_3, h1, h2, h3, h4, decide_true, decide_false, Bool.not_false, Bool.and_true]
    · unfold c_sg c_fl at *
      simp (config := { maxSteps := 10000000, maxDischargeDepth := 30, decide := true }) only [w210_0, w210_1, w210_2, w210_3, w210_4, w210_7, w210_8, w210_9, w210_10, w210_11, w210_14, w210_15, w210_16, w210_17, w210_18, w210_21, w210_22, w210_25, w210_28, w210_29, w210_30, w210_31, w210_32, w210_35, w210_36, w210_37, w210_38, w210_39, w210_42, w210_43, w210_44, w210_45, w210_46, w210_49, w210_50, w210_53, w210_56, w210_57, w210_58, w210_59, w210_60, w210_61, w210_62, w210_65, w210_66, w210_67, w210_68, w210_69, w210_72, w210_73, w210_74, w210_75, w210_76, w210_79, w210_80, w210_81, w210_82, w210_83, w210_86, w210_87, w210_90, w210_92, w210_95, w210_96, w210_97, w210_98, w210_99, w210_102, w210_103, w210_104, w210_105, w210_106, w210_109, w210_110, w210_111, w210_112, w210_113, w210_116, w210_117, w210_118, w210_119, w210_120, w210_123, w210_124, w210_127, w210_129, w210_132, w210_133, w210_136, w210_137, ↓ip_ka0, ↓ip_ki1, ↓ip_ki2, Option.toList_some, List.nil_append, List.cons_append, List.length_nil, List.length_cons, ↓reduceIte, Nat.reduceAdd, Nat.reduceLeDiff, Nat.zero_add, Nat.zero_le, or_false, ip_b_f, gS_108 hG, hG, hq, hi, hj, s_185, s_186, z_w, Nat.add_zero, s_197_0, s_197_1, s_197_2, h1, h2, decide_true, decide_false, Bool.and_false, Bool.false_and]
  · unfold c_sg c_fl at *
    simp (config := { maxSteps := 10000000, maxDischargeDepth := 30, decide := true }) only [w210_0, w210_1, w210_2, w210_3, w210_4, w210_7, w210_8, w210_9, w210_10, w210_11, w210_14, w210_15, w210_16, w210_17, w210_18, w210_21, w210_22, w210_25, w210_28, w210_29, w210_30, w210_31, w210_32, w210_35, w210_36, w210_37, w210_38, w210_39, w210_42, w210_43, w210_44, w210_45, w210_46, w210_49, w210_50, w210_53, w210_56, w210_57, w210_58, w210_59, w210_60, w210_61, w210_62, w210_65, w210_66, w210_67, w210_68, w210_69, w210_72, w210_73, w210_74, w210_75, w210_76, w210_79, w210_80, w210_81, w210_82, w210_83, w210_86, w210_87, w210_90, w210_92, w210_95, w210_96, w210_97, w210_98, w210_99, w210_102, w210_103, w210_104, w210_105, w210_106, w210_109, w210_110, w210_111, w210_112, w210_113, w210_116, w210_117, w210_118, w210_119, w210_120, w210_123, w210_124, w210_127, w210_129, w210_132, w210_133, w210_136, w210_137, ↓ip_ka0, ↓ip_ki1, Option.toList_some, List.nil_append, List.cons_append, List.length_nil, List.length_cons, ↓reduceIte, Nat.reduceAdd, Nat.reduceLeDiff, Nat.zero_add, Nat.zero_le, or_false, ip_b_f, gS_108 hG, hG, hq, hi, s_185, s_186, z_w, Nat.add_zero, s_197_0, s_197_1, s_197_2, h1, decide_false, Bool.false_and]

set_option maxHeartbeats 40000000 in
set_option maxRecDepth 100000 in
theorem s_211 (X : ip_X) (M : ip_H) (K : Option Value → ip_H → Prop) (i j : Nat) (w : Int32) (hi : i < 6) (hj : j < 6) (hG : ip_G M) : ip_wp X 211 0 [.ref 108, .int (Int32.ofNat i), .int (Int32.ofNat j), .int w, .retAddr 1] [] M K = K none (c_bg M i j w) := by
  have ni0 : ∀ b, 153 ≤ b → (9 + 4 * i = b) = False := fun b hb => eq_false (by omega)
  have ni1 : ∀ b, 153 ≤ b → (9 + 4 * i + 1 = b) = False := fun b hb => eq_false (by omega)
  have ni2 : ∀ b, 153 ≤ b → (9 + 4 * i + 2 = b) = False := fun b hb => eq_false (by omega)
  have ni3 : ∀ b, 153 ≤ b → (9 + 4 * i + 3 = b) = False := fun b hb => eq_false (by omega)
  have nj0 : ∀ b, 153 ≤ b → (9 + 4 * j = b) = False := fun b hb => eq_false (by omega)
  have nj1 : ∀ b, 153 ≤ b → (9 + 4 * j + 1 = b) = False := fun b hb => eq_false (by omega)
  have nj2 : ∀ b, 153 ≤ b → (9 + 4 * j + 2 = b) = False := fun b hb => eq_false (by omega)
  have nj3 : ∀ b, 153 ≤ b → (9 + 4 * j + 3 = b) = False := fun b hb => eq_false (by omega)
  unfold c_bg
  simp (config := { maxSteps := 10000000, maxDischargeDepth := 30, decide := true }) only [w211_0, w211_1, w211_3, w211_5, w211_6, w211_9, w211_10, w211_13, w211_16, w211_18, w211_19, w211_20, w211_21, w211_23, w211_26, w211_27, w211_28, w211_31, w211_34, w211_36, w211_37, w211_38, w211_39, w211_41, w211_44, w211_45, w211_48, w211_51, w211_52, w211_55, w211_56, w211_57, w211_58, w211_59, w211_62, w211_63, w211_64, w211_65, w211_66, w211_69, w211_70, w211_71, w211_72, w211_73, w211_76, w211_78, w211_79, w211_80, w211_81, w211_84, w211_86, w211_87, w211_88, w211_89, w211_91, w211_93, w211_95, w211_98, w211_99, w211_102, w211_104, w211_106, w211_107, w211_108, w211_111, w211_112, w211_115, w211_116, w211_117, w211_120, w211_123, ↓ip_ka0, ↓ip_ki1, ↓ip_ki2, ↓ip_ki3, ↓ip_ki4, ip_get_0, ip_get_s, ip_set1, ip_clr_s, ip_cat_i, List.set_cons_zero, List.set_cons_succ, ip_uI_I, ip_uI_R, ip_uI_sh, ip_uL_R, ip_uL_sh, ip_vr_some, Option.toList_some, List.nil_append, List.cons_append, List.length_nil, List.length_cons, ↓reduceIte, Nat.reduceAdd, Nat.reduceLeDiff, Nat.reduceEqDiff, Nat.zero_add, and_false, not_false_eq_true, gG_uI, Int32.reduceSub, Int32.reduceAdd, Int32.reduceMul, Int32.reduceToNatClampNeg, ip_ix_eq, Int32.reduceDiv, gS_108 hG, gS_109 hG, gS_110 hG, gR_108_1 hG, gR_108_2 hG, hG, hi, hj, Nat.add_zero, s_197_0, s_197_1, s_197_2, s_197_3, ni0, ni1, ni2, ni3, nj0, nj1, nj2, nj3]

set_option maxHeartbeats 40000000 in
set_option maxRecDepth 100000 in
theorem s_209_0r (X : ip_X) (M : ip_H) (K : Option Value → ip_H → Prop) (i : Nat) (hi : i ≤ 60) (hk : r_k (M.2.1 109) = i) (hG : ip_G M) (hq : q3 (M.2.1 109 1) = true) : ip_wp X 209 0 [.ref 108, .int (Int32.ofNat i), .int 0, .retAddr 1] [] M K = K (some (.int (r_fu (M.2.1 109)))) M := by
  rw [s_209_0 X M K i hi hG hq]
  subst hk
  rfl

set_option maxHeartbeats 40000000 in
set_option maxRecDepth 100000 in
theorem s_209_1r (X : ip_X) (M : ip_H) (K : Option Value → ip_H → Prop) (i : Nat) (hi : i ≤ 60) (hk : r_k (M.2.1 109) = i) (hG : ip_G M) (hq : q3 (M.2.1 109 1) = true) : ip_wp X 209 0 [.ref 108, .int (Int32.ofNat i), .int 1, .retAddr 1] [] M K = K (some (.int (r_fv (M.2.1 109)))) M := by
  rw [s_209_1 X M K i hi hG hq]
  subst hk
  rfl

set_option maxHeartbeats 40000000 in
set_option maxRecDepth 100000 in
theorem s_213a (X : ip_X) (M : ip_H) (K : Option Value → ip_H → Prop) (hG : ip_G M) (hq : q3 (M.2.1 109 1) = true) (hk : M.2.1 109 5 = Int32.ofNat (r_k (M.2.1 109))) (hk6 : r_k (M.2.1 109) ≤ 60) : ip_wp X 213 0 [.ref 108, .retAddr 1, .retAddr 1, .retAddr 1] [] M K = ip_wp X 213 139 [.ref 108, .int (Int32.ofNat (r_k (M.2.1 109))), .retAddr 1, .retAddr 1] [] (c_p0 M (r_fu (M.2.1 109)) (r_fv (M.2.1 109)) (r_f0 (M.2.1 109)) (r_g0 (M.2.1 109))) K := by
  have kr : r_k (M.2.1 109) = r_k (M.2.1 109) := rfl
  have key : ∀ M1, M1 = c_p0 M (r_fu (M.2.1 109)) (r_fv (M.2.1 109)) (r_f0 (M.2.1 109)) (r_g0 (M.2.1 109)) → ip_wp X 213 139 [.ref 108, .int (Int32.ofNat (r_k (M.2.1 109))), .retAddr 1, .retAddr 1] [] M1 K = ip_wp X 213 139 [.ref 108, .int (Int32.ofNat (r_k (M.2.1 109))), .retAddr 1, .retAddr 1] [] (c_p0 M (r_fu (M.2.1 109)) (r_fv (M.2.1 109)) (r_f0 (M.2.1 109)) (r_g0 (M.2.1 109))) K := fun M1 h => by rw [h]
  simp (config := { maxSteps := 10000000, maxDischargeDepth := 30, decide := true }) only [w213_0, w213_1, w213_4, w213_5, w213_6, w213_7, w213_8, w213_9, w213_10, w213_11, w213_14, w213_17, w213_18, w213_19, w213_20, w213_21, w213_24, w213_27, w213_28, w213_29, w213_30, w213_31, w213_34, w213_35, w213_38, w213_39, w213_40, w213_41, w213_42, w213_45, w213_46, w213_47, w213_50, w213_51, w213_52, w213_55, w213_56, w213_57, w213_60, w213_61, w213_62, w213_63, w213_64, w213_67, w213_68, w213_71, w213_72, w213_73, w213_74, w213_75, w213_78, w213_79, w213_82, w213_83, w213_84, w213_85, w213_87, w213_90, w213_91, w213_94, w213_95, w213_96, w213_97, w213_98, w213_101, w213_102, w213_103, w213_106, w213_107, w213_108, w213_111, w213_112, w213_113, w213_116, w213_117, w213_118, w213_119, w213_120, w213_123, w213_124, w213_127, w213_128, w213_129, w213_130, w213_132, w213_135, w213_136, ↓ip_ka0, ↓ip_ki1, ip_set1, ip_clr_s, List.set_cons_zero, List.set_cons_succ, ip_uI_I, ip_uI_sh, ip_uL_I, ip_uL_L, ip_uL_sh, ip_vr_some, Option.toList_some, List.nil_append, List.cons_append, List.length_nil, List.length_cons, ↓reduceIte, Nat.reduceLeDiff, Nat.reduceEqDiff, Nat.zero_add, false_and, not_false_eq_true, gG_uI, gG_uL, Int32.reduceToNatClampNeg, ip_ix_eq, gS_108 hG, gS_109 hG, gR_108_1 hG, hG, hq, hk, hk6, ip_uI_row, s_208_0, s_208_1, s_208_2, s_208_3, s_208_4, s_208_5, s_208_6, s_208_7, s_209_0r, s_209_1r, z_w, ← Int64.ofInt_mul, ← Int64.ofInt_sub]
  apply key
  unfold c_p0 r_f0 r_g0 r_v
  simp (decide := true) only [nf_IL, nf_II, nf_LL, ip_uI_uI, ip_uL_uL, ↓reduceIte, ip_b_t, ip_b_f, Bool.false_eq_true]

set_option maxHeartbeats 40000000 in
set_option maxRecDepth 100000 in
theorem s_213b (X : ip_X) (M : ip_H) (K : Option Value → ip_H → Prop) (fu fv : Int32) (f g : Int × Int × Int × Int) (k : Int32) (hG : ip_G M) (hq : q3 (M.2.1 109 1) = true) (t : Bool) (ht : t = (decide (M.2.1 109 4 = 1) && (r_lt (M.2.1 109 0).toInt (M.2.1 109 1).toInt (M.2.1 109 2).toInt f g))) : ip_wp X 213 139 [.ref 108, .int k, .retAddr 1, .retAddr 1] [] (c_p0 M fu fv f g) K = K none (c_pt M fu fv (ip_b t) (if t = true then g else f) (if t = true then f else g)) := by
  have key : ∀ M1, M1 = c_pt M fu fv (ip_b t) (if t = true then g else f) (if t = true then f else g) → K none M1 = K none (c_pt M fu fv (ip_b t) (if t = true then g else f) (if t = true then f else g)) := fun M1 h => by rw [h]
  obtain ⟨f1, f2, f3, f4⟩ := f
  obtain ⟨g1, g2, g3, g4⟩ := g
  unfold r_lt at ht
  dsimp only at ht
  by_cases h4 : M.2.1 109 4 = 1
  · rw [decide_eq_true h4, Bool.true_and] at ht
    by_cases hl : z_sg (zN (M.2.1 109 0).toInt (M.2.1 109 1).toInt (M.2.1 109 2).toInt (f1 * g4 - g1 * f4) (f2 * g4 - g2 * f4) (f3 * g4 - g3 * f4)) < 0
    · simp (config := { maxSteps := 10000000, maxDischargeDepth := 30, decide := true }) only [w213_139, w213_140, w213_141, w213_144, w213_145, w213_146, w213_147, w213_150, w213_151, w213_152, w213_155, w213_156, w213_159, w213_160, w213_161, w213_164, w213_165, w213_168, w213_169, w213_170, w213_171, w213_174, w213_175, w213_178, w213_179, w213_180, w213_183, w213_184, w213_187, w213_188, w213_189, w213_190, w213_193, w213_194, w213_197, w213_198, w213_199, w213_202, w213_203, w213_206, w213_207, w213_208, w213_211, w213_214, w213_215, w213_218, w213_219, w213_222, w213_223, w213_226, w213_229, w213_230, w213_231, w213_234, w213_235, w213_236, w213_237, w213_240, w213_243, w213_244, w213_245, w213_248, w213_249, w213_252, w213_253, w213_254, w213_255, w213_258, w213_261, w213_262, w213_263, w213_266, w213_267, w213_270, w213_271, w213_272, w213_273, w213_276, w213_279, w213_280, w213_281, w213_284, w213_285, w213_288, w213_289, w213_290, w213_291, w213_294, w213_297, w213_298, w213_299, w213_302, ↓ip_ka0, ↓ip_kl2, ip_get_0, ip_get_s, ip_set2, ip_clr_s, ip_cat_i, List.set_cons_zero, List.set_cons_succ, ip_uI_I, ip_uI_L, ip_uI_sh, ip_uL_L, ip_uL_sh, ip_vr_some, Option.toList_some, List.nil_append, List.cons_append, List.length_nil, List.length_cons, ↓reduceIte, Nat.reduceAdd, Nat.reduceLeDiff, Nat.reduceEqDiff, Nat.zero_add, or_true, Int32.reduceToNatClampNeg, ip_ix_eq, gS_108 hG, gS_109 hG, gR_108_1 hG, hG, hq, gG_p0, c_p0_sh, c_p0_R, c_p0_I, c_p0_L, s_185, ← Int64.ofInt_mul, ← Int64.ofInt_sub, h4, hl]
      apply key
      rw [ht, decide_eq_true hl]
      unfold c_pt c_p0
      simp (decide := true) only [nf_IL, nf_II, nf_LL, ip_uI_uI, ip_uL_uL, ↓reduceIte, ip_b_t, ip_b_f, Bool.false_eq_true]
    · simp (config := { maxSteps := 10000000, maxDischargeDepth := 30, decide := true }) only [w213_139, w213_140, w213_141, w213_144, w213_145, w213_146, w213_147, w213_150, w213_151, w213_152, w213_155, w213_156, w213_159, w213_160, w213_161, w213_164, w213_165, w213_168, w213_169, w213_170, w213_171, w213_174, w213_175, w213_178, w213_179, w213_180, w213_183, w213_184, w213_187, w213_188, w213_189, w213_190, w213_193, w213_194, w213_197, w213_198, w213_199, w213_202, w213_203, w213_206, w213_207, w213_208, w213_211, w213_214, w213_215, w213_218, w213_219, w213_222, w213_223, w213_226, w213_229, w213_230, w213_231, w213_234, w213_235, w213_236, w213_237, w213_240, w213_243, w213_244, w213_245, w213_248, w213_249, w213_252, w213_253, w213_254, w213_255, w213_258, w213_261, w213_262, w213_263, w213_266, w213_267, w213_270, w213_271, w213_272, w213_273, w213_276, w213_279, w213_280, w213_281, w213_284, w213_285, w213_288, w213_289, w213_290, w213_291, w213_294, w213_297, w213_298, w213_299, w213_302, ↓ip_ka0, ip_uI_I, ip_uI_sh, ip_vr_some, Option.toList_some, List.nil_append, List.cons_append, List.length_nil, List.length_cons, ↓reduceIte, Nat.reduceLeDiff, Nat.zero_add, or_false, Int32.reduceToNatClampNeg, ip_ix_eq, gS_108 hG, gS_109 hG, gR_108_1 hG, hG, hq, gG_p0, c_p0_sh, c_p0_R, c_p0_I, c_p0_L, s_185, ← Int64.ofInt_mul, ← Int64.ofInt_sub, h4, hl]
      apply key
      rw [ht, decide_eq_false hl]
      unfold c_pt c_p0
      simp (decide := true) only [nf_IL, nf_II, nf_LL, ip_uI_uI, ip_uL_uL, ↓reduceIte, ip_b_t, ip_b_f, Bool.false_eq_true]
  · rw [decide_eq_false h4, Bool.false_and] at ht
    simp (config := { maxSteps := 10000000, maxDischargeDepth := 30, decide := true }) only [w213_139, w213_140, w213_141, w213_144, w213_145, w213_146, w213_147, w213_150, w213_151, w213_152, w213_155, w213_156, w213_159, w213_160, w213_161, w213_164, w213_165, w213_168, w213_169, w213_170, w213_171, w213_174, w213_175, w213_178, w213_179, w213_180, w213_183, w213_184, w213_187, w213_188, w213_189, w213_190, w213_193, w213_194, w213_197, w213_198, w213_199, w213_202, w213_203, w213_206, w213_207, w213_208, w213_211, w213_214, w213_215, w213_218, w213_219, w213_222, w213_223, w213_226, w213_229, w213_230, w213_231, w213_234, w213_235, w213_236, w213_237, w213_240, w213_243, w213_244, w213_245, w213_248, w213_249, w213_252, w213_253, w213_254, w213_255, w213_258, w213_261, w213_262, w213_263, w213_266, w213_267, w213_270, w213_271, w213_272, w213_273, w213_276, w213_279, w213_280, w213_281, w213_284, w213_285, w213_288, w213_289, w213_290, w213_291, w213_294, w213_297, w213_298, w213_299, w213_302, ↓ip_ka0, ip_uI_I, ip_uI_sh, ip_vr_some, ↓reduceIte, or_false, Int32.reduceToNatClampNeg, ip_ix_eq, gS_108 hG, gS_109 hG, gR_108_1 hG, gG_p0, c_p0_sh, c_p0_R, c_p0_I, c_p0_L, s_185, h4]
    apply key
    rw [ht]
    unfold c_pt c_p0
    simp (decide := true) only [nf_IL, nf_II, nf_LL, ip_uI_uI, ip_uL_uL, ↓reduceIte, ip_b_t, ip_b_f, Bool.false_eq_true]

set_option maxHeartbeats 40000000 in
set_option maxRecDepth 100000 in
theorem s_213 (X : ip_X) (M : ip_H) (K : Option Value → ip_H → Prop) (hG : ip_G M) (hq : q3 (M.2.1 109 1) = true) (hk : M.2.1 109 5 = Int32.ofNat (r_k (M.2.1 109))) (hk6 : r_k (M.2.1 109) ≤ 60) : ip_wp X 213 0 [.ref 108, .retAddr 1, .retAddr 1, .retAddr 1] [] M K = K none (c_pm M) :=
  (s_213a X M K hG hq hk hk6).trans (s_213b X M K _ _ _ _ _ hG hq _ rfl)

set_option maxHeartbeats 40000000 in
set_option maxRecDepth 100000 in
/-- f is 0 -/
def r_e (N : Nat → Int32) : Bool := decide (Int64.ofInt (r_f N).1 = 0) && (decide (Int64.ofInt (r_f N).2.1 = 0) && decide (Int64.ofInt (r_f N).2.2.1 = 0))

set_option maxHeartbeats 40000000 in
set_option maxRecDepth 100000 in
theorem s_214 (X : ip_X) (M : ip_H) (K : Option Value → ip_H → Prop) (hG : ip_G M) (hq : q3 (M.2.1 109 1) = true) (hk : M.2.1 109 5 = Int32.ofNat (r_k (M.2.1 109))) (hk6 : r_k (M.2.1 109) ≤ 60) : ip_wp X 214 0 [.ref 108] [] M K = K (some (.int (ip_b (r_e (M.2.1 109))))) (c_pm M) := by
  unfold r_e
  by_cases h1 : Int64.ofInt (r_f (M.2.1 109)).1 = 0
  · by_cases h2 : Int64.ofInt (r_f (M.2.1 109)).2.1 = 0
    · by_cases h3 : Int64.ofInt (r_f (M.2.1 109)).2.2.1 = 0
      · simp (config := { maxSteps := 10000000, maxDischargeDepth := 30, decide := true }) only [w214_0, w214_1, w214_4, w214_5, w214_8, w214_9, w214_10, w214_13, w214_14, w214_17, w214_18, w214_19, w214_22, w214_23, w214_26, w214_27, w214_28, w214_31, w214_32, w214_35, w214_36, ↓ip_ka0, Option.toList_none, List.nil_append, List.length_nil, ↓reduceIte, Nat.zero_le, or_true, ip_b_t, gS_108 hG, hG, hq, hk, hk6, s_213, c_pm, c_pt_1, c_pt_R, c_pt_sh, gG_pt, c_pt_I, c_pt_L, c_pt_row, h1, h2, h3, decide_true, Bool.and_true]
      · simp (config := { maxSteps := 10000000, maxDischargeDepth := 30, decide := true }) only [w214_0, w214_1, w214_4, w214_5, w214_8, w214_9, w214_10, w214_13, w214_14, w214_17, w214_18, w214_19, w214_22, w214_23, w214_26, w214_27, w214_28, w214_31, w214_32, w214_35, w214_36, ↓ip_ka0, Option.toList_none, List.nil_append, List.length_nil, ↓reduceIte, Nat.zero_le, or_false, ip_b_f, ip_cmp_eq, gS_108 hG, hG, hq, hk, hk6, s_213, c_pm, c_pt_1, c_pt_R, c_pt_sh, gG_pt, c_pt_I, c_pt_L, c_pt_row, h1, h2, h3, decide_true, decide_false, Bool.and_false]
    · simp (config := { maxSteps := 10000000, maxDischargeDepth := 30, decide := true }) only [w214_0, w214_1, w214_4, w214_5, w214_8, w214_9, w214_10, w214_13, w214_14, w214_17, w214_18, w214_19, w214_22, w214_23, w214_26, w214_27, w214_28, w214_31, w214_32, w214_35, w214_36, ↓ip_ka0, Option.toList_none, List.nil_append, List.length_nil, ↓reduceIte, Nat.zero_le, or_false, ip_b_f, ip_cmp_eq, gS_108 hG, hG, hq, hk, hk6, s_213, c_pm, c_pt_1, c_pt_R, c_pt_sh, gG_pt, c_pt_I, c_pt_L, c_pt_row, h1, h2, decide_true, decide_false, Bool.and_false, Bool.false_and]
  · simp (config := { maxSteps := 10000000, maxDischargeDepth := 30, decide := true }) only [w214_0, w214_1, w214_4, w214_5, w214_8, w214_9, w214_10, w214_13, w214_14, w214_17, w214_18, w214_19, w214_22, w214_23, w214_26, w214_27, w214_28, w214_31, w214_32, w214_35, w214_36, ↓ip_ka0, Option.toList_none, List.nil_append, List.length_nil, ↓reduceIte, Nat.zero_le, or_false, ip_b_f, ip_cmp_eq, gS_108 hG, hG, hq, hk, hk6, s_213, c_pm, c_pt_1, c_pt_R, c_pt_sh, gG_pt, c_pt_I, c_pt_L, c_pt_row, h1, decide_false, Bool.false_and]
end
noncomputable section
-- PART 68.ops4
-- THE REFERENCE: squares of digits; the next step tried
def q_pl (B : Bool) (a b : Int64) : Int64 × Bool := (if (B || decide (9223372036854775807 - b < a)) = true then 0 else a + b, B || decide (9223372036854775807 - b < a))
def q_ti (B : Bool) (a b : Int64) : Int64 × Bool := (if (B || (!decide (b = 0) && decide (9223372036854775807 / b < a))) = true then 0 else a * b, B || (!decide (b = 0) && decide (9223372036854775807 / b < a)))
def q_row (B : Bool) (x y z a b : Int64) : Int64 × Bool := q_pl (q_pl (q_ti (q_ti B y a).2 z b).2 (q_ti B y a).1 (q_ti (q_ti B y a).2 z b).1).2 x (q_pl (q_ti (q_ti B y a).2 z b).2 (q_ti B y a).1 (q_ti (q_ti B y a).2 z b).1).1
def b1 (x : Int32) : Bool := decide (x = 1)
def z01 (x : Int32) : Bool := decide (x = 0) || decide (x = 1)
theorem b1_b (c : Bool) : b1 (ip_b c) = c := by cases c <;> rfl
theorem z01_b (c : Bool) : z01 (ip_b c) = true := by cases c <;> rfl
theorem b1_0 : b1 0 = false := by decide
theorem z01_0 : z01 0 = true := by decide
theorem z01_1 : z01 1 = true := by decide
theorem b1_1 : b1 1 = true := by decide
theorem z01_c {x : Int32} (h : z01 x = true) : x = ip_b (b1 x) := by
  unfold z01 at h
  rw [Bool.or_eq_true, decide_eq_true_eq, decide_eq_true_eq] at h
  rcases h with h | h <;> subst h <;> rfl
def q_a (B : Bool) (g : Nat → Int64) (a b : Int64) : Int64 × Bool := q_row B (g 0) (g 1) (g 2) a b
def q_b (B : Bool) (g : Nat → Int64) (a b : Int64) : Int64 × Bool := q_row (q_a B g a b).2 (g 3) (g 4) (g 5) a b
def q_c (B : Bool) (g : Nat → Int64) (a b : Int64) : Int64 × Bool := q_row (q_b B g a b).2 (g 6) (g 7) (g 8) a b
/-- the square of a digit behind g -/
def q_nx (B : Bool) (g : Nat → Int64) (a b : Int64) (t : Bool) (j : Nat) : Int64 := if j = 0 then (if t = true then g 2 else g 1) else if j = 1 then (if t = true then g 1 else g 2) else if j = 2 then (q_a B g a b).1 else if j = 3 then (if t = true then g 5 else g 4) else if j = 4 then (if t = true then g 4 else g 5) else if j = 5 then (q_b B g a b).1 else if j = 6 then (if t = true then g 8 else g 7) else if j = 7 then (if t = true then g 7 else g 8) else (q_c B g a b).1
def c_sq (M : ip_H) (B : Bool) (g : Nat → Int64) (a b : Int64) (t : Bool) : ip_H := ip_uL (ip_uL (ip_uL (ip_uL (ip_uL (ip_uL (ip_uL (ip_uL (ip_uL (ip_uI M 108 29 (ip_b (q_c B g a b).2)) 118 0 (if t = true then g 2 else g 1)) 118 1 (if t = true then g 1 else g 2)) 118 2 (q_a B g a b).1) 118 3 (if t = true then g 5 else g 4)) 118 4 (if t = true then g 4 else g 5)) 118 5 (q_b B g a b).1) 118 6 (if t = true then g 8 else g 7)) 118 7 (if t = true then g 7 else g 8)) 118 8 (q_c B g a b).1
theorem c_sq_1 (M : ip_H) (B : Bool) (g : Nat → Int64) (a b : Int64) (t : Bool) : (c_sq M B g a b t).1 = M.1 := rfl
theorem c_sq_R (M : ip_H) (B : Bool) (g : Nat → Int64) (a b : Int64) (t : Bool) : (c_sq M B g a b t).2.2.2 = M.2.2.2 := rfl
theorem c_sq_sh (M : ip_H) (B : Bool) (g : Nat → Int64) (a b : Int64) (t : Bool) (k : Nat) : ip_sh (c_sq M B g a b t) k = ip_sh M k := rfl
theorem gG_sq (M : ip_H) (B : Bool) (g : Nat → Int64) (a b : Int64) (t : Bool) (h : ip_G M) : ip_G (c_sq M B g a b t) := gG_uL _ _ _ _ (gG_uL _ _ _ _ (gG_uL _ _ _ _ (gG_uL _ _ _ _ (gG_uL _ _ _ _ (gG_uL _ _ _ _ (gG_uL _ _ _ _ (gG_uL _ _ _ _ (gG_uL _ _ _ _ (gG_uI _ _ _ _ h)))))))))
theorem c_sq_I (M : ip_H) (B : Bool) (g : Nat → Int64) (a b : Int64) (t : Bool) (p q : Nat) : (c_sq M B g a b t).2.1 p q = if p = 108 ∧ q = 29 then ip_b (q_c B g a b).2 else M.2.1 p q := rfl
theorem c_sq_L (M : ip_H) (B : Bool) (g : Nat → Int64) (a b : Int64) (t : Bool) (p q : Nat) (h : ¬ p = 118) : (c_sq M B g a b t).2.2.1 p q = M.2.2.1 p q := by
  unfold c_sq
  simp only [ip_uL_L, h, false_and, ↓reduceIte, ip_uI_L]
theorem c_sq_n (M : ip_H) (B : Bool) (g : Nat → Int64) (a b : Int64) (t : Bool) (j : Nat) (h : j < 9) : (c_sq M B g a b t).2.2.1 118 j = q_nx B g a b t j := by
  have hj : j = 0 ∨ j = 1 ∨ j = 2 ∨ j = 3 ∨ j = 4 ∨ j = 5 ∨ j = 6 ∨ j = 7 ∨ j = 8 := by omega
  rcases hj with rfl | rfl | rfl | rfl | rfl | rfl | rfl | rfl | rfl <;> simp (decide := true) only [c_sq, q_nx, ip_uL_L, ↓reduceIte]
theorem ip_cw_c (v : Value) (l : List Value) : ip_cw (v :: l) = v.category + ip_cw l := by unfold ip_cw; simp only [List.map_cons, List.sum_cons]
theorem ip_cw_n : ip_cw [] = 0 := rfl
theorem wp_callV1_3w {X : ip_X} {y pc nx a w : Nat} {v : Value} {ts : List Nat} {ls st : List Value} {M : ip_H} {K : Option Value → ip_H → Prop} {n : Nat} {k : Nat} {v1 v2 : Value} (h : ip_at y pc = some (.invokevirtual n, nx, a, 3, 1, w, v, ts)) (hc : ip_cw st ≤ 8 ∧ (ip_pad [.ref k, v1, v2]).length ≤ ip_ml a ∧ (ip_sh M k).1 = 0 ∧ (ip_sh M k).2.1 = ip_oc a) : ip_wp X y pc ls (v2 :: v1 :: .ref k :: st) M K = ip_wp X a 0 (ip_ent (ip_ml a) [.ref k, v1, v2]) [] M (fun r M1 => ip_wp X y nx ls (r.toList ++ st) M1 K) :=
  wp_call h rfl (by simp) (by simpa using hc.1) (by simpa [ip_rc] using hc.2)
theorem x217_91 (X : ip_X) (ls st : List Value) (M : ip_H) (K : Option Value → ip_H → Prop) (k : Nat) (x0 : Int64) (x1 : Int64) (h0 : ip_cw st ≤ 8) (h1 : (ip_sh M k).1 = 0) (h2 : (ip_sh M k).2.1 = 11) : ip_wp X 217 91 ls (.long x1 :: .long x0 :: .ref k :: st) M K = ip_wp X 216 0 [.ref k, .long x0, .retAddr 1, .long x1, .retAddr 1] [] M (fun r M1 => ip_wp X 217 94 ls (r.toList ++ st) M1 K) := (wp_callV1_3w ((ip_a217 91).trans rfl) ⟨h0, by exact Nat.le_of_ble_eq_true rfl, h1, h2⟩)
theorem x217_103 (X : ip_X) (ls st : List Value) (M : ip_H) (K : Option Value → ip_H → Prop) (k : Nat) (x0 : Int64) (x1 : Int64) (h0 : ip_cw st ≤ 8) (h1 : (ip_sh M k).1 = 0) (h2 : (ip_sh M k).2.1 = 11) : ip_wp X 217 103 ls (.long x1 :: .long x0 :: .ref k :: st) M K = ip_wp X 216 0 [.ref k, .long x0, .retAddr 1, .long x1, .retAddr 1] [] M (fun r M1 => ip_wp X 217 106 ls (r.toList ++ st) M1 K) := (wp_callV1_3w ((ip_a217 103).trans rfl) ⟨h0, by exact Nat.le_of_ble_eq_true rfl, h1, h2⟩)
theorem c_sq_row (M : ip_H) (B : Bool) (g : Nat → Int64) (a b : Int64) (t : Bool) : (c_sq M B g a b t).2.1 109 = M.2.1 109 := by
  funext b
  rw [c_sq_I, if_neg (by omega)]

set_option maxHeartbeats 40000000 in
set_option maxRecDepth 100000 in
theorem s_215 (X : ip_X) (M : ip_H) (K : Option Value → ip_H → Prop) (a b : Int64) (h01 : z01 (M.2.1 108 29) = true) (hG : ip_G M) : ip_wp X 215 0 [.ref 108, .long a, .retAddr 1, .long b, .retAddr 1] [] M K = K (some (.long (q_pl (b1 (M.2.1 108 29)) a b).1)) (ip_uI M 108 29 (ip_b (q_pl (b1 (M.2.1 108 29)) a b).2)) := by
  have hc := z01_c h01
  generalize b1 (M.2.1 108 29) = B at hc ⊢
  unfold q_pl
  by_cases h : 9223372036854775807 - b < a
  · simp only [decide_eq_true h, Bool.not_false, Bool.true_and, Bool.or_true, ↓reduceIte, ip_b_t]
    simp (config := { maxSteps := 10000000, maxDischargeDepth := 30, decide := true }) only [w215_0, w215_1, w215_4, w215_5, w215_6, w215_7, w215_10, w215_11, w215_12, w215_15, w215_16, w215_19, w215_22, w215_23, w215_26, w215_27, w215_28, w215_29, ↓ip_ka0, ↓ip_kl1, ↓ip_kl3, ip_uI_I, ip_uI_sh, ↓reduceIte, or_true, ip_b_t, ip_b_f, ip_cmp_gt, gS_108 hG, h]
  · simp only [decide_eq_false h, Bool.and_false, Bool.or_false]
    rw [ip_uI_id hc]
    cases B <;> (simp (config := { maxSteps := 10000000, maxDischargeDepth := 30, decide := true }) only [w215_0, w215_1, w215_4, w215_5, w215_6, w215_7, w215_10, w215_11, w215_12, w215_15, w215_16, w215_19, w215_22, w215_23, w215_26, w215_27, w215_28, w215_29, ↓ip_ka0, ↓ip_kl1, ↓ip_kl3, ip_uI_I, ip_uI_sh, ↓reduceIte, or_true, ip_b_t, ip_b_f, ip_cmp_gt, gS_108 hG, hc, h])

set_option maxHeartbeats 40000000 in
set_option maxRecDepth 100000 in
theorem s_216 (X : ip_X) (M : ip_H) (K : Option Value → ip_H → Prop) (a b : Int64) (h01 : z01 (M.2.1 108 29) = true) (hG : ip_G M) : ip_wp X 216 0 [.ref 108, .long a, .retAddr 1, .long b, .retAddr 1] [] M K = K (some (.long (q_ti (b1 (M.2.1 108 29)) a b).1)) (ip_uI M 108 29 (ip_b (q_ti (b1 (M.2.1 108 29)) a b).2)) := by
  have hc := z01_c h01
  generalize b1 (M.2.1 108 29) = B at hc ⊢
  unfold q_ti
  by_cases h0 : b = 0
  · simp only [decide_eq_true h0, Bool.not_true, Bool.false_and, Bool.or_false]
    rw [ip_uI_id hc]
    cases B <;> (simp (config := { maxSteps := 10000000, maxDischargeDepth := 30, decide := true }) only [w216_0, w216_1, w216_2, w216_3, w216_6, w216_7, w216_10, w216_11, w216_12, w216_13, w216_16, w216_17, w216_18, w216_21, w216_22, w216_25, w216_28, w216_29, w216_32, w216_33, w216_34, w216_35, ↓ip_ka0, ↓ip_kl1, ↓ip_kl3, ip_uI_I, ip_uI_sh, ↓reduceIte, or_true, not_false_eq_true, ip_b_t, ip_b_f, ip_cmp_gt, ip_cmp_eq, gS_108 hG, hc, h0])
  by_cases h : 9223372036854775807 / b < a
  · simp only [decide_eq_false h0, decide_eq_true h, Bool.not_false, Bool.true_and, Bool.or_true, ↓reduceIte, ip_b_t]
    simp (config := { maxSteps := 10000000, maxDischargeDepth := 30, decide := true }) only [w216_0, w216_1, w216_2, w216_3, w216_6, w216_7, w216_10, w216_11, w216_12, w216_13, w216_16, w216_17, w216_18, w216_21, w216_22, w216_25, w216_28, w216_29, w216_32, w216_33, w216_34, w216_35, ↓ip_ka0, ↓ip_kl1, ↓ip_kl3, ip_uI_I, ip_uI_sh, ↓reduceIte, or_true, not_false_eq_true, ip_b_t, ip_b_f, ip_cmp_gt, ip_cmp_eq, gS_108 hG, h, h0]
  · simp only [decide_eq_false h0, decide_eq_false h, Bool.and_false, Bool.or_false]
    rw [ip_uI_id hc]
    cases B <;> (simp (config := { maxSteps := 10000000, maxDischargeDepth := 30, decide := true }) only [w216_0, w216_1, w216_2, w216_3, w216_6, w216_7, w216_10, w216_11, w216_12, w216_13, w216_16, w216_17, w216_18, w216_21, w216_22, w216_25, w216_28, w216_29, w216_32, w216_33, w216_34, w216_35, ↓ip_ka0, ↓ip_kl1, ↓ip_kl3, ip_uI_I, ip_uI_sh, ↓reduceIte, or_true, not_false_eq_true, ip_b_t, ip_b_f, ip_cmp_gt, ip_cmp_eq, gS_108 hG, hc, h, h0])

set_option maxHeartbeats 40000000 in
set_option maxRecDepth 100000 in
theorem s_217_110 (X : ip_X) (M : ip_H) (K : Option Value → ip_H → Prop) (a b t : Int32) (hz : z01 t = true) (h01 : z01 (M.2.1 108 29) = true) (hG : ip_G M) : ip_wp X 217 0 [.ref 108, .ref 110, .int a, .int b, .int t, .retAddr 1] [] M K = K none (c_sq M (b1 (M.2.1 108 29)) (M.2.2.1 110) a.toInt64 b.toInt64 (b1 t)) := by
  have ht := z01_c hz
  clear hz
  have key : ∀ M1, M1 = c_sq M (b1 (M.2.1 108 29)) (M.2.2.1 110) a.toInt64 b.toInt64 (b1 t) → K none M1 = K none (c_sq M (b1 (M.2.1 108 29)) (M.2.2.1 110) a.toInt64 b.toInt64 (b1 t)) := fun M1 h => by rw [h]
  generalize b1 t = T at ht key ⊢
  subst ht
  cases T
  all_goals (simp (config := { maxSteps := 10000000, maxDischargeDepth := 30, decide := true }) only [w217_0, w217_1, w217_3, w217_5, w217_7, w217_10, w217_11, w217_14, w217_16, w217_18, w217_19, w217_22, w217_23, w217_25, w217_26, w217_27, w217_28, w217_31, w217_32, w217_34, w217_35, w217_36, w217_37, w217_38, w217_39, w217_42, w217_44, w217_45, w217_46, w217_48, w217_49, w217_52, w217_53, w217_55, w217_56, w217_57, w217_58, w217_61, w217_62, w217_64, w217_65, w217_66, w217_67, w217_68, w217_69, w217_72, w217_74, w217_75, w217_76, w217_77, w217_78, w217_80, w217_81, w217_82, w217_83, w217_84, w217_86, w217_87, w217_88, w217_89, w217_90, w217_94, w217_95, w217_96, w217_98, w217_99, w217_100, w217_101, w217_102, w217_106, w217_109, w217_112, w217_113, w217_116, w217_119, x217_91, x217_103, ↓ip_ka0, ↓ip_ka1, ↓ip_ki2, ↓ip_ki3, ↓ip_ki4, ↓ip_ki5, ip_get_0, ip_get_s, ip_set1, ip_clr_s, ip_cat_i, ip_cat_l, ip_cat_r, List.set_cons_zero, List.set_cons_succ, ip_uI_I, ip_uI_L, ip_uI_R, ip_uI_sh, ip_uL_I, ip_uL_L, ip_uL_R, ip_uL_sh, ip_vr_some, Option.toList_some, List.nil_append, List.cons_append, List.length_nil, List.length_cons, ↓reduceIte, Nat.reduceAdd, Nat.reduceLeDiff, Nat.reduceEqDiff, Nat.zero_add, gG_uI, gG_uL, ip_b_t, ip_b_f, Int32.reduceAdd, Int32.reduceToNatClampNeg, ip_ix_eq, gS_108 hG, gS_110 hG, gS_118 hG, gS_123 hG, gR_108_28 hG, hG, h01, s_215, s_216, b1_b, z01_b, ip_cw_c, ip_cw_n])
  all_goals (apply key)
  all_goals (unfold c_sq q_c q_b q_a q_row)
  all_goals (simp (decide := true) only [nf_IL, nf_II, nf_LL, ip_uI_uI, ip_uL_uL, ↓reduceIte, Bool.false_eq_true])

set_option maxHeartbeats 40000000 in
set_option maxRecDepth 100000 in
theorem s_217_123 (X : ip_X) (M : ip_H) (K : Option Value → ip_H → Prop) (a b t : Int32) (hz : z01 t = true) (h01 : z01 (M.2.1 108 29) = true) (hG : ip_G M) : ip_wp X 217 0 [.ref 108, .ref 123, .int a, .int b, .int t, .retAddr 1] [] M K = K none (c_sq M (b1 (M.2.1 108 29)) (M.2.2.1 123) a.toInt64 b.toInt64 (b1 t)) := by
  have ht := z01_c hz
  clear hz
  have key : ∀ M1, M1 = c_sq M (b1 (M.2.1 108 29)) (M.2.2.1 123) a.toInt64 b.toInt64 (b1 t) → K none M1 = K none (c_sq M (b1 (M.2.1 108 29)) (M.2.2.1 123) a.toInt64 b.toInt64 (b1 t)) := fun M1 h => by rw [h]
  generalize b1 t = T at ht key ⊢
  subst ht
  cases T
  all_goals (simp (config := { maxSteps := 10000000, maxDischargeDepth := 30, decide := true }) only [w217_0, w217_1, w217_3, w217_5, w217_7, w217_10, w217_11, w217_14, w217_16, w217_18, w217_19, w217_22, w217_23, w217_25, w217_26, w217_27, w217_28, w217_31, w217_32, w217_34, w217_35, w217_36, w217_37, w217_38, w217_39, w217_42, w217_44, w217_45, w217_46, w217_48, w217_49, w217_52, w217_53, w217_55, w217_56, w217_57, w217_58, w217_61, w217_62, w217_64, w217_65, w217_66, w217_67, w217_68, w217_69, w217_72, w217_74, w217_75, w217_76, w217_77, w217_78, w217_80, w217_81, w217_82, w217_83, w217_84, w217_86, w217_87, w217_88, w217_89, w217_90, w217_94, w217_95, w217_96, w217_98, w217_99, w217_100, w217_101, w217_102, w217_106, w217_109, w217_112, w217_113, w217_116, w217_119, x217_91, x217_103, ↓ip_ka0, ↓ip_ka1, ↓ip_ki2, ↓ip_ki3, ↓ip_ki4, ↓ip_ki5, ip_get_0, ip_get_s, ip_set1, ip_clr_s, ip_cat_i, ip_cat_l, ip_cat_r, List.set_cons_zero, List.set_cons_succ, ip_uI_I, ip_uI_L, ip_uI_R, ip_uI_sh, ip_uL_I, ip_uL_L, ip_uL_R, ip_uL_sh, ip_vr_some, Option.toList_some, List.nil_append, List.cons_append, List.length_nil, List.length_cons, ↓reduceIte, Nat.reduceAdd, Nat.reduceLeDiff, Nat.reduceEqDiff, Nat.zero_add, gG_uI, gG_uL, ip_b_t, Int32.reduceAdd, Int32.reduceToNatClampNeg, ip_ix_eq, gS_108 hG, gS_118 hG, gS_123 hG, gR_108_28 hG, hG, h01, s_215, s_216, b1_b, z01_b, ip_cw_c, ip_cw_n])
  all_goals (apply key)
  all_goals (unfold c_sq q_c q_b q_a q_row)
  all_goals (simp (decide := true) only [nf_IL, nf_II, nf_LL, ip_uI_uI, ip_uL_uL, ↓reduceIte, Bool.false_eq_true])
end
noncomputable section
-- PART 69.ops5
-- THE REFERENCE: the next step tried, done
def s_I (a b : Nat) : Bool := (a == 108 && (b == 17 || (b == 18 || (b == 27 || b == 29)))) || a == 119
def s_L (a b : Nat) : Bool := (a == 108 && (decide (13 ≤ b) && decide (b ≤ 26))) || a == 118
/-- alike but for what is reckoned aside -/
def scr (M M1 : ip_H) : Prop := M1.1 = M.1 ∧ M1.2.2.2 = M.2.2.2 ∧ (∀ a b, s_I a b = false → M1.2.1 a b = M.2.1 a b) ∧ ∀ a b, s_L a b = false → M1.2.2.1 a b = M.2.2.1 a b
theorem scr_r (M : ip_H) : scr M M := ⟨rfl, rfl, fun _ _ _ => rfl, fun _ _ _ => rfl⟩
theorem scr_t {M M1 M2 : ip_H} (h : scr M M1) (g : scr M1 M2) : scr M M2 := ⟨g.1.trans h.1, g.2.1.trans h.2.1, fun a b q => (g.2.2.1 a b q).trans (h.2.2.1 a b q), fun a b q => (g.2.2.2 a b q).trans (h.2.2.2 a b q)⟩
theorem scr_uI {M N : ip_H} {k j : Nat} {v : Int32} (h : scr M N) (q : s_I k j = true) : scr M (ip_uI N k j v) := by
  refine ⟨h.1, h.2.1, fun a b hab => ?_, h.2.2.2⟩
  rw [ip_uI_I, if_neg, h.2.2.1 a b hab]
  rintro ⟨rfl, rfl⟩
  rw [q] at hab
  cases hab
theorem scr_uL {M N : ip_H} {k j : Nat} {v : Int64} (h : scr M N) (q : s_L k j = true) : scr M (ip_uL N k j v) := by
  refine ⟨h.1, h.2.1, h.2.2.1, fun a b hab => ?_⟩
  rw [ip_uL_L, if_neg, h.2.2.2 a b hab]
  rintro ⟨rfl, rfl⟩
  rw [q] at hab
  cases hab
theorem scr_x4 {M N : ip_H} {a b c d : Int} (h : scr M N) : scr M (ip_x4 N a b c d) := scr_uL (scr_uL (scr_uL (scr_uL h rfl) rfl) rfl) rfl
theorem scr_pt {M N : ip_H} {fu fv t : Int32} {f g : Int × Int × Int × Int} (h : scr M N) : scr M (c_pt N fu fv t f g) := scr_uL (scr_uL (scr_uL (scr_uL (scr_uL (scr_uL (scr_uL (scr_uL (scr_uI (scr_uI (scr_uI h rfl) rfl) rfl) rfl) rfl) rfl) rfl) rfl) rfl) rfl) rfl
theorem scr_sq {M N : ip_H} {B : Bool} {g : Nat → Int64} {a b : Int64} {t : Bool} (h : scr M N) : scr M (c_sq N B g a b t) := scr_uL (scr_uL (scr_uL (scr_uL (scr_uL (scr_uL (scr_uL (scr_uL (scr_uL (scr_uI h rfl) rfl) rfl) rfl) rfl) rfl) rfl) rfl) rfl) rfl
theorem scr_G {M M1 : ip_H} (h : scr M M1) (hG : ip_G M) : ip_G M1 := ⟨h.1.trans hG.1, fun k j a b => by rw [h.2.1]; exact hG.2 k j a b⟩
theorem scr_row {M M1 : ip_H} (h : scr M M1) : M1.2.1 109 = M.2.1 109 := funext fun b => h.2.2.1 109 b rfl
theorem scr_110 {M M1 : ip_H} (h : scr M M1) : M1.2.2.1 110 = M.2.2.1 110 := funext fun b => h.2.2.2 110 b rfl
/-- four of what comes -/
def c_cm (M : ip_H) (f : Nat) (a b c d : Int32) : ip_H := ip_uI (ip_uI (ip_uI (ip_uI M 119 f a) 119 (f + 1) b) 119 (f + 2) c) 119 (f + 3) d
theorem c_cm_I (M : ip_H) (f : Nat) (a b c d : Int32) (p q : Nat) : (c_cm M f a b c d).2.1 p q = if p = 119 ∧ q = f + 3 then d else if p = 119 ∧ q = f + 2 then c else if p = 119 ∧ q = f + 1 then b else if p = 119 ∧ q = f then a else M.2.1 p q := rfl
theorem c_cm_L (M : ip_H) (f : Nat) (a b c d : Int32) : (c_cm M f a b c d).2.2.1 = M.2.2.1 := rfl
theorem scr_cm {M N : ip_H} {f : Nat} {a b c d : Int32} (h : scr M N) : scr M (c_cm N f a b c d) := scr_uI (scr_uI (scr_uI (scr_uI h (by unfold s_I; simp)) (by unfold s_I; simp)) (by unfold s_I; simp)) (by unfold s_I; simp)
def c_nz (f : Int × Int × Int × Int) : Prop := ¬ (f.1 = 0 ∧ f.2.1 = 0 ∧ f.2.2.1 = 0)
/-- the bounds of what is left over -/
def c_fb (f : Int × Int × Int × Int) : Prop := zb 20000 f.1 ∧ zb 200 f.2.1 ∧ zb 200 f.2.2.1 ∧ 1 ≤ f.2.2.2 ∧ f.2.2.2 ≤ 150
def zQ4 (p q r : Int) (g f : Int × Int × Int × Int) : Int × Int × Int × Int := zl (zQ p q r g.1 g.2.1 g.2.2.1 g.2.2.2 f.1 f.2.1 f.2.2.1 f.2.2.2)
/-- a value can be, its floor is 99 at most -/
def z_nxt (p q r : Int) (z : Int × Int × Int × Int) : Bool := zcan z && !decide (99 < c_f4 p q r z)
theorem c_x4_sh (M : ip_H) (z : Int × Int × Int × Int) (k : Nat) : ip_sh (c_x4 M z) k = ip_sh M k := rfl
theorem c_pt_110 (M : ip_H) (fu fv t : Int32) (f g : Int × Int × Int × Int) : (c_pt M fu fv t f g).2.2.1 110 = M.2.2.1 110 := by
  funext b
  rw [c_pt_L, if_neg (by omega), if_neg (by omega), if_neg (by omega), if_neg (by omega), if_neg (by omega), if_neg (by omega), if_neg (by omega), if_neg (by omega)]
theorem zQ4_b {p q r : Int} {g f : Int × Int × Int × Int} (hF : zF p q r = true) (hg : c_fb g) (hf : c_fb f) (h0 : c_nz f) : zb 13500000000000000 (zQ4 p q r g f).1 ∧ zb 13500000000000000 (zQ4 p q r g f).2.1 ∧ zb 13500000000000000 (zQ4 p q r g f).2.2.1 ∧ zb 13500000000000000 (zQ4 p q r g f).2.2.2 ∧ 1 ≤ (zQ4 p q r g f).2.2.2 := by
  obtain ⟨a1, a2, a3, a4, a5⟩ := hg
  obtain ⟨b1, b2, b3, b4, b5⟩ := hf
  obtain ⟨c1, c2, c3, c4, c5⟩ := zQ_b hF a1 a2 a3 ⟨a4, a5⟩ ⟨b4, b5⟩ b1 b2 b3 h0
  obtain ⟨g1, g2, g3, g4⟩ := zl_b c1 c2 c3 c4
  exact ⟨g1, g2, g3, g4, zl_d c5⟩

set_option maxHeartbeats 40000000 in
set_option maxRecDepth 100000 in
theorem s_218_0 (X : ip_X) (M : ip_H) (K : Option Value → ip_H → Prop) (z : Int × Int × Int × Int) (g1 : zb 13500000000000000 z.1) (g2 : zb 13500000000000000 z.2.1) (g3 : zb 13500000000000000 z.2.2.1) (g4 : zb 13500000000000000 z.2.2.2) (hG : ip_G M) (hq : q3 (M.2.1 109 1) = true) : ip_wp X 218 0 [.ref 108, .int 0] [] (c_x4 M z) K = if z_nxt (M.2.1 109 0).toInt (M.2.1 109 1).toInt (M.2.1 109 2).toInt z = true then K (some (.int 1)) (c_cm (c_x4 M z) 0 (Int32.ofInt z.1) (Int32.ofInt z.2.1) (Int32.ofInt z.2.2.1) (Int32.ofInt z.2.2.2)) else K (some (.int 0)) (c_x4 M z) := by
  unfold z_nxt c_cm c_x4
  cases hc : zcan z
  · have hc' := hc
    unfold zcan at hc'
    simp (config := { maxSteps := 10000000, maxDischargeDepth := 30, decide := true }) only [w218_0, w218_1, w218_4, w218_7, w218_8, w218_9, w218_12, w218_13, w218_16, w218_17, w218_20, w218_21, w218_24, w218_27, w218_29, w218_32, w218_33, w218_34, w218_35, w218_38, w218_39, w218_40, w218_43, w218_44, w218_45, w218_46, w218_49, w218_50, w218_51, w218_52, w218_53, w218_56, w218_57, w218_58, w218_59, w218_62, w218_63, w218_64, w218_65, w218_66, w218_69, w218_70, w218_71, w218_72, w218_75, w218_76, w218_77, w218_78, w218_79, w218_82, w218_83, w218_84, w218_85, ↓ip_ka0, Option.toList_some, List.nil_append, List.cons_append, List.length_nil, ↓reduceIte, Nat.zero_le, or_false, ip_b_f, gS_108 hG, hG, s_190, hc', Bool.false_and, Bool.false_eq_true, ip_x4_sh, gG_x4, ip_x4_L]
  · unfold zcan at hc
    by_cases hl : 99 < c_f4 (M.2.1 109 0).toInt (M.2.1 109 1).toInt (M.2.1 109 2).toInt z
    · have hl' := hl
      unfold c_f4 at hl'
      simp (config := { maxSteps := 10000000, maxDischargeDepth := 30, decide := true }) only [w218_0, w218_1, w218_4, w218_7, w218_8, w218_9, w218_12, w218_13, w218_16, w218_17, w218_20, w218_21, w218_24, w218_27, w218_29, w218_32, w218_33, w218_34, w218_35, w218_38, w218_39, w218_40, w218_43, w218_44, w218_45, w218_46, w218_49, w218_50, w218_51, w218_52, w218_53, w218_56, w218_57, w218_58, w218_59, w218_62, w218_63, w218_64, w218_65, w218_66, w218_69, w218_70, w218_71, w218_72, w218_75, w218_76, w218_77, w218_78, w218_79, w218_82, w218_83, w218_84, w218_85, ↓ip_ka0, Option.toList_some, List.nil_append, List.cons_append, List.length_nil, ↓reduceIte, Nat.zero_le, or_false, ip_b_t, gS_108 hG, hG, hq, s_190, s_186, hc, hl, hl', decide_true, Bool.not_true, Bool.and_false, Bool.false_eq_true, ip_x4_I, ip_x4_sh, gG_x4, ip_x4_L]
    · have hl' := hl
      unfold c_f4 at hl'
      simp (config := { maxSteps := 10000000, maxDischargeDepth := 30, decide := true }) only [w218_0, w218_1, w218_4, w218_7, w218_8, w218_9, w218_12, w218_13, w218_16, w218_17, w218_20, w218_21, w218_24, w218_27, w218_29, w218_32, w218_33, w218_34, w218_35, w218_38, w218_39, w218_40, w218_43, w218_44, w218_45, w218_46, w218_49, w218_50, w218_51, w218_52, w218_53, w218_56, w218_57, w218_58, w218_59, w218_62, w218_63, w218_64, w218_65, w218_66, w218_69, w218_70, w218_71, w218_72, w218_75, w218_76, w218_77, w218_78, w218_79, w218_82, w218_83, w218_84, w218_85, ↓ip_ka0, ↓ip_ki1, ip_uI_L, ip_uI_R, ip_uI_sh, ip_vr_some, Option.toList_some, List.nil_append, List.cons_append, List.length_nil, ↓reduceIte, Nat.zero_add, Nat.zero_le, or_true, ip_b_t, Int32.reduceAdd, Int32.reduceToNatClampNeg, ip_ix_eq, gS_108 hG, gS_119 hG, gR_108_30 hG, hG, hq, s_190, s_186, z_l2i, hc, hl, hl', decide_false, Bool.not_false, Bool.and_true, ip_x4_I, ip_x4_R, ip_x4_sh, gG_x4, ip_x4_L]

set_option maxHeartbeats 40000000 in
set_option maxRecDepth 100000 in
theorem s_218_4 (X : ip_X) (M : ip_H) (K : Option Value → ip_H → Prop) (z : Int × Int × Int × Int) (g1 : zb 13500000000000000 z.1) (g2 : zb 13500000000000000 z.2.1) (g3 : zb 13500000000000000 z.2.2.1) (g4 : zb 13500000000000000 z.2.2.2) (hG : ip_G M) (hq : q3 (M.2.1 109 1) = true) : ip_wp X 218 0 [.ref 108, .int 4] [] (c_x4 M z) K = if z_nxt (M.2.1 109 0).toInt (M.2.1 109 1).toInt (M.2.1 109 2).toInt z = true then K (some (.int 1)) (c_cm (c_x4 M z) 4 (Int32.ofInt z.1) (Int32.ofInt z.2.1) (Int32.ofInt z.2.2.1) (Int32.ofInt z.2.2.2)) else K (some (.int 0)) (c_x4 M z) := by
  unfold z_nxt c_cm c_x4
  cases hc : zcan z
  · have hc' := hc
    unfold zcan at hc'
    simp (config := { maxSteps := 10000000, maxDischargeDepth := 30, decide := true }) only [w218_0, w218_1, w218_4, w218_7, w218_8, w218_9, w218_12, w218_13, w218_16, w218_17, w218_20, w218_21, w218_24, w218_27, w218_29, w218_32, w218_33, w218_34, w218_35, w218_38, w218_39, w218_40, w218_43, w218_44, w218_45, w218_46, w218_49, w218_50, w218_51, w218_52, w218_53, w218_56, w218_57, w218_58, w218_59, w218_62, w218_63, w218_64, w218_65, w218_66, w218_69, w218_70, w218_71, w218_72, w218_75, w218_76, w218_77, w218_78, w218_79, w218_82, w218_83, w218_84, w218_85, ↓ip_ka0, Option.toList_some, List.nil_append, List.cons_append, List.length_nil, ↓reduceIte, Nat.zero_le, or_false, ip_b_f, gS_108 hG, hG, s_190, hc', Bool.false_and, Bool.false_eq_true, ip_x4_sh, gG_x4, ip_x4_L]
  · unfold zcan at hc
    by_cases hl : 99 < c_f4 (M.2.1 109 0).toInt (M.2.1 109 1).toInt (M.2.1 109 2).toInt z
    · have hl' := hl
      unfold c_f4 at hl'
      simp (config := { maxSteps := 10000000, maxDischargeDepth := 30, decide := true }) only [w218_0, w218_1, w218_4, w218_7, w218_8, w218_9, w218_12, w218_13, w218_16, w218_17, w218_20, w218_21, w218_24, w218_27, w218_29, w218_32, w218_33, w218_34, w218_35, w218_38, w218_39, w218_40, w218_43, w218_44, w218_45, w218_46, w218_49, w218_50, w218_51, w218_52, w218_53, w218_56, w218_57, w218_58, w218_59, w218_62, w218_63, w218_64, w218_65, w218_66, w218_69, w218_70, w218_71, w218_72, w218_75, w218_76, w218_77, w218_78, w218_79, w218_82, w218_83, w218_84, w218_85, ↓ip_ka0, Option.toList_some, List.nil_append, List.cons_append, List.length_nil, ↓reduceIte, Nat.zero_le, or_false, ip_b_t, gS_108 hG, hG, hq, s_190, s_186, hc, hl, hl', decide_true, Bool.not_true, Bool.and_false, Bool.false_eq_true, ip_x4_I, ip_x4_sh, gG_x4, ip_x4_L]
    · have hl' := hl
      unfold c_f4 at hl'
      simp (config := { maxSteps := 10000000, maxDischargeDepth := 30, decide := true }) only [w218_0, w218_1, w218_4, w218_7, w218_8, w218_9, w218_12, w218_13, w218_16, w218_17, w218_20, w218_21, w218_24, w218_27, w218_29, w218_32, w218_33, w218_34, w218_35, w218_38, w218_39, w218_40, w218_43, w218_44, w218_45, w218_46, w218_49, w218_50, w218_51, w218_52, w218_53, w218_56, w218_57, w218_58, w218_59, w218_62, w218_63, w218_64, w218_65, w218_66, w218_69, w218_70, w218_71, w218_72, w218_75, w218_76, w218_77, w218_78, w218_79, w218_82, w218_83, w218_84, w218_85, ↓ip_ka0, ↓ip_ki1, ip_uI_L, ip_uI_R, ip_uI_sh, ip_vr_some, Option.toList_some, List.nil_append, List.cons_append, List.length_nil, ↓reduceIte, Nat.reduceAdd, Nat.zero_le, or_true, ip_b_t, Int32.reduceAdd, Int32.reduceToNatClampNeg, ip_ix_eq, gS_108 hG, gS_119 hG, gR_108_30 hG, hG, hq, s_190, s_186, z_l2i, hc, hl, hl', decide_false, Bool.not_false, Bool.and_true, ip_x4_I, ip_x4_R, ip_x4_sh, gG_x4, ip_x4_L]

set_option maxHeartbeats 40000000 in
set_option maxRecDepth 100000 in
theorem s_219a (X : ip_X) (M : ip_H) (K : Option Value → ip_H → Prop) (hG : ip_G M) (hq : q3 (M.2.1 109 1) = true) (hk : M.2.1 109 5 = Int32.ofNat (r_k (M.2.1 109))) (hk6 : r_k (M.2.1 109) ≤ 60) (n60 : r_k (M.2.1 109) ≠ 60) (hB : (q_c false (M.2.2.1 110) (r_fu (M.2.1 109)).toInt64 (r_fv (M.2.1 109)).toInt64).2 = true) : ip_wp X 219 0 [.ref 108] [] M K = K (some (.int 0)) (c_sq (ip_uI (c_pm M) 108 29 0) false (M.2.2.1 110) (r_fu (M.2.1 109)).toInt64 (r_fv (M.2.1 109)).toInt64 (r_t (M.2.1 109))) := by
  have e60 : (Int32.ofNat (r_k (M.2.1 109)) = 60) = False := by rw [show (60 : Int32) = Int32.ofNat 60 from rfl, ip_neq _ _ (by omega) (by decide)]; exact eq_false n60
  unfold c_pm
  cases ht : r_t (M.2.1 109) <;> simp (config := { maxSteps := 10000000, maxDischargeDepth := 30, decide := true }) only [w219_0, w219_1, w219_4, w219_5, w219_6, w219_8, w219_11, w219_12, w219_13, w219_14, w219_17, w219_18, w219_19, w219_22, w219_23, w219_24, w219_27, w219_28, w219_31, w219_32, w219_35, w219_36, w219_39, w219_42, w219_43, w219_46, w219_47, w219_50, w219_51, w219_54, w219_57, w219_58, ↓ip_ka0, ip_uI_I, ip_uI_L, ip_uI_R, ip_uI_sh, ip_vr_some, Option.toList_none, List.nil_append, List.length_nil, ↓reduceIte, Nat.zero_le, or_false, gG_uI, ip_b_t, ip_b_f, Int32.reduceToNatClampNeg, ip_ix_eq, gS_108 hG, gS_109 hG, gR_108_1 hG, gR_108_2 hG, hG, hq, hk6, s_213, hk, e60, s_217_110, c_pm, b1_b, b1_0, b1_1, z01_0, z01_1, z01_b, hB, ht, ip_uI_row, c_pt_110, c_pt_1, c_pt_R, c_pt_sh, gG_pt, c_pt_I, c_pt_L, c_pt_row, c_sq_1, c_sq_R, c_sq_sh, gG_sq, c_sq_I, c_sq_L, c_sq_row]

set_option maxHeartbeats 40000000 in
set_option maxRecDepth 100000 in
theorem s_219b (X : ip_X) (M : ip_H) (K : Option Value → ip_H → Prop) (hG : ip_G M) (hq : q3 (M.2.1 109 1) = true) (hk : M.2.1 109 5 = Int32.ofNat (r_k (M.2.1 109))) (hk6 : r_k (M.2.1 109) ≤ 60) (n60 : r_k (M.2.1 109) ≠ 60) (hB : (q_c false (M.2.2.1 110) (r_fu (M.2.1 109)).toInt64 (r_fv (M.2.1 109)).toInt64).2 = false) : ip_wp X 219 0 [.ref 108] [] M K = ip_wp X 219 59 [.ref 108] [] (c_sq (ip_uI (c_pm M) 108 29 0) false (M.2.2.1 110) (r_fu (M.2.1 109)).toInt64 (r_fv (M.2.1 109)).toInt64 (r_t (M.2.1 109))) K := by
  have e60 : (Int32.ofNat (r_k (M.2.1 109)) = 60) = False := by rw [show (60 : Int32) = Int32.ofNat 60 from rfl, ip_neq _ _ (by omega) (by decide)]; exact eq_false n60
  unfold c_pm
  cases ht : r_t (M.2.1 109) <;> simp (config := { maxSteps := 10000000, maxDischargeDepth := 30, decide := true }) only [w219_0, w219_1, w219_4, w219_5, w219_6, w219_8, w219_11, w219_12, w219_13, w219_14, w219_17, w219_18, w219_19, w219_22, w219_23, w219_24, w219_27, w219_28, w219_31, w219_32, w219_35, w219_36, w219_39, w219_42, w219_43, w219_46, w219_47, w219_50, w219_51, w219_54, w219_57, w219_58, ↓ip_ka0, ip_uI_I, ip_uI_L, ip_uI_R, ip_uI_sh, ip_vr_some, Option.toList_none, List.nil_append, List.length_nil, ↓reduceIte, Nat.zero_le, or_false, gG_uI, ip_b_t, ip_b_f, Int32.reduceToNatClampNeg, ip_ix_eq, gS_108 hG, gS_109 hG, gR_108_1 hG, gR_108_2 hG, hG, hq, hk6, s_213, hk, e60, s_217_110, c_pm, b1_b, b1_0, b1_1, z01_0, z01_1, z01_b, hB, ht, ip_uI_row, c_pt_110, c_pt_1, c_pt_R, c_pt_sh, gG_pt, c_pt_I, c_pt_L, c_pt_row, c_sq_1, c_sq_R, c_sq_sh, gG_sq, c_sq_I, c_sq_L, c_sq_row]

set_option maxHeartbeats 40000000 in
set_option maxRecDepth 100000 in
theorem s_219d (X : ip_X) (S : ip_H) (K : Option Value → ip_H → Prop) (p q r : Int) (f : Int × Int × Int × Int) (GS : ip_G S) (hp : (S.2.1 109 0).toInt = p) (hqq : (S.2.1 109 1).toInt = q) (hr : (S.2.1 109 2).toInt = r) (hF : zF p q r = true) (bf : c_fb f) (f0 : c_nz f) (q19 : S.2.2.1 108 19 = Int64.ofInt f.1) (q20 : S.2.2.1 108 20 = Int64.ofInt f.2.1) (q21 : S.2.2.1 108 21 = Int64.ofInt f.2.2.1) (q22 : S.2.2.1 108 22 = Int64.ofInt f.2.2.2)
    (v : Int × Int × Int × Int) (hv : v = zQ4 p q r (1, 0, 0, 1) f) (h0 : K (some (.int 0)) (c_x4 S v)) (h1 : z_nxt p q r v = true → K (some (.int 1)) (c_cm (c_x4 S v) 4 (Int32.ofInt v.1) (Int32.ofInt v.2.1) (Int32.ofInt v.2.2.1) (Int32.ofInt v.2.2.2))) : ip_wp X 219 105 [.ref 108] [] S K := by
  subst hp hqq hr
  have hqS : q3 (S.2.1 109 1) = true := by rw [q3_b]; exact (zF_b hF).2.1
  have gS8 := gS_108 GS
  have bb : c_fb (1, 0, 0, 1) := ⟨zb_c _ _ (by decide) (by decide), zb_c _ _ (by decide) (by decide), zb_c _ _ (by decide) (by decide), by decide, by decide⟩
  obtain ⟨v1, v2, v3, v4, v5⟩ := zQ4_b hF bb bf f0
  rw [← hv] at v1 v2 v3 v4
  have l1 : (1 : Int64) = Int64.ofInt 1 := rfl
  have l0 : (0 : Int64) = Int64.ofInt 0 := rfl
  simp (config := { maxSteps := 10000000, maxDischargeDepth := 30, decide := true }) only [w219_105, w219_106, w219_107, w219_108, w219_109, w219_110, w219_111, w219_114, w219_115, w219_118, w219_119, w219_122, w219_123, w219_126, ↓ip_ka0, List.length_nil, Nat.zero_le, gS8, GS, q19, q20, q21, q22, l1, l0]
  refine Eq.mpr (s_192 X S _ 1 0 0 1 f.1 f.2.1 f.2.2.1 f.2.2.2 GS hF bb.1 bb.2.1 bb.2.2.1 bb.2.2.2 bf.2.2.2 bf.1 bf.2.1 bf.2.2.1 f0) ?_
  have eV : ip_wp X 219 129 [.ref 108] [] (c_x4 S v) K := by
    simp (config := { maxSteps := 10000000, maxDischargeDepth := 30, decide := true }) only [w219_129, w219_130, w219_131, ↓ip_ka0, List.length_nil, Nat.zero_le, gS8, GS, c_x4_sh]
    refine Eq.mpr (s_218_4 X S _ v v1 v2 v3 v4 GS hqS) ?_
    split
    · rename_i hz2
      simp (config := { maxSteps := 10000000, maxDischargeDepth := 30, decide := true }) only [w219_134, Option.toList_some, List.nil_append, List.cons_append, or_true]
      exact h1 hz2
    · simp (config := { maxSteps := 10000000, maxDischargeDepth := 30, decide := true }) only [w219_134, Option.toList_some, List.nil_append, List.cons_append, or_false]
      exact h0
  rw [hv] at eV
  exact eV

set_option maxHeartbeats 40000000 in
set_option maxRecDepth 100000 in
theorem s_219c (X : ip_X) (S : ip_H) (K : Option Value → ip_H → Prop) (p q r : Int) (f g : Int × Int × Int × Int) (GS : ip_G S) (hp : (S.2.1 109 0).toInt = p) (hqq : (S.2.1 109 1).toInt = q) (hr : (S.2.1 109 2).toInt = r) (hF : zF p q r = true) (bf : c_fb f) (bg : c_fb g) (f0 : c_nz f) (q19 : S.2.2.1 108 19 = Int64.ofInt f.1) (q20 : S.2.2.1 108 20 = Int64.ofInt f.2.1) (q21 : S.2.2.1 108 21 = Int64.ofInt f.2.2.1) (q22 : S.2.2.1 108 22 = Int64.ofInt f.2.2.2) (q23 : S.2.2.1 108 23 = Int64.ofInt g.1) (q24 : S.2.2.1 108 24 = Int64.ofInt g.2.1) (q25 : S.2.2.1 108 25 = Int64.ofInt g.2.2.1) (q26 : S.2.2.1 108 26 = Int64.ofInt g.2.2.2)
    (u v : Int × Int × Int × Int) (hu : u = zQ4 p q r g f) (hv : v = zQ4 p q r (1, 0, 0, 1) f)
    (h0 : K (some (.int 0)) (c_x4 S u)) (h0' : K (some (.int 0)) (c_x4 (c_cm (c_x4 S u) 0 (Int32.ofInt u.1) (Int32.ofInt u.2.1) (Int32.ofInt u.2.2.1) (Int32.ofInt u.2.2.2)) v)) (h1 : z_nxt p q r u = true → z_nxt p q r v = true → K (some (.int 1)) (c_cm (c_x4 (c_cm (c_x4 S u) 0 (Int32.ofInt u.1) (Int32.ofInt u.2.1) (Int32.ofInt u.2.2.1) (Int32.ofInt u.2.2.2)) v) 4 (Int32.ofInt v.1) (Int32.ofInt v.2.1) (Int32.ofInt v.2.2.1) (Int32.ofInt v.2.2.2))) : ip_wp X 219 59 [.ref 108] [] S K := by
  have hS1 := hp
  have hS2 := hqq
  have hS3 := hr
  subst hp hqq hr
  have hqS : q3 (S.2.1 109 1) = true := by rw [q3_b]; exact (zF_b hF).2.1
  have gS8 := gS_108 GS
  obtain ⟨v1, v2, v3, v4, v5⟩ := zQ4_b hF bg bf f0
  rw [← hu] at v1 v2 v3 v4
  simp (config := { maxSteps := 10000000, maxDischargeDepth := 30, decide := true }) only [w219_59, w219_60, w219_61, w219_64, w219_65, w219_68, w219_69, w219_72, w219_73, w219_76, w219_77, w219_80, w219_81, w219_84, w219_85, w219_88, w219_89, w219_92, ↓ip_ka0, List.length_nil, Nat.zero_le, gS8, GS, q19, q20, q21, q22, q23, q24, q25, q26]
  refine Eq.mpr (s_192 X S _ g.1 g.2.1 g.2.2.1 g.2.2.2 f.1 f.2.1 f.2.2.1 f.2.2.2 GS hF bg.1 bg.2.1 bg.2.2.1 bg.2.2.2 bf.2.2.2 bf.1 bf.2.1 bf.2.2.1 f0) ?_
  have eV : ip_wp X 219 95 [.ref 108] [] (c_x4 S u) K := by
    simp (config := { maxSteps := 10000000, maxDischargeDepth := 30, decide := true }) only [w219_95, w219_96, w219_97, ↓ip_ka0, List.length_nil, Nat.zero_le, gS8, GS, c_x4_sh]
    refine Eq.mpr (s_218_0 X S _ u v1 v2 v3 v4 GS hqS) ?_
    split
    · rename_i hz2
      have h1 := h1 hz2
      simp (config := { maxSteps := 10000000, maxDischargeDepth := 30, decide := true }) only [w219_100, w219_103, w219_104, Option.toList_some, List.nil_append, List.cons_append, ↓reduceIte]
      exact s_219d X (c_cm (c_x4 S u) 0 (Int32.ofInt u.1) (Int32.ofInt u.2.1) (Int32.ofInt u.2.2.1) (Int32.ofInt u.2.2.2)) K _ _ _ f GS rfl rfl rfl hF bf f0 q19 q20 q21 q22 v hv h0' h1
    · simp (config := { maxSteps := 10000000, maxDischargeDepth := 30, decide := true }) only [w219_100, w219_103, w219_104, Option.toList_some, List.nil_append, List.cons_append, ↓reduceIte, or_false]
      exact h0
  rw [hu] at eV
  exact eV

set_option maxHeartbeats 40000000 in
set_option maxRecDepth 100000 in
theorem s_219 (X : ip_X) (M : ip_H) (K : Option Value → ip_H → Prop) (hG : ip_G M) (hq : q3 (M.2.1 109 1) = true) (hk : M.2.1 109 5 = Int32.ofNat (r_k (M.2.1 109))) (hk6 : r_k (M.2.1 109) ≤ 60) (hF : zF (M.2.1 109 0).toInt (M.2.1 109 1).toInt (M.2.1 109 2).toInt = true) (bf : c_fb (r_f (M.2.1 109))) (bg : c_fb (r_g (M.2.1 109))) (f0 : c_nz (r_f (M.2.1 109)))
    (h0 : ∀ M1, scr M M1 → K (some (.int 0)) M1)
    (h1 : ∀ M1, scr M M1 → r_k (M.2.1 109) ≠ 60 → (q_c false (M.2.2.1 110) (r_fu (M.2.1 109)).toInt64 (r_fv (M.2.1 109)).toInt64).2 = false → ∀ u v, u = (zQ4 (M.2.1 109 0).toInt (M.2.1 109 1).toInt (M.2.1 109 2).toInt (r_g (M.2.1 109)) (r_f (M.2.1 109))) → v = (zQ4 (M.2.1 109 0).toInt (M.2.1 109 1).toInt (M.2.1 109 2).toInt (1, 0, 0, 1) (r_f (M.2.1 109))) → z_nxt (M.2.1 109 0).toInt (M.2.1 109 1).toInt (M.2.1 109 2).toInt u = true → z_nxt (M.2.1 109 0).toInt (M.2.1 109 1).toInt (M.2.1 109 2).toInt v = true → M1 = c_cm (c_x4 (c_cm (c_x4 (c_sq (ip_uI (c_pm M) 108 29 0) false (M.2.2.1 110) (r_fu (M.2.1 109)).toInt64 (r_fv (M.2.1 109)).toInt64 (r_t (M.2.1 109))) u) 0 (Int32.ofInt u.1) (Int32.ofInt u.2.1) (Int32.ofInt u.2.2.1) (Int32.ofInt u.2.2.2)) v) 4 (Int32.ofInt v.1) (Int32.ofInt v.2.1) (Int32.ofInt v.2.2.1) (Int32.ofInt v.2.2.2) → K (some (.int 1)) M1) : ip_wp X 219 0 [.ref 108] [] M K := by
  have s1 : scr M (c_sq (ip_uI (c_pm M) 108 29 0) false (M.2.2.1 110) (r_fu (M.2.1 109)).toInt64 (r_fv (M.2.1 109)).toInt64 (r_t (M.2.1 109))) := scr_sq (scr_uI (scr_pt (scr_r M)) rfl)
  by_cases h60 : r_k (M.2.1 109) = 60
  · have e60 : (Int32.ofNat (r_k (M.2.1 109)) = 60) = True := eq_true (by rw [h60]; rfl)
    simp (config := { maxSteps := 10000000, maxDischargeDepth := 30, decide := true }) only [w219_0, w219_1, w219_4, w219_5, w219_6, w219_8, w219_11, w219_12, w219_13, w219_14, w219_17, w219_18, w219_19, w219_22, w219_23, w219_24, w219_27, w219_28, w219_31, w219_32, w219_35, w219_36, w219_39, w219_42, w219_43, w219_46, w219_47, w219_50, w219_51, w219_54, w219_57, w219_58, w219_59, w219_60, w219_61, w219_64, w219_65, w219_68, w219_69, w219_72, w219_73, w219_76, w219_77, w219_80, w219_81, w219_84, w219_85, w219_88, w219_89, w219_92, w219_95, w219_96, w219_97, w219_100, w219_103, w219_104, w219_105, w219_106, w219_107, w219_108, w219_109, w219_110, w219_111, w219_114, w219_115, w219_118, w219_119, w219_122, w219_123, w219_126, w219_129, w219_130, w219_131, w219_134, ↓ip_ka0, ip_vr_some, ↓reduceIte, or_false, Int32.reduceToNatClampNeg, ip_ix_eq, gS_108 hG, gS_109 hG, gR_108_1 hG, hk, e60]
    exact h0 M (scr_r M)
  cases hB : (q_c false (M.2.2.1 110) (r_fu (M.2.1 109)).toInt64 (r_fv (M.2.1 109)).toInt64).2
  · rw [s_219b X M K hG hq hk hk6 h60 hB]
    have rS := scr_row s1
    have q19 : (c_sq (ip_uI (c_pm M) 108 29 0) false (M.2.2.1 110) (r_fu (M.2.1 109)).toInt64 (r_fv (M.2.1 109)).toInt64 (r_t (M.2.1 109))).2.2.1 108 19 = Int64.ofInt (r_f (M.2.1 109)).1 := by rw [c_sq_L _ _ _ _ _ _ _ _ (by decide)]; rfl
    have q20 : (c_sq (ip_uI (c_pm M) 108 29 0) false (M.2.2.1 110) (r_fu (M.2.1 109)).toInt64 (r_fv (M.2.1 109)).toInt64 (r_t (M.2.1 109))).2.2.1 108 20 = Int64.ofInt (r_f (M.2.1 109)).2.1 := by rw [c_sq_L _ _ _ _ _ _ _ _ (by decide)]; rfl
    have q21 : (c_sq (ip_uI (c_pm M) 108 29 0) false (M.2.2.1 110) (r_fu (M.2.1 109)).toInt64 (r_fv (M.2.1 109)).toInt64 (r_t (M.2.1 109))).2.2.1 108 21 = Int64.ofInt (r_f (M.2.1 109)).2.2.1 := by rw [c_sq_L _ _ _ _ _ _ _ _ (by decide)]; rfl
    have q22 : (c_sq (ip_uI (c_pm M) 108 29 0) false (M.2.2.1 110) (r_fu (M.2.1 109)).toInt64 (r_fv (M.2.1 109)).toInt64 (r_t (M.2.1 109))).2.2.1 108 22 = Int64.ofInt (r_f (M.2.1 109)).2.2.2 := by rw [c_sq_L _ _ _ _ _ _ _ _ (by decide)]; rfl
    have q23 : (c_sq (ip_uI (c_pm M) 108 29 0) false (M.2.2.1 110) (r_fu (M.2.1 109)).toInt64 (r_fv (M.2.1 109)).toInt64 (r_t (M.2.1 109))).2.2.1 108 23 = Int64.ofInt (r_g (M.2.1 109)).1 := by rw [c_sq_L _ _ _ _ _ _ _ _ (by decide)]; rfl
    have q24 : (c_sq (ip_uI (c_pm M) 108 29 0) false (M.2.2.1 110) (r_fu (M.2.1 109)).toInt64 (r_fv (M.2.1 109)).toInt64 (r_t (M.2.1 109))).2.2.1 108 24 = Int64.ofInt (r_g (M.2.1 109)).2.1 := by rw [c_sq_L _ _ _ _ _ _ _ _ (by decide)]; rfl
    have q25 : (c_sq (ip_uI (c_pm M) 108 29 0) false (M.2.2.1 110) (r_fu (M.2.1 109)).toInt64 (r_fv (M.2.1 109)).toInt64 (r_t (M.2.1 109))).2.2.1 108 25 = Int64.ofInt (r_g (M.2.1 109)).2.2.1 := by rw [c_sq_L _ _ _ _ _ _ _ _ (by decide)]; rfl
    have q26 : (c_sq (ip_uI (c_pm M) 108 29 0) false (M.2.2.1 110) (r_fu (M.2.1 109)).toInt64 (r_fv (M.2.1 109)).toInt64 (r_t (M.2.1 109))).2.2.1 108 26 = Int64.ofInt (r_g (M.2.1 109)).2.2.2 := by rw [c_sq_L _ _ _ _ _ _ _ _ (by decide)]; rfl
    have h1 := fun M1 hs => h1 M1 hs h60 hB _ _ rfl rfl
    exact s_219c X _ K (M.2.1 109 0).toInt (M.2.1 109 1).toInt (M.2.1 109 2).toInt _ _ (scr_G s1 hG) (by rw [rS]) (by rw [rS]) (by rw [rS]) hF bf bg f0 q19 q20 q21 q22 q23 q24 q25 q26 _ _ rfl rfl (h0 _ (scr_x4 s1)) (h0 _ (scr_x4 (scr_cm (scr_x4 s1)))) (fun a b => h1 _ (scr_cm (scr_x4 (scr_cm (scr_x4 s1)))) a b rfl)
  · rw [s_219a X M K hG hq hk hk6 h60 hB]
    exact h0 _ s1
end
noncomputable section
-- PART 70.ops6
-- FLOORS are near; the reference: looking back, a step done
theorem z_sg_lt {z : Int} (h : zb 9223372036854775807 z) : (z_sg z < 0) = (z < 0) := by
  have e1 : (0 < Int64.ofInt z) = (0 < z) := z_lt (a := 0) ⟨by decide, by decide⟩ h
  have e2 : (Int64.ofInt z < 0) = (z < 0) := z_lt (b := 0) h ⟨by decide, by decide⟩
  apply propext
  unfold z_sg
  by_cases h1 : 0 < z
  · rw [if_pos (by rw [e1]; exact h1)]
    exact ⟨fun q => absurd q (by decide), fun q => by omega⟩
  · rw [if_neg (by rw [e1]; exact h1)]
    by_cases h2 : z < 0
    · rw [if_pos (by rw [e2]; exact h2)]
      exact ⟨fun _ => h2, fun _ => by decide⟩
    · rw [if_neg (by rw [e2]; exact h2)]
      exact ⟨fun q => absurd q (by decide), fun q => absurd q h2⟩
theorem z_mid {lo hi : Int32} {m : Int} (h1 : -4096 ≤ lo.toInt) (h2 : hi.toInt ≤ 4096) (h3 : hi.toInt = lo.toInt + (m + m)) (h0 : 0 ≤ m) : ((lo + hi) / 2).toInt = lo.toInt + m := by
  have e1 : (lo + hi).toInt = 2 * (lo.toInt + m) := by
    rw [Int32.toInt_add, Int.bmod_eq_of_le_mul_two (by omega) (by omega)]
    omega
  rw [Int32.toInt_div_of_ne_right _ _ (by decide), e1]
  have e2 : (2 : Int32).toInt = 2 := rfl
  rw [e2]
  exact Int.mul_tdiv_cancel_left _ (by decide)
theorem z_flo_b {p q r a b c d : Int} (hp : zb 3 p) (hq : zb 3 q) (hr : zb 3 r) (ha : zb 150 a) (hb : zb 150 b) (hc : zb 150 c) (hd : 1 ≤ d ∧ d ≤ 150) : ∀ (n : Nat) (lo hi : Int32), -4096 ≤ lo.toInt → hi.toInt ≤ 4096 → hi.toInt = lo.toInt + 2 ^ n → (lo.toInt = -4096 ∨ 0 ≤ zN p q r (a - lo.toInt * d) b c) → (hi.toInt = 4096 ∨ zN p q r (a - hi.toInt * d) b c < 0) →
    -4096 ≤ (z_flo p q r a b c d n lo hi).toInt ∧ (z_flo p q r a b c d n lo hi).toInt ≤ 4095 ∧ ((z_flo p q r a b c d n lo hi).toInt = -4096 ∨ 0 ≤ zN p q r (a - (z_flo p q r a b c d n lo hi).toInt * d) b c) ∧ ((z_flo p q r a b c d n lo hi).toInt + 1 = 4096 ∨ zN p q r (a - ((z_flo p q r a b c d n lo hi).toInt + 1) * d) b c < 0) := by
  intro n
  induction n with
  | zero =>
    intro lo hi h1 h2 h3 h4 h5
    rw [z_flo]
    simp only [Int.pow_zero] at h3
    rw [h3] at h5
    exact ⟨h1, by omega, h4, h5⟩
  | succ n ih =>
    intro lo hi h1 h2 h3 h4 h5
    have hpow : (2 : Int) ^ (n + 1) = 2 ^ n + 2 ^ n := by rw [Int.pow_succ]; omega
    have hpos : (0 : Int) < 2 ^ n := Int.pow_pos (by decide)
    have hm := z_mid h1 h2 (by rw [h3, hpow]) (Int.le_of_lt hpos)
    rw [z_flo]
    have hA : zb 620000 (a - ((lo + hi) / 2).toInt * d) := by
      have w : zb 4096 ((lo + hi) / 2).toInt := by unfold zb; omega
      have hd' : zb 150 d := ⟨by omega, hd.2⟩
      exact zb_s ha (zb_m w hd' (Int.le_refl _)) (by decide)
    have hB : zb 9223372036854775807 (zN p q r (a - ((lo + hi) / 2).toInt * d) b c) := zN_bnd hp hq hr hA hb hc _ (by decide) (by decide) (by decide)
    by_cases hs : z_sg (zN p q r (a - ((lo + hi) / 2).toInt * d) b c) < 0
    · rw [if_pos hs]
      rw [z_sg_lt hB] at hs
      exact ih lo _ h1 (by omega) (by omega) h4 (Or.inr hs)
    · rw [if_neg hs]
      rw [z_sg_lt hB] at hs
      exact ih _ hi (by omega) h2 (by omega) (Or.inr (by omega)) h5
theorem z_fl_b {p q r a b c d : Int} (hp : zb 3 p) (hq : zb 3 q) (hr : zb 3 r) (ha : zb 150 a) (hb : zb 150 b) (hc : zb 150 c) (hd : 1 ≤ d ∧ d ≤ 150) : zb 20000 (a - (z_fl p q r a b c d).toInt * d) ∧ zb 4096 (z_fl p q r a b c d).toInt := by
  have h := z_flo_b hp hq hr ha hb hc hd 13 (-4096) 4096 (by decide) (by decide) (by decide) (Or.inl rfl) (Or.inl rfl)
  have e : z_flo p q r a b c d 13 (-4096) 4096 = z_fl p q r a b c d := rfl
  rw [e] at h
  obtain ⟨h1, h2, h3, h4⟩ := h
  generalize (z_fl p q r a b c d).toInt = F at *
  unfold zb at ha ⊢
  have hmul : (F + 1) * d = F * d + d := by rw [Int.add_mul, Int.one_mul]
  rw [hmul] at h4
  refine ⟨⟨?_, ?_⟩, by omega, by omega⟩
  · rcases h3 with h3 | h3
    · rw [h3]; omega
    · rcases Int.lt_or_le (-4000) (a - F * d) with w | w
      · omega
      · have := zN_neg hp hq hr hb hc w
        omega
  · rcases h4 with h4 | h4
    · have : F = 4095 := by omega
      rw [this]; omega
    · rcases Int.lt_or_le (a - (F * d + d)) 4000 with w | w
      · omega
      · have := zN_pos hp hq hr hb hc w
        omega
/-- a course's row: how many steps, its states -/
def crs (N : Nat → Int32) : Prop := N 5 = Int32.ofNat (r_k N) ∧ r_k N ≤ 60 ∧ ∀ k, k ≤ r_k N → c_vo N (153 + 8 * k) ∧ c_vo N (153 + 8 * k + 4)
theorem crs_fb {N : Nat → Int32} (hF : zF (N 0).toInt (N 1).toInt (N 2).toInt = true) (h : crs N) : c_fb (r_f0 N) ∧ c_fb (r_g0 N) := by
  obtain ⟨hp, hq, hr⟩ := zF_b hF
  obtain ⟨-, h6, h⟩ := h
  obtain ⟨⟨a1, a2, a3, a4⟩, ⟨b1, b2, b3, b4⟩⟩ := h _ (Nat.le_refl _)
  have fu := z_fl_b hp hq hr a1 a2 a3 a4
  have fv := z_fl_b hp hq hr b1 b2 b3 b4
  exact ⟨⟨fu.1, zb_w a2 (by decide), zb_w a3 (by decide), a4⟩, ⟨fv.1, zb_w b2 (by decide), zb_w b3 (by decide), b4⟩⟩
theorem crs_fg {N : Nat → Int32} (hF : zF (N 0).toInt (N 1).toInt (N 2).toInt = true) (h : crs N) : c_fb (r_f N) ∧ c_fb (r_g N) := by
  obtain ⟨h1, h2⟩ := crs_fb hF h
  unfold r_f r_g
  split
  · exact ⟨h2, h1⟩
  · exact ⟨h1, h2⟩
theorem r_e_nz {N : Nat → Int32} (hf : c_fb (r_f N)) (h : r_e N = false) : c_nz (r_f N) := by
  obtain ⟨h1, h2, h3, -⟩ := hf
  rintro ⟨e1, e2, e3⟩
  unfold r_e at h
  rw [e1, e2, e3] at h
  exact absurd h (by decide)
/-- two states alike -/
def alk (N : Nat → Int32) (k l : Nat) : Bool := decide (N (153 + 8 * k) = N (153 + 8 * l)) && (decide (N (153 + 8 * k + 1) = N (153 + 8 * l + 1)) && (decide (N (153 + 8 * k + 2) = N (153 + 8 * l + 2)) && (decide (N (153 + 8 * k + 3) = N (153 + 8 * l + 3)) && (decide (N (153 + 8 * k + 4) = N (153 + 8 * l + 4)) && (decide (N (153 + 8 * k + 5) = N (153 + 8 * l + 5)) && (decide (N (153 + 8 * k + 6) = N (153 + 8 * l + 6)) && decide (N (153 + 8 * k + 7) = N (153 + 8 * l + 7))))))))
/-- the first state like the last one, from k on -/
def lbk (N : Nat → Int32) (last : Nat) : Nat → Nat → Option Nat
  | 0, _ => none
  | n + 1, k => if alk N k last = true then some k else lbk N last n (k + 1)
def c_lbm (M : ip_H) (last : Nat) (o : Option Nat) : ip_H := match o with
  | none => M
  | some k => ip_uI (ip_uI M 109 6 (Int32.ofNat k)) 109 7 (Int32.ofNat (last - k))
def c_lb (M : ip_H) (last : Nat) : ip_H := if M.2.1 109 6 = -1 then c_lbm M last (lbk (M.2.1 109) last last 0) else M

set_option maxHeartbeats 40000000 in
set_option maxRecDepth 100000 in
theorem s_221 (X : ip_X) (M : ip_H) (K : Option Value → ip_H → Prop) (k l : Nat) (hk : k ≤ 60) (hl : l ≤ 60) (hG : ip_G M) : ip_wp X 221 0 [.ref 108, .int (Int32.ofNat k), .int (Int32.ofNat l), .retAddr 1] [] M K = K (some (.int (ip_b (alk (M.2.1 109) k l)))) M := by
  unfold alk
  by_cases h0 : M.2.1 109 (153 + 8 * k) = M.2.1 109 (153 + 8 * l)
  case neg =>
    simp (config := { maxSteps := 10000000, maxDischargeDepth := 30, decide := true }) only [w221_0, w221_1, w221_2, w221_3, w221_5, w221_8, w221_9, w221_10, w221_11, w221_14, w221_15, w221_16, w221_17, w221_20, w221_23, w221_24, w221_25, w221_28, w221_31, w221_32, ↓ip_ka0, ↓ip_ki1, ↓ip_ki2, ↓ip_ki3, ip_get_0, ip_get_s, ip_set1, ip_clr_s, ip_cat_i, List.set_cons_zero, List.set_cons_succ, Option.toList_some, List.nil_append, List.cons_append, List.length_nil, List.length_cons, ↓reduceIte, Nat.reduceLeDiff, Nat.reduceEqDiff, Nat.zero_add, Nat.zero_le, or_false, ip_b_f, hG, hk, hl, gS_108 hG, s_208_0, s_208_1, s_208_2, s_208_3, s_208_4, s_208_5, s_208_6, s_208_7, h0, decide_false, Bool.false_and]
  by_cases h1 : M.2.1 109 (153 + 8 * k + 1) = M.2.1 109 (153 + 8 * l + 1)
  case neg =>
    simp (config := { maxSteps := 10000000, maxDischargeDepth := 30, decide := true }) only [w221_0, w221_1, w221_2, w221_3, w221_5, w221_8, w221_9, w221_10, w221_11, w221_14, w221_15, w221_16, w221_17, w221_20, w221_23, w221_24, w221_25, w221_28, w221_31, w221_32, ↓ip_ka0, ↓ip_ki1, ↓ip_ki2, ↓ip_ki3, ip_get_0, ip_get_s, ip_set1, ip_clr_s, ip_cat_i, List.set_cons_zero, List.set_cons_succ, Option.toList_some, List.nil_append, List.cons_append, List.length_nil, List.length_cons, ↓reduceIte, Nat.reduceLeDiff, Nat.reduceEqDiff, Nat.zero_add, Nat.zero_le, or_false, ip_b_f, Int32.reduceAdd, hG, hk, hl, gS_108 hG, s_208_0, s_208_1, s_208_2, s_208_3, s_208_4, s_208_5, s_208_6, s_208_7, h0, h1, decide_true, decide_false, Bool.and_false, Bool.false_and]
  by_cases h2 : M.2.1 109 (153 + 8 * k + 2) = M.2.1 109 (153 + 8 * l + 2)
  case neg =>
    simp (config := { maxSteps := 10000000, maxDischargeDepth := 30, decide := true }) only [w221_0, w221_1, w221_2, w221_3, w221_5, w221_8, w221_9, w221_10, w221_11, w221_14, w221_15, w221_16, w221_17, w221_20, w221_23, w221_24, w221_25, w221_28, w221_31, w221_32, ↓ip_ka0, ↓ip_ki1, ↓ip_ki2, ↓ip_ki3, ip_get_0, ip_get_s, ip_set1, ip_clr_s, ip_cat_i, List.set_cons_zero, List.set_cons_succ, Option.toList_some, List.nil_append, List.cons_append, List.length_nil, List.length_cons, ↓reduceIte, Nat.reduceLeDiff, Nat.reduceEqDiff, Nat.zero_add, Nat.zero_le, or_false, ip_b_f, Int32.reduceAdd, hG, hk, hl, gS_108 hG, s_208_0, s_208_1, s_208_2, s_208_3, s_208_4, s_208_5, s_208_6, s_208_7, h0, h1, h2, decide_true, decide_false, Bool.and_false, Bool.false_and]
  by_cases h3 : M.2.1 109 (153 + 8 * k + 3) = M.2.1 109 (153 + 8 * l + 3)
  case neg =>
    simp (config := { maxSteps := 10000000, maxDischargeDepth := 30, decide := true }) only [w221_0, w221_1, w221_2, w221_3, w221_5, w221_8, w221_9, w221_10, w221_11, w221_14, w221_15, w221_16, w221_17, w221_20, w221_23, w221_24, w221_25, w221_28, w221_31, w221_32, ↓ip_ka0, ↓ip_ki1, ↓ip_ki2, ↓ip_ki3, ip_get_0, ip_get_s, ip_set1, ip_clr_s, ip_cat_i, List.set_cons_zero, List.set_cons_succ, Option.toList_some, List.nil_append, List.cons_append, List.length_nil, List.length_cons, ↓reduceIte, Nat.reduceLeDiff, Nat.reduceEqDiff, Nat.zero_add, Nat.zero_le, or_false, ip_b_f, Int32.reduceAdd, hG, hk, hl, gS_108 hG, s_208_0, s_208_1, s_208_2, s_208_3, s_208_4, s_208_5, s_208_6, s_208_7, h0, h1, h2, h3, decide_true, decide_false, Bool.and_false, Bool.false_and]
  by_cases h4 : M.2.1 109 (153 + 8 * k + 4) = M.2.1 109 (153 + 8 * l + 4)
  case neg =>
    simp (config := { maxSteps := 10000000, maxDischargeDepth := 30, decide := true }) only [w221_0, w221_1, w221_2, w221_3, w221_5, w221_8, w221_9, w221_10, w221_11, w221_14, w221_15, w221_16, w221_17, w221_20, w221_23, w221_24, w221_25, w221_28, w221_31, w221_32, ↓ip_ka0, ↓ip_ki1, ↓ip_ki2, ↓ip_ki3, ip_get_0, ip_get_s, ip_set1, ip_clr_s, ip_cat_i, List.set_cons_zero, List.set_cons_succ, Option.toList_some, List.nil_append, List.cons_append, List.length_nil, List.length_cons, ↓reduceIte, Nat.reduceLeDiff, Nat.reduceEqDiff, Nat.zero_add, Nat.zero_le, or_false, ip_b_f, Int32.reduceAdd, hG, hk, hl, gS_108 hG, s_208_0, s_208_1, s_208_2, s_208_3, s_208_4, s_208_5, s_208_6, s_208_7, h0, h1, h2, h3, h4, decide_true, decide_false, Bool.and_false, Bool.false_and]
  by_cases h5 : M.2.1 109 (153 + 8 * k + 5) = M.2.1 109 (153 + 8 * l + 5)
  case neg =>
    simp (config := { maxSteps := 10000000, maxDischargeDepth := 30, decide := true }) only [w221_0, w221_1, w221_2, w221_3, w221_5, w221_8, w221_9, w221_10, w221_11, w221_14, w221_15, w221_16, w221_17, w221_20, w221_23, w221_24, w221_25, w221_28, w221_31, w221_32, ↓ip_ka0, ↓ip_ki1, ↓ip_ki2, ↓ip_ki3, ip_get_0, ip_get_s, ip_set1, ip_clr_s, ip_cat_i, List.set_cons_zero, List.set_cons_succ, Option.toList_some, List.nil_append, List.cons_append, List.length_nil, List.length_cons, ↓reduceIte, Nat.reduceLeDiff, Nat.reduceEqDiff, Nat.zero_add, Nat.zero_le, or_false, ip_b_f, Int32.reduceAdd, hG, hk, hl, gS_108 hG, s_208_0, s_208_1, s_208_2, s_208_3, s_208_4, s_208_5, s_208_6, s_208_7, h0, h1, h2, h3, h4, h5, decide_true, decide_false, Bool.and_false, Bool.false_and]
  by_cases h6 : M.2.1 109 (153 + 8 * k + 6) = M.2.1 109 (153 + 8 * l + 6)
  case neg =>
    simp (config := { maxSteps := 10000000, maxDischargeDepth := 30, decide := true }) only [w221_0, w221_1, w221_2, w221_3, w221_5, w221_8, w221_9, w221_10, w221_11, w221_14, w221_15, w221_16, w221_17, w221_20, w221_23, w221_24, w221_25, w221_28, w221_31, w221_32, ↓ip_ka0, ↓ip_ki1, ↓ip_ki2, ↓ip_ki3, ip_get_0, ip_get_s, ip_set1, ip_clr_s, ip_cat_i, List.set_cons_zero, List.set_cons_succ, Option.toList_some, List.nil_append, List.cons_append, List.length_nil, List.length_cons, ↓reduceIte, Nat.reduceLeDiff, Nat.reduceEqDiff, Nat.zero_add, Nat.zero_le, or_false, ip_b_f, Int32.reduceAdd, hG, hk, hl, gS_108 hG, s_208_0, s_208_1, s_208_2, s_208_3, s_208_4, s_208_5, s_208_6, s_208_7, h0, h1, h2, h3, h4, h5, h6, decide_true, decide_false, Bool.and_false, Bool.false_and]
  by_cases h7 : M.2.1 109 (153 + 8 * k + 7) = M.2.1 109 (153 + 8 * l + 7)
  case neg =>
    simp (config := { maxSteps := 10000000, maxDischargeDepth := 30, decide := true }) only [w221_0, w221_1, w221_2, w221_3, w221_5, w221_8, w221_9, w221_10, w221_11, w221_14, w221_15, w221_16, w221_17, w221_20, w221_23, w221_24, w221_25, w221_28, w221_31, w221_32, ↓ip_ka0, ↓ip_ki1, ↓ip_ki2, ↓ip_ki3, ip_get_0, ip_get_s, ip_set1, ip_clr_s, ip_cat_i, List.set_cons_zero, List.set_cons_succ, Option.toList_some, List.nil_append, List.cons_append, List.length_nil, List.length_cons, ↓reduceIte, Nat.reduceLeDiff, Nat.reduceEqDiff, Nat.zero_add, Nat.zero_le, or_false, ip_b_f, Int32.reduceAdd, hG, hk, hl, gS_108 hG, s_208_0, s_208_1, s_208_2, s_208_3, s_208_4, s_208_5, s_208_6, s_208_7, h0, h1, h2, h3, h4, h5, h6, h7, decide_true, decide_false, Bool.and_false]
  simp (config := { maxSteps := 10000000, maxDischargeDepth := 30, decide := true }) only [w221_0, w221_1, w221_2, w221_3, w221_5, w221_8, w221_9, w221_10, w221_11, w221_14, w221_15, w221_16, w221_17, w221_20, w221_23, w221_24, w221_25, w221_28, w221_31, w221_32, ↓ip_ka0, ↓ip_ki1, ↓ip_ki2, ↓ip_ki3, ip_get_0, ip_get_s, ip_set1, ip_clr_s, ip_cat_i, List.set_cons_zero, List.set_cons_succ, Option.toList_some, List.nil_append, List.cons_append, List.length_nil, List.length_cons, ↓reduceIte, Nat.reduceLeDiff, Nat.reduceEqDiff, Nat.zero_add, Nat.zero_le, or_true, ip_b_t, Int32.reduceAdd, hG, hk, hl, gS_108 hG, s_208_0, s_208_1, s_208_2, s_208_3, s_208_4, s_208_5, s_208_6, s_208_7, h0, h1, h2, h3, h4, h5, h6, h7, decide_true, Bool.and_true]

set_option maxHeartbeats 40000000 in
set_option maxRecDepth 100000 in
theorem s_222l (X : ip_X) (M : ip_H) (K : Option Value → ip_H → Prop) (last : Nat) (hl : last ≤ 60) (hG : ip_G M) (h6 : M.2.1 109 6 = -1) : ∀ (n k : Nat), k + n = last → ip_wp X 222 9 [.ref 108, .int (Int32.ofNat last), .int (Int32.ofNat k)] [] M K = K none (c_lbm M last (lbk (M.2.1 109) last n k)) := by
  intro n
  induction n with
  | zero =>
    intro k h
    have hk : (Int32.ofNat k < Int32.ofNat last) = False := by rw [ip_nlt _ _ (by omega) (by omega)]; exact eq_false (by omega)
    rw [lbk, c_lbm]
    simp (config := { maxSteps := 10000000, maxDischargeDepth := 30, decide := true }) only [w222_9, w222_10, w222_11, w222_14, w222_15, w222_18, w222_20, w222_21, w222_22, w222_25, w222_26, w222_27, w222_28, w222_31, w222_34, w222_37, w222_38, w222_41, w222_43, w222_44, w222_45, w222_46, w222_49, w222_51, w222_52, w222_53, w222_54, w222_55, w222_61, ↓ip_ki1, ↓ip_ki2, ↓reduceIte, hk]
  | succ n ih =>
    intro k h
    have hk : (Int32.ofNat k < Int32.ofNat last) = True := by rw [ip_nlt _ _ (by omega) (by omega)]; exact eq_true (by omega)
    have hk6 : k ≤ 60 := by omega
    have ei : Int32.ofNat k + 1 = Int32.ofNat (k + 1) := ip_oa k 1
    rw [lbk]
    cases ha : alk (M.2.1 109) k last
    · rw [if_neg (by decide)]
      have step : ∀ Z : Prop, ip_wp X 222 9 [.ref 108, .int (Int32.ofNat last), .int (Int32.ofNat (k + 1))] [] M K = Z → ip_wp X 222 9 [.ref 108, .int (Int32.ofNat last), .int (Int32.ofNat k)] [] M K = Z := by
        intro Z hZ
        simp (config := { maxSteps := 10000000, maxDischargeDepth := 30, decide := true }) only [w222_9, w222_10, w222_11, w222_14, w222_15, w222_18, w222_20, w222_21, w222_22, w222_25, w222_26, w222_27, w222_28, w222_31, w222_34, w222_37, w222_38, w222_41, w222_43, w222_44, w222_45, w222_46, w222_49, w222_51, w222_52, w222_53, w222_54, w222_55, w222_61, ↓ip_ka0, ↓ip_ki1, ↓ip_ki2, ip_get_0, ip_get_s, ip_set1, ip_clr_s, ip_cat_i, List.set_cons_zero, List.set_cons_succ, ip_vr_some, Option.toList_some, List.nil_append, List.cons_append, List.length_nil, ↓reduceIte, Nat.reduceEqDiff, Nat.zero_le, ip_b_f, Int32.reduceToNatClampNeg, ip_ix_eq, gS_108 hG, gS_109 hG, gR_108_1 hG, hG, hk, hl, hk6, ei, h6, ha, s_221]
        rw [w222_58]
        exact hZ
      exact step _ (ih (k + 1) (by omega))
    · rw [if_pos rfl, c_lbm]
      have hn1 : (Int32.ofNat k = -1) = False := by
        refine eq_false (fun q => ?_)
        have := congrArg Int32.toInt q
        rw [ip_nt _ (by omega)] at this
        have e : (-1 : Int32).toInt = -1 := rfl
        omega
      have es : Int32.ofNat last - Int32.ofNat k = Int32.ofNat (last - k) := ip_osb _ _ (by omega)
      have step : ∀ Z : Prop, ip_wp X 222 9 [.ref 108, .int (Int32.ofNat last), .int (Int32.ofNat (k + 1))] [] (ip_uI (ip_uI M 109 6 (Int32.ofNat k)) 109 7 (Int32.ofNat (last - k))) K = Z → ip_wp X 222 9 [.ref 108, .int (Int32.ofNat last), .int (Int32.ofNat k)] [] M K = Z := by
        intro Z hZ
        simp (config := { maxSteps := 10000000, maxDischargeDepth := 30, decide := true }) only [w222_9, w222_10, w222_11, w222_14, w222_15, w222_18, w222_20, w222_21, w222_22, w222_25, w222_26, w222_27, w222_28, w222_31, w222_34, w222_37, w222_38, w222_41, w222_43, w222_44, w222_45, w222_46, w222_49, w222_51, w222_52, w222_53, w222_54, w222_55, w222_61, ↓ip_ka0, ↓ip_ki1, ↓ip_ki2, ip_get_0, ip_get_s, ip_set1, ip_clr_s, ip_cat_i, List.set_cons_zero, List.set_cons_succ, ip_uI_R, ip_uI_sh, ip_vr_some, Option.toList_some, List.nil_append, List.cons_append, List.length_nil, ↓reduceIte, Nat.reduceEqDiff, Nat.zero_le, ip_b_t, Int32.reduceToNatClampNeg, ip_ix_eq, gS_108 hG, gS_109 hG, gR_108_1 hG, hG, hk, hl, hk6, ei, es, h6, ha, s_221]
        rw [w222_58]
        exact hZ
      refine step _ ?_
      by_cases hq : k + 1 < last
      · have hk2 : (Int32.ofNat (k + 1) < Int32.ofNat last) = True := by rw [ip_nlt _ _ (by omega) (by omega)]; exact eq_true hq
        simp (config := { maxSteps := 10000000, maxDischargeDepth := 30, decide := true }) only [w222_9, w222_10, w222_11, w222_14, w222_15, w222_18, w222_20, w222_21, w222_22, w222_25, w222_26, w222_27, w222_28, w222_31, w222_34, w222_37, w222_38, w222_41, w222_43, w222_44, w222_45, w222_46, w222_49, w222_51, w222_52, w222_53, w222_54, w222_55, w222_61, ↓ip_ka0, ↓ip_ki1, ↓ip_ki2, ip_uI_I, ip_uI_R, ip_uI_sh, ip_vr_some, ↓reduceIte, Int32.reduceToNatClampNeg, ip_ix_eq, gS_108 hG, gS_109 hG, gR_108_1 hG, hk2, hn1]
      · have hk2 : (Int32.ofNat (k + 1) < Int32.ofNat last) = False := by rw [ip_nlt _ _ (by omega) (by omega)]; exact eq_false hq
        simp (config := { maxSteps := 10000000, maxDischargeDepth := 30, decide := true }) only [w222_9, w222_10, w222_11, w222_14, w222_15, w222_18, w222_20, w222_21, w222_22, w222_25, w222_26, w222_27, w222_28, w222_31, w222_34, w222_37, w222_38, w222_41, w222_43, w222_44, w222_45, w222_46, w222_49, w222_51, w222_52, w222_53, w222_54, w222_55, w222_61, ↓ip_ki1, ↓ip_ki2, ↓reduceIte, hk2, hn1]

set_option maxHeartbeats 40000000 in
set_option maxRecDepth 100000 in
theorem s_222 (X : ip_X) (M : ip_H) (K : Option Value → ip_H → Prop) (last : Nat) (hl : last ≤ 60) (h5 : M.2.1 109 5 = Int32.ofNat last) (hG : ip_G M) : ip_wp X 222 0 [.ref 108, .retAddr 1, .retAddr 1] [] M K = K none (c_lb M last) := by
  unfold c_lb
  by_cases h6 : M.2.1 109 6 = -1
  · rw [if_pos h6]
    simp (config := { maxSteps := 10000000, maxDischargeDepth := 30, decide := true }) only [w222_0, w222_1, w222_4, w222_5, w222_6, w222_7, w222_8, ↓ip_ka0, ip_get_0, ip_get_s, ip_set1, ip_clr_s, ip_cat_i, List.set_cons_zero, List.set_cons_succ, ip_vr_some, ↓reduceIte, Nat.reduceEqDiff, Int32.reduceToNatClampNeg, ip_ix_eq, gS_108 hG, gS_109 hG, gR_108_1 hG, h5]
    exact s_222l X M K last hl hG h6 last 0 (by omega)
  · rw [if_neg h6]
    by_cases hl0 : Int32.ofNat 0 < Int32.ofNat last
    · have hl0 : (0 : Int32) < Int32.ofNat last := hl0
      simp (config := { maxSteps := 10000000, maxDischargeDepth := 30, decide := true }) only [w222_0, w222_1, w222_4, w222_5, w222_6, w222_7, w222_8, w222_9, w222_10, w222_11, w222_14, w222_15, w222_18, w222_20, w222_21, w222_22, w222_25, w222_26, w222_27, w222_28, w222_31, w222_34, w222_37, w222_38, w222_41, w222_43, w222_44, w222_45, w222_46, w222_49, w222_51, w222_52, w222_53, w222_54, w222_55, w222_61, ↓ip_ka0, ↓ip_ki1, ↓ip_ki2, ip_get_0, ip_get_s, ip_set1, ip_clr_s, ip_cat_i, List.set_cons_zero, List.set_cons_succ, ip_vr_some, ↓reduceIte, Nat.reduceEqDiff, Int32.reduceToNatClampNeg, ip_ix_eq, gS_108 hG, gS_109 hG, gR_108_1 hG, h5, h6, hl0]
    · have hl0 : ¬ (0 : Int32) < Int32.ofNat last := hl0
      simp (config := { maxSteps := 10000000, maxDischargeDepth := 30, decide := true }) only [w222_0, w222_1, w222_4, w222_5, w222_6, w222_7, w222_8, w222_9, w222_10, w222_11, w222_14, w222_15, w222_18, w222_20, w222_21, w222_22, w222_25, w222_26, w222_27, w222_28, w222_31, w222_34, w222_37, w222_38, w222_41, w222_43, w222_44, w222_45, w222_46, w222_49, w222_51, w222_52, w222_53, w222_54, w222_55, w222_61, ↓ip_ka0, ↓ip_ki1, ↓ip_ki2, ip_get_0, ip_get_s, ip_set1, ip_clr_s, ip_cat_i, List.set_cons_zero, List.set_cons_succ, ip_vr_some, ↓reduceIte, Nat.reduceEqDiff, Int32.reduceToNatClampNeg, ip_ix_eq, gS_108 hG, gS_109 hG, gR_108_1 hG, h5, hl0]

def c_dof (N cm : Nat → Int32) (fu fv t : Int32) (k : Nat) : Nat → Int32 := fun b => if b = 5 then (Int32.ofNat (k + 1)) else if b = 641 + 3 * k + 2 then t else if b = 641 + 3 * k + 1 then fv else if b = 641 + 3 * k then fu else if b = 153 + 8 * (k + 1) + 7 then (cm 7) else if b = 153 + 8 * (k + 1) + 6 then (cm 6) else if b = 153 + 8 * (k + 1) + 5 then (cm 5) else if b = 153 + 8 * (k + 1) + 4 then (cm 4) else if b = 153 + 8 * (k + 1) + 3 then (cm 3) else if b = 153 + 8 * (k + 1) + 2 then (cm 2) else if b = 153 + 8 * (k + 1) + 1 then (cm 1) else if b = 153 + 8 * (k + 1) then (cm 0) else N b
/-- nine of h in place of g's -/
def c_nine (g h : Nat → Int64) : Nat → Int64 := fun b => if b < 9 then h b else g b
def c_do (M : ip_H) (k : Nat) (t : Bool) : ip_H := ip_sL (ip_sI M 109 (c_dof (M.2.1 109) (M.2.1 119) (M.2.1 108 17) (M.2.1 108 18) (ip_b t) k)) 110 (c_nine (M.2.2.1 110) (M.2.2.1 118))
set_option maxHeartbeats 40000000 in
set_option maxRecDepth 100000 in
theorem s_220 (X : ip_X) (M : ip_H) (K : Option Value → ip_H → Prop) (k : Nat) (hk : k < 60) (h5 : M.2.1 109 5 = Int32.ofNat k) (t : Bool) (ht : M.2.1 108 27 = ip_b t) (hG : ip_G M) : ip_wp X 220 0 [.ref 108, .retAddr 1, .retAddr 1] [] M K = K none (c_lb (c_do M k t) (k + 1)) := by
  have e1 : Int32.ofNat k + 1 = Int32.ofNat (k + 1) := ip_oa k 1
  have e80 : 153 + 8 * Int32.ofNat (k + 1) + 0 = Int32.ofNat (153 + 8 * (k + 1)) := by rw [show (153 : Int32) = Int32.ofNat 153 from rfl, show (8 : Int32) = Int32.ofNat 8 from rfl, show (0 : Int32) = Int32.ofNat 0 from rfl, ip_om, ip_oa, ip_oa] <;> rfl
  have n80 := eq_false (ip_nn (153 + 8 * (k + 1)) (by omega))
  have c80 := ip_nc (153 + 8 * (k + 1)) (by omega)
  have l80 : (153 + 8 * (k + 1) < 821) = True := eq_true (by omega)
  have e81 : 153 + 8 * Int32.ofNat (k + 1) + 1 = Int32.ofNat (153 + 8 * (k + 1) + 1) := by rw [show (153 : Int32) = Int32.ofNat 153 from rfl, show (8 : Int32) = Int32.ofNat 8 from rfl, show (1 : Int32) = Int32.ofNat 1 from rfl, ip_om, ip_oa, ip_oa] <;> rfl
  have n81 := eq_false (ip_nn (153 + 8 * (k + 1) + 1) (by omega))
  have c81 := ip_nc (153 + 8 * (k + 1) + 1) (by omega)
  have l81 : (153 + 8 * (k + 1) + 1 < 821) = True := eq_true (by omega)
  have e82 : 153 + 8 * Int32.ofNat (k + 1) + 2 = Int32.ofNat (153 + 8 * (k + 1) + 2) := by rw [show (153 : Int32) = Int32.ofNat 153 from rfl, show (8 : Int32) = Int32.ofNat 8 from rfl, show (2 : Int32) = Int32.ofNat 2 from rfl, ip_om, ip_oa, ip_oa] <;> rfl
  have n82 := eq_false (ip_nn (153 + 8 * (k + 1) + 2) (by omega))
  have c82 := ip_nc (153 + 8 * (k + 1) + 2) (by omega)
  have l82 : (153 + 8 * (k + 1) + 2 < 821) = True := eq_true (by omega)
  have e83 : 153 + 8 * Int32.ofNat (k + 1) + 3 = Int32.ofNat (153 + 8 * (k + 1) + 3) := by rw [show (153 : Int32) = Int32.ofNat 153 from rfl, show (8 : Int32) = Int32.ofNat 8 from rfl, show (3 : Int32) = Int32.ofNat 3 from rfl, ip_om, ip_oa, ip_oa] <;> rfl
  have n83 := eq_false (ip_nn (153 + 8 * (k + 1) + 3) (by omega))
  have c83 := ip_nc (153 + 8 * (k + 1) + 3) (by omega)
  have l83 : (153 + 8 * (k + 1) + 3 < 821) = True := eq_true (by omega)
  have e84 : 153 + 8 * Int32.ofNat (k + 1) + 4 = Int32.ofNat (153 + 8 * (k + 1) + 4) := by rw [show (153 : Int32) = Int32.ofNat 153 from rfl, show (8 : Int32) = Int32.ofNat 8 from rfl, show (4 : Int32) = Int32.ofNat 4 from rfl, ip_om, ip_oa, ip_oa] <;> rfl
  have n84 := eq_false (ip_nn (153 + 8 * (k + 1) + 4) (by omega))
  have c84 := ip_nc (153 + 8 * (k + 1) + 4) (by omega)
  have l84 : (153 + 8 * (k + 1) + 4 < 821) = True := eq_true (by omega)
  have e85 : 153 + 8 * Int32.ofNat (k + 1) + 5 = Int32.ofNat (153 + 8 * (k + 1) + 5) := by rw [show (153 : Int32) = Int32.ofNat 153 from rfl, show (8 : Int32) = Int32.ofNat 8 from rfl, show (5 : Int32) = Int32.ofNat 5 from rfl, ip_om, ip_oa, ip_oa] <;> rfl
  have n85 := eq_false (ip_nn (153 + 8 * (k + 1) + 5) (by omega))
  have c85 := ip_nc (153 + 8 * (k + 1) + 5) (by omega)
  have l85 : (153 + 8 * (k + 1) + 5 < 821) = True := eq_true (by omega)
  have e86 : 153 + 8 * Int32.ofNat (k + 1) + 6 = Int32.ofNat (153 + 8 * (k + 1) + 6) := by rw [show (153 : Int32) = Int32.ofNat 153 from rfl, show (8 : Int32) = Int32.ofNat 8 from rfl, show (6 : Int32) = Int32.ofNat 6 from rfl, ip_om, ip_oa, ip_oa] <;> rfl
  have n86 := eq_false (ip_nn (153 + 8 * (k + 1) + 6) (by omega))
  have c86 := ip_nc (153 + 8 * (k + 1) + 6) (by omega)
  have l86 : (153 + 8 * (k + 1) + 6 < 821) = True := eq_true (by omega)
  have e87 : 153 + 8 * Int32.ofNat (k + 1) + 7 = Int32.ofNat (153 + 8 * (k + 1) + 7) := by rw [show (153 : Int32) = Int32.ofNat 153 from rfl, show (8 : Int32) = Int32.ofNat 8 from rfl, show (7 : Int32) = Int32.ofNat 7 from rfl, ip_om, ip_oa, ip_oa] <;> rfl
  have n87 := eq_false (ip_nn (153 + 8 * (k + 1) + 7) (by omega))
  have c87 := ip_nc (153 + 8 * (k + 1) + 7) (by omega)
  have l87 : (153 + 8 * (k + 1) + 7 < 821) = True := eq_true (by omega)
  have e30 : 641 + 3 * Int32.ofNat k = Int32.ofNat (641 + 3 * k) := by rw [show (641 : Int32) = Int32.ofNat 641 from rfl, show (3 : Int32) = Int32.ofNat 3 from rfl, ip_om, ip_oa]
  have n30 := eq_false (ip_nn (641 + 3 * k) (by omega))
  have c30 := ip_nc (641 + 3 * k) (by omega)
  have l30 : (641 + 3 * k < 821) = True := eq_true (by omega)
  have e31 : Int32.ofNat (641 + 3 * k) + 1 = Int32.ofNat (641 + 3 * k + 1) := ip_oa _ 1
  have n31 := eq_false (ip_nn (641 + 3 * k + 1) (by omega))
  have c31 := ip_nc (641 + 3 * k + 1) (by omega)
  have l31 : (641 + 3 * k + 1 < 821) = True := eq_true (by omega)
  have e32 : Int32.ofNat (641 + 3 * k) + 2 = Int32.ofNat (641 + 3 * k + 2) := ip_oa _ 2
  have n32 := eq_false (ip_nn (641 + 3 * k + 2) (by omega))
  have c32 := ip_nc (641 + 3 * k + 2) (by omega)
  have l32 : (641 + 3 * k + 2 < 821) = True := eq_true (by omega)
  have hk1 : k + 1 ≤ 60 := hk
  have hD : ip_wp X 220 0 [.ref 108, .retAddr 1, .retAddr 1] [] M K = ip_wp X 220 139 [.ref 108, .int (Int32.ofNat k), .int 9] [] (c_do M k t) K := by
    have key : ∀ M1, M1 = c_do M k t → ip_wp X 220 139 [.ref 108, .int (Int32.ofNat k), .int 9] [] M1 K = ip_wp X 220 139 [.ref 108, .int (Int32.ofNat k), .int 9] [] (c_do M k t) K := fun M1 h => by rw [h]
    cases t
    all_goals (simp (config := { maxSteps := 10000000, maxDischargeDepth := 30, decide := true }) only [w220_0, w220_1, w220_4, w220_5, w220_6, w220_7, w220_8, w220_9, w220_10, w220_12, w220_15, w220_16, w220_19, w220_22, w220_24, w220_25, w220_26, w220_27, w220_28, w220_29, w220_30, w220_31, w220_32, w220_35, w220_36, w220_37, w220_38, w220_41, w220_44, w220_45, w220_48, w220_51, w220_52, w220_53, w220_54, w220_55, w220_56, w220_59, w220_60, w220_61, w220_64, w220_67, w220_68, w220_69, w220_70, w220_71, w220_72, w220_73, w220_74, w220_77, w220_78, w220_79, w220_82, w220_85, w220_86, w220_87, w220_88, w220_89, w220_90, w220_91, w220_92, w220_95, w220_98, w220_99, w220_102, w220_103, w220_104, w220_105, w220_106, w220_107, w220_109, w220_112, w220_113, w220_116, w220_117, w220_118, w220_121, w220_122, w220_123, w220_124, w220_127, w220_130, w220_131, w220_134, w220_135, w220_136, w220_137, w220_138, ↓ip_ka0, ↓ip_ki1, ↓ip_ki2, ip_get_0, ip_get_s, ip_set1, ip_clr_s, ip_cat_i, List.set_cons_zero, List.set_cons_succ, ip_uI_I, ip_uI_L, ip_uI_R, ip_uI_sh, ip_uL_L, ip_uL_R, ip_uL_sh, ip_vr_some, Option.toList_none, List.nil_append, List.length_nil, ↓reduceIte, Nat.reduceEqDiff, Nat.zero_le, false_and, and_self, not_false_eq_true, ip_b_t, ip_b_f, Int32.reduceAdd, Int32.reduceToNatClampNeg, ip_ix_eq, gS_108 hG, gS_109 hG, gS_110 hG, gS_118 hG, gS_119 hG, gR_108_1 hG, gR_108_2 hG, gR_108_28 hG, gR_108_30 hG, h5, ht, e1, e80, n80, c80, l80, e81, n81, c81, l81, e82, n82, c82, l82, e83, n83, c83, l83, e84, n84, c84, l84, e85, n85, c85, l85, e86, n86, c86, l86, e87, n87, c87, l87, e30, n30, c30, l30, e31, n31, c31, l31, e32, n32, c32, l32])
    all_goals (apply key)
    all_goals (unfold c_do c_dof)
    all_goals (simp only [nf_IL])
    all_goals (rw [ip_uI_as M 109])
    all_goals (simp only [ip_uI_sI])
    all_goals (rw [ip_uL_as (ip_sI M 109 _) 110])
    all_goals (simp only [ip_uL_sL])
    all_goals (refine congr (congrArg (fun (A : ip_H) G => ip_sL A 110 G) ?_) ?_)
    all_goals (first | rfl | (funext b; unfold c_nine; match b with
      | 0 => rfl
      | 1 => rfl
      | 2 => rfl
      | 3 => rfl
      | 4 => rfl
      | 5 => rfl
      | 6 => rfl
      | 7 => rfl
      | 8 => rfl
      | n + 9 => simp [ip_sI_L]; omega))
  rw [hD]
  have hG2 : ip_G (c_do M k t) := hG
  have h52 : (c_do M k t).2.1 109 5 = Int32.ofNat (k + 1) := by
    unfold c_do
    rw [ip_sL_I, ip_sI_I, if_pos rfl]
    rfl
  simp (config := { maxSteps := 10000000, maxDischargeDepth := 30, decide := true }) only [w220_139, w220_140, ↓ip_ka0, ↓ip_ki1, ↓ip_ki2, ip_get_0, ip_get_s, ip_set1, ip_clr_s, ip_cat_i, List.set_cons_zero, List.set_cons_succ, ip_uI_I, ip_uI_L, ip_uI_R, ip_uI_sh, ip_uL_L, ip_uL_R, ip_uL_sh, ip_vr_some, Option.toList_none, List.nil_append, List.length_nil, ↓reduceIte, Nat.reduceEqDiff, Nat.zero_le, false_and, and_self, not_false_eq_true, ip_b_t, ip_b_f, Int32.reduceAdd, Int32.reduceToNatClampNeg, ip_ix_eq, gS_108 hG2]
  refine (s_222 X _ _ (k + 1) hk1 h52 hG2).trans ?_
  simp (config := { maxSteps := 10000000, maxDischargeDepth := 30, decide := true }) only [w220_143, ↓ip_ka0, ↓ip_ki1, ↓ip_ki2, ip_get_0, ip_get_s, ip_set1, ip_clr_s, ip_cat_i, List.set_cons_zero, List.set_cons_succ, ip_uI_I, ip_uI_L, ip_uI_R, ip_uI_sh, ip_uL_L, ip_uL_R, ip_uL_sh, ip_vr_some, Option.toList_none, List.nil_append, List.length_nil, ↓reduceIte, Nat.reduceEqDiff, Nat.zero_le, false_and, and_self, not_false_eq_true, ip_b_t, ip_b_f, Int32.reduceAdd, Int32.reduceToNatClampNeg, ip_ix_eq]
end
noncomputable section
-- PART 71.ops7
-- THE REFERENCE: begin, step, go, keep
theorem gG_bg (M : ip_H) (i j : Nat) (w : Int32) (h : ip_G M) : ip_G (c_bg M i j w) := by
  unfold c_bg
  repeat (first | refine gG_uL _ _ _ _ ?_ | refine gG_uI _ _ _ _ ?_)
  exact h
theorem c_bg_q (M : ip_H) (i j : Nat) (w : Int32) : (c_bg M i j w).2.1 109 1 = M.2.1 109 1 := by unfold c_bg; simp (decide := true) only [ip_uL_I, ip_uI_I, ↓reduceIte]
/-- the next step is laid out in M1 -/
def tried (M M1 : ip_H) : Prop := r_k (M.2.1 109) ≠ 60 ∧ (q_c false (M.2.2.1 110) (r_fu (M.2.1 109)).toInt64 (r_fv (M.2.1 109)).toInt64).2 = false ∧
  ∃ u v, u = zQ4 (r_v (M.2.1 109) 0) (r_v (M.2.1 109) 1) (r_v (M.2.1 109) 2) (r_g (M.2.1 109)) (r_f (M.2.1 109)) ∧ v = zQ4 (r_v (M.2.1 109) 0) (r_v (M.2.1 109) 1) (r_v (M.2.1 109) 2) (1, 0, 0, 1) (r_f (M.2.1 109)) ∧
  z_nxt (r_v (M.2.1 109) 0) (r_v (M.2.1 109) 1) (r_v (M.2.1 109) 2) u = true ∧ z_nxt (r_v (M.2.1 109) 0) (r_v (M.2.1 109) 1) (r_v (M.2.1 109) 2) v = true ∧
  M1.2.1 108 17 = r_fu (M.2.1 109) ∧ M1.2.1 108 18 = r_fv (M.2.1 109) ∧ M1.2.1 108 27 = ip_b (r_t (M.2.1 109)) ∧ (∀ j, j < 9 → M1.2.2.1 118 j = q_nx false (M.2.2.1 110) (r_fu (M.2.1 109)).toInt64 (r_fv (M.2.1 109)).toInt64 (r_t (M.2.1 109)) j) ∧
  M1.2.1 119 0 = Int32.ofInt u.1 ∧ M1.2.1 119 1 = Int32.ofInt u.2.1 ∧ M1.2.1 119 2 = Int32.ofInt u.2.2.1 ∧ M1.2.1 119 3 = Int32.ofInt u.2.2.2 ∧ M1.2.1 119 4 = Int32.ofInt v.1 ∧ M1.2.1 119 5 = Int32.ofInt v.2.1 ∧ M1.2.1 119 6 = Int32.ofInt v.2.2.1 ∧ M1.2.1 119 7 = Int32.ofInt v.2.2.2
theorem tried_row {M M2 M1 : ip_H} (h1 : M2.2.1 109 = M.2.1 109) (h2 : M2.2.2.1 110 = M.2.2.1 110) (h : tried M2 M1) : tried M M1 := by
  unfold tried at *
  rw [h1, h2] at h
  exact h
theorem scr_pm (M : ip_H) : scr M (c_pm M) := scr_pt (scr_r M)
theorem c_pm_row (M : ip_H) : (c_pm M).2.1 109 = M.2.1 109 := c_pt_row ..
theorem c_pm_110 (M : ip_H) : (c_pm M).2.2.1 110 = M.2.2.1 110 := c_pt_110 ..
theorem c_lbm_G {M : ip_H} {l : Nat} {o : Option Nat} (h : ip_G M) : ip_G (c_lbm M l o) := by cases o <;> exact h
theorem gG_lb (M : ip_H) (l : Nat) (h : ip_G M) : ip_G (c_lb M l) := by
  unfold c_lb
  split
  · exact c_lbm_G h
  · exact h
theorem c_lb_I (M : ip_H) (l a b : Nat) (h : ¬ (a = 109 ∧ (b = 6 ∨ b = 7))) : (c_lb M l).2.1 a b = M.2.1 a b := by
  unfold c_lb
  split
  · generalize lbk (M.2.1 109) l l 0 = o
    cases o with
    | none => rfl
    | some k =>
      unfold c_lbm
      rw [ip_uI_I, if_neg (by omega), ip_uI_I, if_neg (by omega)]
  · rfl
theorem c_lb_L (M : ip_H) (l : Nat) : (c_lb M l).2.2.1 = M.2.2.1 := by
  unfold c_lb
  split
  · generalize lbk (M.2.1 109) l l 0 = o
    cases o <;> rfl
  · rfl
theorem gG_do (M : ip_H) (k : Nat) (t : Bool) (h : ip_G M) : ip_G (c_do M k t) := h
theorem c_do_5 (M : ip_H) (k : Nat) (t : Bool) : (c_do M k t).2.1 109 5 = Int32.ofNat (k + 1) := by
  unfold c_do
  rw [ip_sL_I, ip_sI_I, if_pos rfl]
  rfl
/-- one that has a course, or none -/
def onc (N : Nat → Int32) : Prop := ¬ N 3 = 0 → crs N

set_option maxHeartbeats 40000000 in
set_option maxRecDepth 100000 in
theorem o_219 (X : ip_X) (M : ip_H) (K : Option Value → ip_H → Prop) (hG : ip_G M) (hc : crs (M.2.1 109)) (hF : zF (M.2.1 109 0).toInt (M.2.1 109 1).toInt (M.2.1 109 2).toInt = true) (he : r_e (M.2.1 109) = false)
    (h0 : ∀ M1, scr M M1 → K (some (.int 0)) M1) (h1 : ∀ M1, scr M M1 → tried M M1 → K (some (.int 1)) M1) : ip_wp X 219 0 [.ref 108] [] M K := by
  have hq : q3 (M.2.1 109 1) = true := by rw [q3_b]; exact (zF_b hF).2.1
  obtain ⟨bf, bg⟩ := crs_fg hF hc
  refine s_219 X M K hG hq hc.1 hc.2.1 hF bf bg (r_e_nz bf he) h0 ?_
  intro M1 hs h60 hB u v hu hv hzu hzv hM
  refine h1 M1 hs ⟨h60, hB, u, v, hu, hv, hzu, hzv, ?_⟩
  have q : ∀ j, j < 9 → M1.2.2.1 118 j = q_nx false (M.2.2.1 110) (r_fu (M.2.1 109)).toInt64 (r_fv (M.2.1 109)).toInt64 (r_t (M.2.1 109)) j := by
    intro j hj
    rw [← c_sq_n (ip_uI (c_pm M) 108 29 0) _ _ _ _ _ _ hj, hM]
    unfold c_x4
    simp (decide := true) only [c_cm_L, ip_x4_L, false_and, ↓reduceIte]
  refine ⟨?_, ?_, ?_, q, ?_⟩
  · rw [hM]; unfold c_x4 c_pm; simp (decide := true) only [c_cm_I, ip_x4_I, c_sq_I, ip_uI_I, c_pt_I, ↓reduceIte]
  · rw [hM]; unfold c_x4 c_pm; simp (decide := true) only [c_cm_I, ip_x4_I, c_sq_I, ip_uI_I, c_pt_I, ↓reduceIte]
  · rw [hM]; unfold c_x4 c_pm; simp (decide := true) only [c_cm_I, ip_x4_I, c_sq_I, ip_uI_I, c_pt_I, ↓reduceIte]
  · rw [hM]
    unfold c_x4
    simp (decide := true) only [c_cm_I, ip_x4_I, ↓reduceIte, and_self]
end
noncomputable section
-- PART 72.ops8
-- THE REFERENCE: go, keep
theorem i60 {x : Int32} (h : i_in x 1 60 = true) : ∃ i : Nat, 1 ≤ i ∧ i ≤ 60 ∧ x = Int32.ofNat i := by
  rw [i_in_z] at h
  have e0 : (1 : Int32).toInt = 1 := rfl
  have e5 : (60 : Int32).toInt = 60 := rfl
  have hx := ip_nat x (by omega)
  have e : x.toNatClampNeg = x.toInt.toNat := rfl
  exact ⟨x.toNatClampNeg, by omega, by omega, hx⟩
/-- a step done where L stands -/
def c_dn1 (L : ip_H) (t : Bool) : ip_H := c_lb (c_do L (r_k (L.2.1 109)) t) (r_k (L.2.1 109) + 1)
theorem c_dn1_5 (L : ip_H) (t : Bool) : (c_dn1 L t).2.1 109 5 = Int32.ofNat (r_k (L.2.1 109) + 1) := by
  unfold c_dn1
  rw [c_lb_I _ _ _ _ (by omega)]
  exact c_do_5 _ _ _
theorem gG_dn1 (L : ip_H) (t : Bool) (h : ip_G L) : ip_G (c_dn1 L t) := gG_lb _ _ (gG_do _ _ _ h)
/-- a value moved from a row's place into the store -/
def c_mv (M : ip_H) (i s : Nat) : ip_H := ip_uI (ip_uI (ip_uI (ip_uI M 109 (9 + 4 * i) (M.2.1 109 s)) 109 (9 + 4 * i + 1) (M.2.1 109 (s + 1))) 109 (9 + 4 * i + 2) (M.2.1 109 (s + 2))) 109 (9 + 4 * i + 3) (M.2.1 109 (s + 3))
theorem gG_mv (M : ip_H) (i s : Nat) (h : ip_G M) : ip_G (c_mv M i s) := gG_uI _ _ _ _ (gG_uI _ _ _ _ (gG_uI _ _ _ _ (gG_uI _ _ _ _ h)))
theorem c_mv_out (M : ip_H) (i s b : Nat) (h : b < 9 + 4 * i ∨ 9 + 4 * i + 4 ≤ b) : (c_mv M i s).2.1 109 b = M.2.1 109 b := by
  unfold c_mv
  rw [ip_uI_I, if_neg (by omega), ip_uI_I, if_neg (by omega), ip_uI_I, if_neg (by omega), ip_uI_I, if_neg (by omega)]

set_option maxHeartbeats 40000000 in
set_option maxRecDepth 100000 in
theorem s_225a (X : ip_X) (M : ip_H) (K : Option Value → ip_H → Prop) (i j s : Nat) (w : Value) (hw : w.category = 1) (hi : i < 6) (hj : j < 6) (hs : 153 ≤ s) (hs2 : s ≤ 800) (hG : ip_G M) : ip_wp X 225 62 [.ref 108, .int (Int32.ofNat i), .int (Int32.ofNat j), .int (Int32.ofNat s), w] [] M K = ip_wp X 225 100 [.ref 108, .int (Int32.ofNat i), .int (Int32.ofNat j), .int (Int32.ofNat s), .int 4] [] (c_mv M i (s)) K := by
  have et0 : 9 + 4 * Int32.ofNat i + 0 = Int32.ofNat (9 + 4 * i) := by rw [show (9 : Int32) = Int32.ofNat 9 from rfl, show (4 : Int32) = Int32.ofNat 4 from rfl, show (0 : Int32) = Int32.ofNat 0 from rfl, ip_om, ip_oa, ip_oa] <;> rfl
  have es0 : Int32.ofNat s + 0 = Int32.ofNat (s) := ip_oa _ 0
  have nt0 := eq_false (ip_nn (9 + 4 * i) (by omega))
  have ct0 := ip_nc (9 + 4 * i) (by omega)
  have lt0 : (9 + 4 * i < 821) = True := eq_true (by omega)
  have ns0 := eq_false (ip_nn (s) (by omega))
  have cs0 := ip_nc (s) (by omega)
  have ls0 : (s < 821) = True := eq_true (by omega)
  have et1 : 9 + 4 * Int32.ofNat i + 1 = Int32.ofNat (9 + 4 * i + 1) := by rw [show (9 : Int32) = Int32.ofNat 9 from rfl, show (4 : Int32) = Int32.ofNat 4 from rfl, show (1 : Int32) = Int32.ofNat 1 from rfl, ip_om, ip_oa, ip_oa] <;> rfl
  have es1 : Int32.ofNat s + 1 = Int32.ofNat (s + 1) := ip_oa _ 1
  have nt1 := eq_false (ip_nn (9 + 4 * i + 1) (by omega))
  have ct1 := ip_nc (9 + 4 * i + 1) (by omega)
  have lt1 : (9 + 4 * i + 1 < 821) = True := eq_true (by omega)
  have ns1 := eq_false (ip_nn (s + 1) (by omega))
  have cs1 := ip_nc (s + 1) (by omega)
  have ls1 : (s + 1 < 821) = True := eq_true (by omega)
  have et2 : 9 + 4 * Int32.ofNat i + 2 = Int32.ofNat (9 + 4 * i + 2) := by rw [show (9 : Int32) = Int32.ofNat 9 from rfl, show (4 : Int32) = Int32.ofNat 4 from rfl, show (2 : Int32) = Int32.ofNat 2 from rfl, ip_om, ip_oa, ip_oa] <;> rfl
  have es2 : Int32.ofNat s + 2 = Int32.ofNat (s + 2) := ip_oa _ 2
  have nt2 := eq_false (ip_nn (9 + 4 * i + 2) (by omega))
  have ct2 := ip_nc (9 + 4 * i + 2) (by omega)
  have lt2 : (9 + 4 * i + 2 < 821) = True := eq_true (by omega)
  have ns2 := eq_false (ip_nn (s + 2) (by omega))
  have cs2 := ip_nc (s + 2) (by omega)
  have ls2 : (s + 2 < 821) = True := eq_true (by omega)
  have et3 : 9 + 4 * Int32.ofNat i + 3 = Int32.ofNat (9 + 4 * i + 3) := by rw [show (9 : Int32) = Int32.ofNat 9 from rfl, show (4 : Int32) = Int32.ofNat 4 from rfl, show (3 : Int32) = Int32.ofNat 3 from rfl, ip_om, ip_oa, ip_oa] <;> rfl
  have es3 : Int32.ofNat s + 3 = Int32.ofNat (s + 3) := ip_oa _ 3
  have nt3 := eq_false (ip_nn (9 + 4 * i + 3) (by omega))
  have ct3 := ip_nc (9 + 4 * i + 3) (by omega)
  have lt3 : (9 + 4 * i + 3 < 821) = True := eq_true (by omega)
  have ns3 := eq_false (ip_nn (s + 3) (by omega))
  have cs3 := ip_nc (s + 3) (by omega)
  have ls3 : (s + 3 < 821) = True := eq_true (by omega)
  have d00 : (s = 9 + 4 * i) = False := eq_false (by omega)
  have d01 : (s = 9 + 4 * i + 1) = False := eq_false (by omega)
  have d02 : (s = 9 + 4 * i + 2) = False := eq_false (by omega)
  have d03 : (s = 9 + 4 * i + 3) = False := eq_false (by omega)
  have d10 : (s + 1 = 9 + 4 * i) = False := eq_false (by omega)
  have d11 : (s + 1 = 9 + 4 * i + 1) = False := eq_false (by omega)
  have d12 : (s + 1 = 9 + 4 * i + 2) = False := eq_false (by omega)
  have d13 : (s + 1 = 9 + 4 * i + 3) = False := eq_false (by omega)
  have d20 : (s + 2 = 9 + 4 * i) = False := eq_false (by omega)
  have d21 : (s + 2 = 9 + 4 * i + 1) = False := eq_false (by omega)
  have d22 : (s + 2 = 9 + 4 * i + 2) = False := eq_false (by omega)
  have d23 : (s + 2 = 9 + 4 * i + 3) = False := eq_false (by omega)
  have d30 : (s + 3 = 9 + 4 * i) = False := eq_false (by omega)
  have d31 : (s + 3 = 9 + 4 * i + 1) = False := eq_false (by omega)
  have d32 : (s + 3 = 9 + 4 * i + 2) = False := eq_false (by omega)
  have d33 : (s + 3 = 9 + 4 * i + 3) = False := eq_false (by omega)
  unfold c_mv
  simp (config := { maxSteps := 10000000, maxDischargeDepth := 30, decide := true }) only [w225_62, w225_63, w225_65, w225_67, w225_68, w225_71, w225_72, w225_75, w225_77, w225_78, w225_79, w225_80, w225_81, w225_83, w225_84, w225_85, w225_88, w225_89, w225_91, w225_92, w225_93, w225_94, w225_97, ↓ip_ka0, ↓ip_ki1, ↓ip_ki3, ↓ip_ki4, ip_get_0, ip_get_s, ip_set1, ip_clr_s, ip_cat_i, List.set_cons_zero, List.set_cons_succ, ip_uI_I, ip_uI_R, ip_uI_sh, ip_vr_some, ↓reduceIte, Nat.reduceEqDiff, and_false, and_self, not_false_eq_true, Int32.reduceAdd, ip_ix_eq, gS_108 hG, gS_109 hG, gR_108_1 hG, et0, es0, nt0, ct0, lt0, ns0, cs0, ls0, et1, es1, nt1, ct1, lt1, ns1, cs1, ls1, et2, es2, nt2, ct2, lt2, ns2, cs2, ls2, et3, es3, nt3, ct3, lt3, ns3, cs3, ls3, d00, d01, d02, d03, d10, d11, d12, d13, d20, d21, d22, d23, d30, d31, d32, d33]

set_option maxHeartbeats 40000000 in
set_option maxRecDepth 100000 in
theorem s_225b (X : ip_X) (M : ip_H) (K : Option Value → ip_H → Prop) (i j s : Nat) (w : Value) (hw : w.category = 1) (hi : i < 6) (hj : j < 6) (hs : 153 ≤ s) (hs2 : s ≤ 800) (hG : ip_G M) : ip_wp X 225 100 [.ref 108, .int (Int32.ofNat i), .int (Int32.ofNat j), .int (Int32.ofNat s), w] [] M K = ip_wp X 225 140 [.ref 108, .int (Int32.ofNat i), .int (Int32.ofNat j), .int (Int32.ofNat s), .int 4] [] (c_mv M j (s + 4)) K := by
  have et0 : 9 + 4 * Int32.ofNat j + 0 = Int32.ofNat (9 + 4 * j) := by rw [show (9 : Int32) = Int32.ofNat 9 from rfl, show (4 : Int32) = Int32.ofNat 4 from rfl, show (0 : Int32) = Int32.ofNat 0 from rfl, ip_om, ip_oa, ip_oa] <;> rfl
  have es0 : Int32.ofNat (s + 4) + 0 = Int32.ofNat (s + 4) := ip_oa _ 0
  have nt0 := eq_false (ip_nn (9 + 4 * j) (by omega))
  have ct0 := ip_nc (9 + 4 * j) (by omega)
  have lt0 : (9 + 4 * j < 821) = True := eq_true (by omega)
  have ns0 := eq_false (ip_nn (s + 4) (by omega))
  have cs0 := ip_nc (s + 4) (by omega)
  have ls0 : (s + 4 < 821) = True := eq_true (by omega)
  have et1 : 9 + 4 * Int32.ofNat j + 1 = Int32.ofNat (9 + 4 * j + 1) := by rw [show (9 : Int32) = Int32.ofNat 9 from rfl, show (4 : Int32) = Int32.ofNat 4 from rfl, show (1 : Int32) = Int32.ofNat 1 from rfl, ip_om, ip_oa, ip_oa] <;> rfl
  have es1 : Int32.ofNat (s + 4) + 1 = Int32.ofNat (s + 5) := ip_oa _ 1
  have nt1 := eq_false (ip_nn (9 + 4 * j + 1) (by omega))
  have ct1 := ip_nc (9 + 4 * j + 1) (by omega)
  have lt1 : (9 + 4 * j + 1 < 821) = True := eq_true (by omega)
  have ns1 := eq_false (ip_nn (s + 5) (by omega))
  have cs1 := ip_nc (s + 5) (by omega)
  have ls1 : (s + 5 < 821) = True := eq_true (by omega)
  have et2 : 9 + 4 * Int32.ofNat j + 2 = Int32.ofNat (9 + 4 * j + 2) := by rw [show (9 : Int32) = Int32.ofNat 9 from rfl, show (4 : Int32) = Int32.ofNat 4 from rfl, show (2 : Int32) = Int32.ofNat 2 from rfl, ip_om, ip_oa, ip_oa] <;> rfl
  have es2 : Int32.ofNat (s + 4) + 2 = Int32.ofNat (s + 6) := ip_oa _ 2
  have nt2 := eq_false (ip_nn (9 + 4 * j + 2) (by omega))
  have ct2 := ip_nc (9 + 4 * j + 2) (by omega)
  have lt2 : (9 + 4 * j + 2 < 821) = True := eq_true (by omega)
  have ns2 := eq_false (ip_nn (s + 6) (by omega))
  have cs2 := ip_nc (s + 6) (by omega)
  have ls2 : (s + 6 < 821) = True := eq_true (by omega)
  have et3 : 9 + 4 * Int32.ofNat j + 3 = Int32.ofNat (9 + 4 * j + 3) := by rw [show (9 : Int32) = Int32.ofNat 9 from rfl, show (4 : Int32) = Int32.ofNat 4 from rfl, show (3 : Int32) = Int32.ofNat 3 from rfl, ip_om, ip_oa, ip_oa] <;> rfl
  have es3 : Int32.ofNat (s + 4) + 3 = Int32.ofNat (s + 7) := ip_oa _ 3
  have nt3 := eq_false (ip_nn (9 + 4 * j + 3) (by omega))
  have ct3 := ip_nc (9 + 4 * j + 3) (by omega)
  have lt3 : (9 + 4 * j + 3 < 821) = True := eq_true (by omega)
  have ns3 := eq_false (ip_nn (s + 7) (by omega))
  have cs3 := ip_nc (s + 7) (by omega)
  have ls3 : (s + 7 < 821) = True := eq_true (by omega)
  have eo : Int32.ofNat s + 4 = Int32.ofNat (s + 4) := ip_oa _ 4
  have d00 : (s + 4 = 9 + 4 * j) = False := eq_false (by omega)
  have d01 : (s + 4 = 9 + 4 * j + 1) = False := eq_false (by omega)
  have d02 : (s + 4 = 9 + 4 * j + 2) = False := eq_false (by omega)
  have d03 : (s + 4 = 9 + 4 * j + 3) = False := eq_false (by omega)
  have d10 : (s + 5 = 9 + 4 * j) = False := eq_false (by omega)
  have d11 : (s + 5 = 9 + 4 * j + 1) = False := eq_false (by omega)
  have d12 : (s + 5 = 9 + 4 * j + 2) = False := eq_false (by omega)
  have d13 : (s + 5 = 9 + 4 * j + 3) = False := eq_false (by omega)
  have d20 : (s + 6 = 9 + 4 * j) = False := eq_false (by omega)
  have d21 : (s + 6 = 9 + 4 * j + 1) = False := eq_false (by omega)
  have d22 : (s + 6 = 9 + 4 * j + 2) = False := eq_false (by omega)
  have d23 : (s + 6 = 9 + 4 * j + 3) = False := eq_false (by omega)
  have d30 : (s + 7 = 9 + 4 * j) = False := eq_false (by omega)
  have d31 : (s + 7 = 9 + 4 * j + 1) = False := eq_false (by omega)
  have d32 : (s + 7 = 9 + 4 * j + 2) = False := eq_false (by omega)
  have d33 : (s + 7 = 9 + 4 * j + 3) = False := eq_false (by omega)
  unfold c_mv
  simp (config := { maxSteps := 10000000, maxDischargeDepth := 30, decide := true }) only [w225_100, w225_101, w225_103, w225_105, w225_106, w225_109, w225_110, w225_113, w225_115, w225_116, w225_117, w225_118, w225_119, w225_121, w225_122, w225_123, w225_126, w225_127, w225_128, w225_129, w225_131, w225_132, w225_133, w225_134, w225_137, ↓ip_ka0, ↓ip_ki2, ↓ip_ki3, ↓ip_ki4, ip_get_0, ip_get_s, ip_set1, ip_clr_s, ip_cat_i, List.set_cons_zero, List.set_cons_succ, ip_uI_I, ip_uI_R, ip_uI_sh, ip_vr_some, ↓reduceIte, Nat.reduceEqDiff, and_false, and_self, not_false_eq_true, Int32.reduceAdd, ip_ix_eq, gS_108 hG, gS_109 hG, gR_108_1 hG, et0, es0, nt0, ct0, lt0, ns0, cs0, ls0, et1, es1, nt1, ct1, lt1, ns1, cs1, ls1, et2, es2, nt2, ct2, lt2, ns2, cs2, ls2, et3, es3, nt3, ct3, lt3, ns3, cs3, ls3, eo, d00, d01, d02, d03, d10, d11, d12, d13, d20, d21, d22, d23, d30, d31, d32, d33]
end
noncomputable section
-- PART 73.ops9
-- THE REFERENCE: undo, image, back
theorem i1 {x : Int32} (h : i_in x 0 1 = true) : ∃ i : Nat, i ≤ 1 ∧ x = Int32.ofNat i := by
  rw [i_in_z] at h
  have e0 : (0 : Int32).toInt = 0 := rfl
  have e5 : (1 : Int32).toInt = 1 := rfl
  have hx := ip_nat x (by omega)
  have e : x.toNatClampNeg = x.toInt.toNat := rfl
  exact ⟨x.toNatClampNeg, by omega, hx⟩
theorem ip_11 : (1 : Int32) &&& 1 = 1 := by decide
def c_bk (M : ip_H) (m : Nat) : ip_H := ip_sL (ip_sI M 109 (c_cp (M.2.1 109) (M.2.1 112) 0 (821 * m) 821)) 110 (c_cp (M.2.2.1 110) (M.2.2.1 115) 0 (9 * m) 9)
def c_im (M : ip_H) (m : Nat) : ip_H := ip_uI (ip_sL (ip_sI M 114 (c_cp (M.2.1 114) (M.2.1 109) (821 * m) 0 821)) 116 (c_cp (M.2.2.1 116) (M.2.2.1 110) (9 * m) 0 9)) 117 m 1
def c_bi (M : ip_H) (m : Nat) : ip_H := ip_uI (ip_sL (ip_sI M 109 (c_cp (M.2.1 109) (M.2.1 114) 0 (821 * m) 821)) 110 (c_cp (M.2.2.1 110) (M.2.2.1 116) 0 (9 * m) 9)) 108 12 0
def c_sn (N : Nat → Int32) : Int32 := if N 3 = 1 then N 5 else -1
set_option maxHeartbeats 40000000 in
set_option maxRecDepth 100000 in
theorem s_171 (X : ip_X) (M : ip_H) (K : Option Value → ip_H → Prop) (m : Nat) (hm : m ≤ 7) (h12 : M.2.1 108 12 = Int32.ofNat m) (hG : ip_G M) : ip_wp X 171 0 [.ref 108, .retAddr 1] [] M K = K none (c_bk M m) := by
  simp (config := { maxSteps := 10000000, maxDischargeDepth := 30, decide := true }) only [w171_0, w171_1, ip_set1, ip_clr_s, List.set_cons_zero, List.set_cons_succ, ↓reduceIte]
  refine (s_171a0 X M K m hm h12 hG).trans ?_
  simp (config := { maxSteps := 10000000, maxDischargeDepth := 30, decide := true }) only [w171_36, w171_37, ip_set1, ip_clr_s, List.set_cons_zero, List.set_cons_succ, ↓reduceIte, Int32.reduceOfNat]
  refine (s_171b0 X (ip_sI M 109 (c_cp (M.2.1 109) (M.2.1 112) 0 (821 * m) 821)) K m hm h12 hG).trans ?_
  simp (config := { maxSteps := 10000000, maxDischargeDepth := 30, decide := true }) only [w171_70, ip_sI_L, Int32.reduceOfNat]
  rfl

set_option maxHeartbeats 40000000 in
set_option maxRecDepth 100000 in
theorem s_173 (X : ip_X) (M : ip_H) (K : Option Value → ip_H → Prop) (hG : ip_G M) : ip_wp X 173 0 [.ref 108] [] M K = K (some (.int (c_sn (M.2.1 109)))) M := by
  unfold c_sn
  by_cases h : M.2.1 109 3 = 1
  · simp (config := { maxSteps := 10000000, maxDischargeDepth := 30, decide := true }) only [w173_0, w173_1, w173_4, w173_5, w173_6, w173_7, w173_10, w173_11, w173_14, w173_15, w173_16, w173_19, w173_20, ↓ip_ka0, ip_vr_some, ↓reduceIte, Int32.reduceToNatClampNeg, ip_ix_eq, gS_108 hG, gS_109 hG, gR_108_1 hG, h]
  · simp (config := { maxSteps := 10000000, maxDischargeDepth := 30, decide := true }) only [w173_0, w173_1, w173_4, w173_5, w173_6, w173_7, w173_10, w173_11, w173_14, w173_15, w173_16, w173_19, w173_20, ↓ip_ka0, ip_vr_some, ↓reduceIte, Int32.reduceToNatClampNeg, ip_ix_eq, gS_108 hG, gS_109 hG, gR_108_1 hG, h]

set_option maxHeartbeats 40000000 in
set_option maxRecDepth 100000 in
theorem o_172 (X : ip_X) (M : ip_H) (K : Option Value → ip_H → Prop) (hG : ip_G M) (hm : m8 (M.2.1 108 12) = true) (ht : M.2.1 108 0 = 0) (h1 : M.2.1 108 12 = 0 → K (some (.int (-4))) (c_no M 4 (-4)))
    (h2 : ∀ m : Nat, m ≤ 7 → M.2.1 108 12 = Int32.ofNat (m + 1) → K (some (.int (M.2.1 113 m))) (c_ye (c_bk (ip_uI M 108 12 (Int32.ofNat m)) m))) : ip_wp X 172 0 [.ref 108] [] M K := by
  have et : ip_uI M 108 0 0 = M := ip_uI_id ht
  by_cases h0 : M.2.1 108 12 = 0
  · have h1 := h1 h0
    simp (config := { maxSteps := 10000000, maxDischargeDepth := 30, decide := true }) only [w172_0, w172_1, w172_2, w172_5, w172_6, w172_9, w172_12, w172_13, w172_15, w172_18, w172_19, w172_20_r, w172_20_i, w172_21, w172_24, w172_25, w172_26, w172_29, w172_30, w172_33, w172_34, w172_35, w172_38, w172_39, w172_42, w172_43, w172_46, ↓ip_ka0, Option.toList_some, List.nil_append, List.cons_append, List.length_nil, ↓reduceIte, Nat.zero_le, gS_108 hG, hG, et, h0, s_167_4]
    exact h1
  unfold m8 at hm
  rw [Bool.and_eq_true, decide_eq_true_eq, decide_eq_true_eq] at hm
  have hx := ip_nat _ hm.1
  have e : (M.2.1 108 12).toNatClampNeg = (M.2.1 108 12).toInt.toNat := rfl
  have hne : (M.2.1 108 12).toInt ≠ 0 := fun q => h0 (Int32.toInt_inj.mp q)
  obtain ⟨m, hm7, hmm⟩ : ∃ m : Nat, m ≤ 7 ∧ M.2.1 108 12 = Int32.ofNat (m + 1) := ⟨(M.2.1 108 12).toInt.toNat - 1, by omega, hx.trans (congrArg Int32.ofNat (by omega))⟩
  clear hx e
  have h2 := h2 m hm7 hmm
  have es : Int32.ofNat (m + 1) - 1 = Int32.ofNat m := ip_osb (m + 1) 1 (by omega)
  have hn0 : (Int32.ofNat (m + 1) = 0) = False := by rw [← hmm]; exact eq_false h0
  have nm : (Int32.ofNat m < 0) = False := eq_false (ip_nn _ (by omega))
  have cm : (Int32.ofNat m).toNatClampNeg = m := ip_nc _ (by omega)
  have lm : (m < 8) = True := eq_true (by omega)
  have gM : ip_G (ip_uI M 108 12 (Int32.ofNat m)) := hG
  simp (config := { maxSteps := 10000000, maxDischargeDepth := 30, decide := true }) only [w172_0, w172_1, w172_2, w172_5, w172_6, w172_9, w172_12, w172_13, w172_15, w172_18, w172_19, w172_20_r, w172_21, w172_24, w172_25, w172_26, w172_29, w172_30, ↓ip_ka0, ip_uI_sh, List.length_nil, ↓reduceIte, Nat.zero_le, gS_108 hG, et, hmm, hn0, es]
  refine Eq.mpr (s_171 X _ _ m hm7 (by rw [ip_uI_I, if_pos ⟨rfl, rfl⟩]) gM) ?_
  have gB : ip_G (c_bk (ip_uI M 108 12 (Int32.ofNat m)) m) := gM
  have g8 := gS_108 gB
  have r7 := gR_108_7 gB
  have g13 := gS_113 gB
  have b12 : (c_bk (ip_uI M 108 12 (Int32.ofNat m)) m).2.1 108 12 = Int32.ofNat m := rfl
  have b113 : (c_bk (ip_uI M 108 12 (Int32.ofNat m)) m).2.1 113 m = M.2.1 113 m := rfl
  simp (config := { maxSteps := 10000000, maxDischargeDepth := 30, decide := true }) only [w172_33, w172_34, w172_35, w172_38, w172_39, w172_42, w172_43, w172_46, ↓ip_ka0, ip_vr_some, Option.toList_some, Option.toList_none, List.nil_append, List.cons_append, List.length_nil, Nat.zero_le, and_self, not_false_eq_true, ip_ix_eq, gB, g8, r7, g13, b12, b113, nm, cm, lm, s_168]
  exact h2

set_option maxHeartbeats 40000000 in
set_option maxRecDepth 100000 in
theorem o_174 (X : ip_X) (M : ip_H) (K : Option Value → ip_H → Prop) (k : Int32) (hG : ip_G M) (ht : M.2.1 108 0 = 0) (h1 : i_in k 0 1 = false → K (some (.int (-1))) (c_no M 1 (-1)))
    (h3 : ∀ m : Nat, m ≤ 1 → k = Int32.ofNat m → K (some (.int (c_sn ((c_im M m).2.1 109)))) (c_ye (c_im M m))) : ip_wp X 174 0 [.ref 108, .int k, .retAddr 1] [] M K := by
  have et : ip_uI M 108 0 0 = M := ip_uI_id ht
  cases e0 : i_in k 0 1
  · have h1 := h1 e0
    simp (config := { maxSteps := 10000000, maxDischargeDepth := 30, decide := true }) only [w174_0, w174_1, w174_2, w174_5, w174_6, w174_7, w174_8, w174_11, w174_14, w174_15, w174_16, w174_19, w174_20, w174_21, w174_22, w174_23, w174_26, w174_29, w174_30, w174_33, w174_36, w174_37, w174_38, w174_39, w174_40, w174_41, w174_44, w174_45, w174_46, w174_47, w174_50, w174_53, w174_54, w174_55, w174_56, w174_58, w174_61, w174_62, w174_65, w174_67, w174_68, w174_69, w174_70, w174_71, w174_72, w174_75, w174_76, w174_77, w174_78, w174_81, w174_84, w174_85, w174_88, w174_89, w174_90, w174_91, w174_92, w174_93, w174_96, w174_99, ↓ip_ka0, ↓ip_ki1, Option.toList_some, List.nil_append, List.cons_append, List.length_nil, ↓reduceIte, Nat.zero_le, ip_b_f, gS_108 hG, hG, et, e0, s_166, s_167_1]
    exact h1
  obtain ⟨m, hm1, rfl⟩ := i1 e0
  have nm : (Int32.ofNat m < 0) = False := eq_false (ip_nn _ (by omega))
  have cm : (Int32.ofNat m).toNatClampNeg = m := ip_nc _ (by omega)
  have lm : (m < 2) = True := eq_true (by omega)
  have h3 := h3 m hm1 rfl
  simp (config := { maxSteps := 10000000, maxDischargeDepth := 30, decide := true }) only [w174_0, w174_1, w174_2, w174_5, w174_6, w174_7, w174_8, w174_11, w174_14, w174_15, w174_16, w174_19, w174_20, w174_21, ↓ip_ka0, ↓ip_ki1, ip_get_0, ip_get_s, ip_set1, ip_clr_s, ip_cat_i, List.set_cons_zero, List.set_cons_succ, Option.toList_some, List.nil_append, List.cons_append, List.length_nil, ↓reduceIte, Nat.reduceEqDiff, Nat.zero_le, ip_b_t, gS_108 hG, et, e0, nm, cm, lm, s_166]
  refine Eq.mpr (s_174a0 X M K m hm1 hG) ?_
  simp (config := { maxSteps := 10000000, maxDischargeDepth := 30, decide := true }) only [w174_53, w174_54, ip_get_0, ip_get_s, ip_set1, ip_clr_s, ip_cat_i, List.set_cons_zero, List.set_cons_succ, ↓reduceIte, Nat.reduceEqDiff, Int32.reduceOfNat]
  refine Eq.mpr (s_174b0 X (ip_sI M 114 (c_cp (M.2.1 114) (M.2.1 109) (821 * m) 0 821)) K m hm1 hG) ?_
  have gB : ip_G (ip_sL (ip_sI M 114 (c_cp (M.2.1 114) (M.2.1 109) (821 * m) 0 821)) 116 (c_cp (M.2.2.1 116) (M.2.2.1 110) (9 * m) 0 9)) := hG
  have g8 := gS_108 gB
  have r11 := gR_108_11 gB
  have g17 := gS_117 gB
  have gF : ip_G (c_im M m) := gG_uI _ _ _ _ (gG_sL _ _ _ (gG_sI _ _ _ hG))
  have g8F := gS_108 gF
  have eF : ip_uI (ip_sL (ip_sI M 114 (c_cp (M.2.1 114) (M.2.1 109) (821 * m) 0 821)) 116 (c_cp (M.2.2.1 116) (M.2.2.1 110) (9 * m) 0 9)) 117 m 1 = c_im M m := rfl
  simp (config := { maxSteps := 10000000, maxDischargeDepth := 30, decide := true }) only [w174_84, w174_85, w174_88, w174_89, w174_90, w174_91, w174_92, w174_93, w174_96, w174_99, ↓ip_ka0, ↓ip_ki1, ip_vr_some, Option.toList_some, List.nil_append, List.cons_append, List.length_nil, List.length_cons, ↓reduceIte, Nat.reduceLeDiff, Nat.reduceEqDiff, Nat.zero_add, Nat.zero_le, or_true, and_self, not_false_eq_true, ip_sI_L, ip_ix_eq, Int32.reduceOfNat, gB, g8, r11, g17, gF, g8F, nm, cm, lm, ip_11, eF, s_173, s_168]
  exact h3

set_option maxHeartbeats 40000000 in
set_option maxRecDepth 100000 in
theorem o_175 (X : ip_X) (M : ip_H) (K : Option Value → ip_H → Prop) (k : Int32) (hG : ip_G M) (ht : M.2.1 108 0 = 0) (h1 : i_in k 0 1 = false → K (some (.int (-1))) (c_no M 1 (-1))) (h2 : ∀ m : Nat, m ≤ 1 → k = Int32.ofNat m → M.2.1 117 m = 0 → K (some (.int (-2))) (c_no M 2 (-2)))
    (h3 : ∀ m : Nat, m ≤ 1 → k = Int32.ofNat m → ¬ M.2.1 117 m = 0 → K (some (.int (c_sn ((c_bi M m).2.1 109)))) (c_ye (c_bi M m))) : ip_wp X 175 0 [.ref 108, .int k, .retAddr 1] [] M K := by
  have et : ip_uI M 108 0 0 = M := ip_uI_id ht
  cases e0 : i_in k 0 1
  · have h1 := h1 e0
    simp (config := { maxSteps := 10000000, maxDischargeDepth := 30, decide := true }) only [w175_0, w175_1, w175_2, w175_5, w175_6, w175_7, w175_8, w175_11, w175_14, w175_15, w175_16, w175_19, w175_20, w175_21, w175_24, w175_25, w175_26, w175_29, w175_30, w175_32, w175_35, w175_36, w175_37, w175_38, w175_39, w175_42, w175_45, w175_46, w175_49, w175_50, w175_51, w175_54, w175_57, w175_58, w175_59, w175_60, w175_61, w175_62, w175_63, w175_66, w175_69, w175_70, w175_71, w175_72, w175_74, w175_77, w175_78, w175_81, w175_82, w175_83, w175_86, w175_88, w175_89, w175_90, w175_91, w175_92, w175_93, w175_94, w175_97, w175_100, w175_101, w175_102, w175_105, w175_106, w175_107, w175_110, w175_113, ↓ip_ka0, ↓ip_ki1, Option.toList_some, List.nil_append, List.cons_append, List.length_nil, ↓reduceIte, Nat.zero_le, ip_b_f, gS_108 hG, hG, et, e0, s_166, s_167_1]
    exact h1
  obtain ⟨m, hm1, rfl⟩ := i1 e0
  have nm : (Int32.ofNat m < 0) = False := eq_false (ip_nn _ (by omega))
  have cm : (Int32.ofNat m).toNatClampNeg = m := ip_nc _ (by omega)
  have lm : (m < 2) = True := eq_true (by omega)
  by_cases hk : M.2.1 117 m = 0
  · have h2 := h2 m hm1 rfl hk
    simp (config := { maxSteps := 10000000, maxDischargeDepth := 30, decide := true }) only [w175_0, w175_1, w175_2, w175_5, w175_6, w175_7, w175_8, w175_11, w175_14, w175_15, w175_16, w175_19, w175_20, w175_21, w175_24, w175_25, w175_26, w175_29, w175_30, w175_32, w175_35, w175_36, w175_37, w175_38, w175_39, w175_42, w175_45, w175_46, w175_49, w175_50, w175_51, w175_54, w175_57, w175_58, w175_59, w175_60, w175_61, w175_62, w175_63, w175_66, w175_69, w175_70, w175_71, w175_72, w175_74, w175_77, w175_78, w175_81, w175_82, w175_83, w175_86, w175_88, w175_89, w175_90, w175_91, w175_92, w175_93, w175_94, w175_97, w175_100, w175_101, w175_102, w175_105, w175_106, w175_107, w175_110, w175_113, ↓ip_ka0, ↓ip_ki1, ip_vr_some, Option.toList_some, List.nil_append, List.cons_append, List.length_nil, ↓reduceIte, Nat.reduceEqDiff, Nat.zero_le, or_true, and_self, not_false_eq_true, ip_b_t, ip_ix_eq, gS_108 hG, gS_117 hG, gR_108_11 hG, hG, et, e0, hk, nm, cm, lm, s_166, s_167_2]
    exact h2
  have h3 := h3 m hm1 rfl hk
  simp (config := { maxSteps := 10000000, maxDischargeDepth := 30, decide := true }) only [w175_0, w175_1, w175_2, w175_5, w175_6, w175_7, w175_8, w175_11, w175_14, w175_15, w175_16, w175_19, w175_20, w175_21, w175_24, w175_25, w175_26, w175_29, w175_30, w175_32, w175_35, w175_36, w175_37, ↓ip_ka0, ↓ip_ki1, ip_get_0, ip_get_s, ip_set1, ip_clr_s, ip_cat_i, List.set_cons_zero, List.set_cons_succ, ip_vr_some, Option.toList_some, List.nil_append, List.cons_append, List.length_nil, ↓reduceIte, Nat.reduceEqDiff, Nat.zero_le, or_true, and_self, not_false_eq_true, ip_b_t, ip_ix_eq, gS_108 hG, gS_117 hG, gR_108_11 hG, et, e0, nm, cm, lm, s_166, hk]
  refine Eq.mpr (s_175a0 X M K m hm1 hG) ?_
  simp (config := { maxSteps := 10000000, maxDischargeDepth := 30, decide := true }) only [w175_69, w175_70, ip_get_0, ip_get_s, ip_set1, ip_clr_s, ip_cat_i, List.set_cons_zero, List.set_cons_succ, ↓reduceIte, Nat.reduceEqDiff, Int32.reduceOfNat]
  refine Eq.mpr (s_175b0 X (ip_sI M 109 (c_cp (M.2.1 109) (M.2.1 114) 0 (821 * m) 821)) K m hm1 hG) ?_
  have gB : ip_G (ip_sL (ip_sI M 109 (c_cp (M.2.1 109) (M.2.1 114) 0 (821 * m) 821)) 110 (c_cp (M.2.2.1 110) (M.2.2.1 116) 0 (9 * m) 9)) := hG
  have g8 := gS_108 gB
  have r11 := gR_108_11 gB
  have g17 := gS_117 gB
  have gF : ip_G (c_bi M m) := gG_uI _ _ _ _ (gG_sL _ _ _ (gG_sI _ _ _ hG))
  have g8F := gS_108 gF
  have eF : ip_uI (ip_sL (ip_sI M 109 (c_cp (M.2.1 109) (M.2.1 114) 0 (821 * m) 821)) 110 (c_cp (M.2.2.1 110) (M.2.2.1 116) 0 (9 * m) 9)) 108 12 0 = c_bi M m := rfl
  simp (config := { maxSteps := 10000000, maxDischargeDepth := 30, decide := true }) only [w175_100, w175_101, w175_102, w175_105, w175_106, w175_107, w175_110, w175_113, ↓ip_ka0, Option.toList_some, List.nil_append, List.cons_append, List.length_nil, List.length_cons, Nat.reduceLeDiff, Nat.zero_add, Nat.zero_le, ip_sI_L, Int32.reduceOfNat, gB, g8, r11, g17, gF, g8F, nm, cm, lm, ip_11, eF, s_173, s_168]
  exact h3
end
noncomputable section
-- PART 74.meas
-- THE REFERENCE: measure
theorem bx (x : BitVec 64) : (x >>> 52) &&& 2047#64 = (x.sshiftRight 52) &&& 2047#64 := by
  apply BitVec.eq_of_getLsbD_eq
  intro i hi
  rw [BitVec.getLsbD_and, BitVec.getLsbD_and, BitVec.getLsbD_ushiftRight, BitVec.getLsbD_sshiftRight]
  by_cases h : 52 + i < 64
  · have : ¬ 64 ≤ i := by omega
    simp [h, this]
  · have e : (2047#64).getLsbD i = false := by
      have : ∀ j : Fin 64, ¬ 52 + j.val < 64 → (2047#64).getLsbD j.val = false := by decide +kernel
      exact this ⟨i, hi⟩ h
    rw [e, Bool.and_false, Bool.and_false]
theorem ip_bit1 (b : Int64) : ((b.toUInt64 >>> ((52:Int32).toInt64.toUInt64 &&& Int64.toUInt64 63)).toInt64 &&& 2047) = ((b >>> ((52:Int32).toInt64 &&& 63)) &&& 2047) := by
  have e1 : (52:Int32).toInt64.toUInt64 &&& Int64.toUInt64 63 = 52 := by decide +kernel
  have e2 : (52:Int32).toInt64 &&& 63 = 52 := by decide +kernel
  rw [e1, e2]
  apply Int64.toBitVec_inj.mp
  rw [Int64.toBitVec_and, Int64.toBitVec_and, Int64.toBitVec_shiftRight]
  exact bx b.toBitVec
theorem ip_bit2 (b : Int64) : (b &&& 4503599627370495) ||| 4503599627370496 = (b &&& 4503599627370495) + 4503599627370496 := by
  apply Int64.toBitVec_inj.mp
  rw [Int64.toBitVec_or, Int64.toBitVec_add, Int64.toBitVec_and]
  symm
  apply BitVec.add_eq_or_of_and_eq_zero
  rw [BitVec.and_assoc]
  have : (4503599627370495 : Int64).toBitVec &&& (4503599627370496 : Int64).toBitVec = 0#64 := by decide +kernel
  rw [this]
  exact BitVec.and_zero
theorem ip_bit3 (b : Int64) : 0 ≤ (b &&& 4503599627370495).toInt ∧ (b &&& 4503599627370495).toInt < 4503599627370496 := by
  have h : (b &&& 4503599627370495).toBitVec.toNat < 4503599627370496 := by
    rw [Int64.toBitVec_and, BitVec.toNat_and]
    have : (4503599627370495 : Int64).toBitVec.toNat = 2 ^ 52 - 1 := by decide +kernel
    rw [this, Nat.and_two_pow_sub_one_eq_mod]
    exact Nat.mod_lt _ (by decide)
  rw [← Int64.toInt_toBitVec, BitVec.toInt_eq_toNat_of_lt (by omega)]
  omega
theorem ip_bit4 (d : Int64) (h : 0 ≤ d.toInt) : ((d &&& 1) = 0) = (d - d / 2 * 2 = 0) := by
  apply propext
  rw [l_rem, ← Int64.toInt_inj, ← Int64.toInt_inj, Int64.toInt_mod]
  have e : (2 : Int64).toInt = 2 := by decide
  have e0 : (0 : Int64).toInt = 0 := by decide
  rw [e, e0, Int.tmod_eq_emod_of_nonneg h]
  have hn : (d &&& 1).toBitVec.toNat = d.toBitVec.toNat % 2 := by
    rw [Int64.toBitVec_and, BitVec.toNat_and]
    have : (1 : Int64).toBitVec.toNat = 2 ^ 1 - 1 := by decide +kernel
    rw [this, Nat.and_two_pow_sub_one_eq_mod]
  have h1 : (d &&& 1).toInt = ((d &&& 1).toBitVec.toNat : Int) := by
    rw [← Int64.toInt_toBitVec, BitVec.toInt_eq_toNat_of_lt (by omega)]
  have h2 : d.toInt = (d.toBitVec.toNat : Int) := by
    have := BitVec.toInt_eq_toNat_cond d.toBitVec
    rw [Int64.toInt_toBitVec] at this
    have hl := d.toBitVec.isLt
    split at this
    · exact this
    · omega
  rw [h1, hn, h2]
  omega
theorem ip_bit5 (d : Int64) (h : 0 ≤ d.toInt) : d >>> (1 &&& 63) = d / 2 := by
  have e2 : (1:Int64) &&& 63 = 1 := by decide +kernel
  rw [e2]
  apply Int64.toInt_inj.mp
  rw [Int64.toInt_div_of_ne_right _ _ (by decide)]
  have e : (2 : Int64).toInt = 2 := by decide
  rw [e, Int.tdiv_eq_ediv_of_nonneg h]
  have : (d >>> 1).toInt = d.toInt >>> 1 := by
    rw [← Int64.toInt_toBitVec, Int64.toBitVec_shiftRight]
    have e : ((Int64.toBitVec 1).smod (64 : BitVec 64)) = 1#64 := by decide +kernel
    rw [e, BitVec.toInt_sshiftRight', Int64.toInt_toBitVec]; rfl
  rw [this, Int.shiftRight_eq_div_pow]
  rfl
def mz_P (b : Int64) : Int32 := ((b >>> ((52:Int32).toInt64 &&& 63)) &&& 2047).toInt32
def mz_D (b : Int64) : Int64 := b &&& 4503599627370495
def mz_E (b : Int64) : Int64 := mz_D b + 4503599627370496
def mz_W (b : Int64) : Int32 := mz_P b + (-1075)
theorem ip_Ws (b : Int64) : mz_P b - 1075 = mz_W b := Int32.sub_eq_add_neg _ _
theorem ip_Wa (b : Int64) : mz_P b + (-1075) = mz_W b := rfl
theorem ip_Ea (b : Int64) : mz_D b + 4503599627370496 = mz_E b := rfl
theorem ip_Eo (b : Int64) : mz_D b ||| 4503599627370496 = mz_E b := ip_bit2 b
theorem ip_Da (b : Int64) : b &&& 4503599627370495 = mz_D b := rfl
theorem ip_Pa (b : Int64) : ((b >>> ((52:Int32).toInt64 &&& 63)) &&& 2047).toInt32 = mz_P b := rfl
theorem ip_Pu (b : Int64) : ((b.toUInt64 >>> ((52:Int32).toInt64.toUInt64 &&& Int64.toUInt64 63)).toInt64 &&& 2047).toInt32 = mz_P b := by rw [ip_bit1]; rfl
theorem ip_Eb (b : Int64) : (2 : Int) ^ 52 ≤ (mz_E b).toInt ∧ (mz_E b).toInt < 2 ^ 53 := by
  have h := ip_bit3 b
  have e : (4503599627370496 : Int64).toInt = 4503599627370496 := by decide
  unfold mz_E mz_D
  rw [Int64.toInt_add, e, Int.bmod_eq_of_le_mul_two (by omega) (by omega)]
  omega
def ip_sp : Nat → Int64 → Int32 → Int64 × Int32
  | 0, d, w => (d, w)
  | n + 1, d, w => if d - d / 2 * 2 = 0 then ip_sp n (d / 2) (w + 1) else (d, w)
theorem ip_hf (d : Int64) (h : 0 ≤ d.toInt) : (d / 2).toInt = d.toInt / 2 := by
  rw [Int64.toInt_div_of_ne_right _ _ (by decide)]
  have e : (2 : Int64).toInt = 2 := by decide
  rw [e, Int.tdiv_eq_ediv_of_nonneg h]
theorem ip_sp_pos : ∀ (n : Nat) (d : Int64) (w : Int32), (2 : Int) ^ n ≤ d.toInt → 0 < (ip_sp n d w).1.toInt := by
  intro n
  induction n with
  | zero => intro d w h; rw [ip_sp]; simp only [Int.pow_zero] at h; show 0 < d.toInt; omega
  | succ n ih =>
    intro d w h
    have hp : (0 : Int) < 2 ^ n := Int.pow_pos (by decide)
    have h2 : (2 : Int) ^ (n + 1) = 2 ^ n * 2 := Int.pow_succ _ _
    rw [ip_sp]
    split
    · exact ih _ _ (by rw [ip_hf _ (by omega)]; omega)
    · show 0 < d.toInt
      omega
theorem ip_odd (d : Int64) (h : d.toInt = 1) : ¬ d - d / 2 * 2 = 0 := by
  have : d = 1 := Int64.toInt_inj.mp (h.trans (by decide))
  subst this
  decide
def ip_mU (d : Int64) (w : Int32) : Int64 := if 0 < w then d <<< (w.toInt64 &&& 63) else d
def ip_mL (w : Int32) : Int64 := if w < 0 then 1 <<< ((-w).toInt64 &&& 63) else 1
def ip_db : Nat → Int64 → Int64
  | 0, u => u
  | n + 1, u => ip_db n (u * 2)
def ip_nu (w : Int32) : Nat := if 0 < w then w.toNatClampNeg else 0
def ip_nl (w : Int32) : Nat := if w < 0 then (-w).toNatClampNeg else 0
def ip_kn (w : Int32) : Nat → Int32 → Bool
  | 0, k => decide (¬ w < k)
  | n + 1, k => decide (w < k) && ip_kn w n (k + (-1))
theorem ip_Pa2 (b : Int64) : ((b >>> (52 &&& 63)) &&& 2047).toInt32 = mz_P b := by rw [← ip_Pa, ip_w_52]
def ip_15 : List Int32 := [-7, -6, -5, -4, -3, -2, -1, 0, 1, 2, 3, 4, 5, 6, 7]
theorem ip_15m (x : Int32) (h : i_in x (-7) 7 = true) : x ∈ ip_15 := by
  rw [i_in_z] at h
  simp only [Int32.reduceToInt] at h
  have h : x.toInt = -7 ∨ x.toInt = -6 ∨ x.toInt = -5 ∨ x.toInt = -4 ∨ x.toInt = -3 ∨ x.toInt = -2 ∨ x.toInt = -1 ∨ x.toInt = 0 ∨ x.toInt = 1 ∨ x.toInt = 2 ∨ x.toInt = 3 ∨ x.toInt = 4 ∨ x.toInt = 5 ∨ x.toInt = 6 ∨ x.toInt = 7 := by omega
  have e : ∀ c : Int32, x.toInt = c.toInt → x = c := fun c q => Int32.toInt_inj.mp q
  rcases h with h | h | h | h | h | h | h | h | h | h | h | h | h | h | h
  · rw [e (-7) (h.trans (by decide))]; decide
  · rw [e (-6) (h.trans (by decide))]; decide
  · rw [e (-5) (h.trans (by decide))]; decide
  · rw [e (-4) (h.trans (by decide))]; decide
  · rw [e (-3) (h.trans (by decide))]; decide
  · rw [e (-2) (h.trans (by decide))]; decide
  · rw [e (-1) (h.trans (by decide))]; decide
  · rw [e (0) (h.trans (by decide))]; decide
  · rw [e (1) (h.trans (by decide))]; decide
  · rw [e (2) (h.trans (by decide))]; decide
  · rw [e (3) (h.trans (by decide))]; decide
  · rw [e (4) (h.trans (by decide))]; decide
  · rw [e (5) (h.trans (by decide))]; decide
  · rw [e (6) (h.trans (by decide))]; decide
  · rw [e (7) (h.trans (by decide))]; decide
theorem ip_wen : ∀ w ∈ ip_15, ip_kc w (ip_nu w) 0 = true ∧ ip_kn w (ip_nl w) 0 = true ∧ (ip_db (ip_nl w) 1).toInt = 2 ^ ip_nl w ∧ ip_nu w ≤ 7 ∧ ip_nl w ≤ 7 := by decide +kernel
theorem ip_db_z : ∀ (n : Nat) (u : Int64), 0 ≤ u.toInt → u.toInt * 2 ^ n < 2 ^ 40 → (ip_db n u).toInt = u.toInt * 2 ^ n := by
  intro n
  induction n with
  | zero => intro u h0 h; rw [ip_db, Int.pow_zero, Int.mul_one]
  | succ n ih =>
    intro u h0 h
    have hp : (0 : Int) < 2 ^ n := Int.pow_pos (by decide)
    have e1 : u.toInt * (2 : Int) ^ (n + 1) = u.toInt * 2 * 2 ^ n := by rw [Int.pow_succ, Int.mul_comm ((2 : Int) ^ n), Int.mul_assoc]
    have e2 : u.toInt * 2 ≤ u.toInt * 2 * 2 ^ n := by
      have := Int.mul_le_mul_of_nonneg_left (show (1 : Int) ≤ 2 ^ n by omega) (show 0 ≤ u.toInt * 2 by omega)
      omega
    have e3 : (u * 2).toInt = u.toInt * 2 := by
      have e : (2 : Int64).toInt = 2 := by decide
      rw [Int64.toInt_mul, e, Int.bmod_eq_of_le_mul_two (by omega) (by omega)]
    rw [ip_db, ih _ (by omega) (by rw [e3]; omega), e3, e1]
theorem z_p7 {n : Nat} (h : n ≤ 7) : 1 ≤ (2 : Int) ^ n ∧ (2 : Int) ^ n ≤ 128 := by
  have hc : n = 0 ∨ n = 1 ∨ n = 2 ∨ n = 3 ∨ n = 4 ∨ n = 5 ∨ n = 6 ∨ n = 7 := by omega
  rcases hc with h | h | h | h | h | h | h | h <;> subst h <;> decide
/-- what the double is, by 2 turned off: none, or the upper number and the lower one -/
def mz (b : Int64) : Option (Int × Int) := if mz_P b = 2047 ∨ (mz_P b = 0 ∧ ¬ mz_D b = 0) then none else if mz_P b = 0 then some (0, 1) else
  if 150 < (ip_sp 52 (mz_E b) (mz_W b)).1 ∨ i_in (ip_sp 52 (mz_E b) (mz_W b)).2 (-7) 7 = false then none else
  if 150 < (ip_sp 52 (mz_E b) (mz_W b)).1.toInt * 2 ^ ip_nu (ip_sp 52 (mz_E b) (mz_W b)).2 then none else some ((ip_sp 52 (mz_E b) (mz_W b)).1.toInt * 2 ^ ip_nu (ip_sp 52 (mz_E b) (mz_W b)).2, 2 ^ ip_nl (ip_sp 52 (mz_E b) (mz_W b)).2)

set_option maxHeartbeats 40000000 in
set_option maxRecDepth 100000 in
theorem s_204l (X : ip_X) (M : ip_H) (K : Option Value → ip_H → Prop) (i p : Int32) (b pt : Int64) : ∀ (n : Nat) (d : Int64) (w : Int32), (2 : Int) ^ n ≤ d.toInt → d.toInt < 2 ^ (n + 1) → ip_wp X 204 89 [.ref 108, .int i, .long b, .retAddr 1, .int p, .long pt, .retAddr 1, .long d, .retAddr 1, .int w, .retAddr 1, .retAddr 1, .retAddr 1] [] M K = ip_wp X 204 121 [.ref 108, .int i, .long b, .retAddr 1, .int p, .long pt, .retAddr 1, .long (ip_sp n d w).1, .retAddr 1, .int (ip_sp n d w).2, .retAddr 1, .retAddr 1, .retAddr 1] [] M K := by
  intro n
  induction n with
  | zero =>
    intro d w h1 h2
    have h : d.toInt = 1 := by simp only [Int.pow_zero, Nat.zero_add, Int.pow_one] at h1 h2; omega
    have hc := ip_odd d h
    have hd : ¬ d = 0 := by intro q; rw [q] at h; exact absurd h (by decide)
    rw [ip_sp]
    simp (config := { maxSteps := 10000000, maxDischargeDepth := 30, decide := true }) only [w204_89, w204_91, w204_92, w204_93, w204_96, w204_98, w204_101, w204_102, w204_103, w204_104, w204_107, w204_109, w204_112, w204_113, w204_115, ↓ip_kl7, ↓reduceIte, not_false_eq_true, ip_cmp_eq, hd, hc]
  | succ n ih =>
    intro d w h1 h2
    have hp : (0 : Int) < 2 ^ n := Int.pow_pos (by decide)
    have e1 : (2 : Int) ^ (n + 1) = 2 ^ n * 2 := Int.pow_succ _ _
    have e2 : (2 : Int) ^ (n + 1 + 1) = 2 ^ n * 2 * 2 := by rw [Int.pow_succ, Int.pow_succ]
    have hd : ¬ d = 0 := by intro q; rw [q] at h1; have : (0 : Int64).toInt = 0 := by decide
                            omega
    rw [ip_sp]
    by_cases hc : d - d / 2 * 2 = 0
    · rw [if_pos hc, ← ih (d / 2) (w + 1) (by rw [ip_hf _ (by omega)]; omega) (by rw [ip_hf _ (by omega)]; omega)]
      have e89 := w204_89 X [.ref 108, .int i, .long b, .retAddr 1, .int p, .long pt, .retAddr 1, .long d, .retAddr 1, .int w, .retAddr 1, .retAddr 1, .retAddr 1] [] M K
      rw [e89]
      simp (config := { maxSteps := 10000000, maxDischargeDepth := 30, decide := true }) only [w204_91, w204_92, w204_93, w204_96, w204_98, w204_101, w204_102, w204_103, w204_104, w204_107, w204_109, w204_112, w204_113, w204_115, ↓ip_kl7, ↓ip_ki9, ip_get_0, ip_get_s, ip_set1, ip_set2, ip_clr_s, ip_cat_a, List.set_cons_zero, List.set_cons_succ, ↓reduceIte, Nat.reduceAdd, Nat.reduceEqDiff, not_false_eq_true, ip_cmp_eq, hd, hc]
      rw [w204_118]
    · rw [if_neg hc]
      simp (config := { maxSteps := 10000000, maxDischargeDepth := 30, decide := true }) only [w204_89, w204_91, w204_92, w204_93, w204_96, w204_98, w204_101, w204_102, w204_103, w204_104, w204_107, w204_109, w204_112, w204_113, w204_115, ↓ip_kl7, ↓reduceIte, not_false_eq_true, ip_cmp_eq, hd, hc]

set_option maxHeartbeats 40000000 in
set_option maxRecDepth 100000 in
theorem s_204u (X : ip_X) (M : ip_H) (K : Option Value → ip_H → Prop) (i p w : Int32) (b pt : Int64) : ∀ (n : Nat) (u : Int64) (k : Int32), ip_kc w n k = true → 0 < u.toInt → u.toInt * 2 ^ n < 2 ^ 40 → (∀ k' : Int32, ip_wp X 204 190 [.ref 108, .int i, .long b, .retAddr 1, .int p, .long pt, .retAddr 1, .long (ip_db n u), .retAddr 1, .int w, .long 1, .retAddr 1, .int k'] [] M K) → ip_wp X 204 162 [.ref 108, .int i, .long b, .retAddr 1, .int p, .long pt, .retAddr 1, .long u, .retAddr 1, .int w, .long 1, .retAddr 1, .int k] [] M K := by
  intro n
  induction n with
  | zero =>
    intro u k hk h0 h1 hK
    have hk' : ¬ k < w := by simpa only [ip_kc, decide_eq_true_eq] using hk
    rw [ip_db] at hK
    simp (config := { maxSteps := 10000000, maxDischargeDepth := 30, decide := true }) only [w204_162, w204_164, w204_166, w204_169, w204_171, w204_172, w204_173, w204_176, w204_178, w204_181, w204_182, w204_184, ↓ip_ki9, ↓ip_ki12, ↓reduceIte, hk']
    exact hK _
  | succ n ih =>
    intro u k hk h0 h1 hK
    simp only [ip_kc, Bool.and_eq_true, decide_eq_true_eq] at hk
    obtain ⟨hk1, hk2⟩ := hk
    have hp : (0 : Int) < 2 ^ n := Int.pow_pos (by decide)
    have e1 : u.toInt * (2 : Int) ^ (n + 1) = u.toInt * 2 * 2 ^ n := by rw [Int.pow_succ, Int.mul_comm ((2 : Int) ^ n), Int.mul_assoc]
    have e2 : u.toInt * 2 ≤ u.toInt * 2 * 2 ^ n := by
      have := Int.mul_le_mul_of_nonneg_left (show (1 : Int) ≤ 2 ^ n by omega) (show 0 ≤ u.toInt * 2 by omega)
      omega
    have e3 : (u * 2).toInt = u.toInt * 2 := by
      have e : (2 : Int64).toInt = 2 := by decide
      rw [Int64.toInt_mul, e, Int.bmod_eq_of_le_mul_two (by omega) (by omega)]
    have hd : ¬ u = 0 := by intro q; rw [q] at h0; exact absurd h0 (by decide)
    rw [ip_db] at hK
    simp (config := { maxSteps := 10000000, maxDischargeDepth := 30, decide := true }) only [w204_162, w204_164, w204_166, w204_169, w204_171, w204_172, w204_173, w204_176, w204_178, w204_181, w204_182, w204_184, ↓ip_kl7, ↓ip_ki9, ↓ip_ki12, ip_get_0, ip_get_s, ip_set1, ip_set2, ip_clr_s, ip_cat_a, List.set_cons_zero, List.set_cons_succ, ↓reduceIte, Nat.reduceAdd, Nat.reduceEqDiff, ip_cmp_eq, hk1, hd]
    rw [w204_187]
    exact ih _ _ hk2 (by omega) (by rw [e3]; omega) hK

set_option maxHeartbeats 40000000 in
set_option maxRecDepth 100000 in
theorem s_204d (X : ip_X) (M : ip_H) (K : Option Value → ip_H → Prop) (i p w : Int32) (b pt u : Int64) (hd : ¬ u = 0) : ∀ (n : Nat) (x : Int64) (k : Int32), ip_kn w n k = true → (∀ k' : Int32, ip_wp X 204 221 [.ref 108, .int i, .long b, .retAddr 1, .int p, .long pt, .retAddr 1, .long u, .retAddr 1, .int w, .long (ip_db n x), .retAddr 1, .int k'] [] M K) → ip_wp X 204 193 [.ref 108, .int i, .long b, .retAddr 1, .int p, .long pt, .retAddr 1, .long u, .retAddr 1, .int w, .long x, .retAddr 1, .int k] [] M K := by
  intro n
  induction n with
  | zero =>
    intro x k hk hK
    have hk' : ¬ w < k := by simpa only [ip_kn, decide_eq_true_eq] using hk
    rw [ip_db] at hK
    simp (config := { maxSteps := 10000000, maxDischargeDepth := 30, decide := true }) only [w204_193, w204_195, w204_197, w204_200, w204_202, w204_203, w204_204, w204_207, w204_209, w204_212, w204_213, w204_215, ↓ip_ki9, ↓ip_ki12, ↓reduceIte, hk']
    exact hK _
  | succ n ih =>
    intro x k hk hK
    simp only [ip_kn, Bool.and_eq_true, decide_eq_true_eq] at hk
    obtain ⟨hk1, hk2⟩ := hk
    rw [ip_db] at hK
    simp (config := { maxSteps := 10000000, maxDischargeDepth := 30, decide := true }) only [w204_193, w204_195, w204_197, w204_200, w204_202, w204_203, w204_204, w204_207, w204_209, w204_212, w204_213, w204_215, ↓ip_kl7, ↓ip_ki9, ↓ip_kl10, ↓ip_ki12, ip_get_0, ip_get_s, ip_set1, ip_set2, ip_clr_s, ip_cat_i, ip_cat_a, List.set_cons_zero, List.set_cons_succ, ↓reduceIte, Nat.reduceAdd, Nat.reduceEqDiff, ip_cmp_eq, hk1, hd]
    rw [w204_218]
    exact ih _ _ hk2 hK

set_option maxHeartbeats 40000000 in
set_option maxRecDepth 100000 in
theorem s_204e (X : ip_X) (M : ip_H) (K : Option Value → ip_H → Prop) (k : Nat) (hk : k < 6) (b : Int64) (w p : Int32) (pt : Int64) (U Lo : Int) (u l : Value) (hu : 0 ≤ U ∧ U ≤ 150) (hl : 1 ≤ Lo ∧ Lo ≤ 150) (w12 : Value) (hG : ip_G M) (hq : q3 (M.2.1 109 1) = true) (hm : m8 (M.2.1 108 12) = true) (ht : M.2.1 108 0 = 0) (h3 : ∀ z, z = zl ((if b < 0 then -U else U), 0, 0, Lo) → (zb 150 z.1 ∧ zb 150 z.2.1 ∧ zb 150 z.2.2.1 ∧ 1 ≤ z.2.2.2 ∧ z.2.2.2 ≤ 150) → K (some (.int (c_f4 (M.2.1 109 0).toInt (M.2.1 109 1).toInt (M.2.1 109 2).toInt z))) (c_l4 (c_x4 (c_ks M 2) z) k z)) : ip_wp X 204 237 [.ref 108, .int (Int32.ofNat k), .long b, .retAddr 1, .int p, .long pt, .retAddr 1, .long (Int64.ofInt U), .retAddr 1, .int w, .long (Int64.ofInt Lo), .retAddr 1, w12] [] M K := by
  have l0 : (0 : Int64) = Int64.ofInt 0 := rfl
  have z0 : zb 9223372036854775807 (0 : Int) := ⟨by decide, by decide⟩
  have zL : zb 9223372036854775807 Lo := ⟨by omega, by omega⟩
  have key : ∀ V : Int, zb 150 V → (∀ z, z = zl (V, 0, 0, Lo) → (zb 150 z.1 ∧ zb 150 z.2.1 ∧ zb 150 z.2.2.1 ∧ 1 ≤ z.2.2.2 ∧ z.2.2.2 ≤ 150) → K (some (.int (c_f4 (M.2.1 109 0).toInt (M.2.1 109 1).toInt (M.2.1 109 2).toInt z))) (c_l4 (c_x4 (c_ks M 2) z) k z)) → ip_wp X 204 261 [.ref 108, .int (Int32.ofNat k), .long b, .retAddr 1, .int p, .long pt, .retAddr 1, .long (Int64.ofInt U), .retAddr 1, .int w, .long (Int64.ofInt Lo), .retAddr 1, w12] [.long (Int64.ofInt Lo), .long (Int64.ofInt 0), .long (Int64.ofInt 0), .long (Int64.ofInt V), .ref 108] (c_ks M 2) K := by
    intro V hV h3
    have gk : ip_G (c_ks M 2) := gG_ks _ _ hG
    have g8 := gS_108 gk
    have zV : zb 9223372036854775807 V := zb_w hV (by decide)
    have L0 : Lo ≠ 0 := by omega
    have hLb : zb 150 Lo := ⟨by omega, by omega⟩
    have qk : q3 ((c_ks M 2).2.1 109 1) = true := by rw [c_ks_I _ _ _ _ (by decide) (by decide) (by decide)]; exact hq
    have b0 : zb 150 (0 : Int) := ⟨by decide, by decide⟩
    obtain ⟨t1, t2, t3, t4⟩ := zl_b (z := (V, 0, 0, Lo)) hV b0 b0 hLb
    have t5 := zl_d (z := (V, 0, 0, Lo)) L0
    have h3 := h3 _ rfl ⟨t1, t2, t3, t5, t4.2⟩
    rw [w204_261 X _ _ _ _ 108 _ _ _ _ (by decide) (by rw [g8]) (by rw [g8])]
    refine Eq.mpr (s_188 X (c_ks M 2) _ V 0 0 Lo gk zV z0 z0 zL L0) ?_
    have r1 : (Int64.ofInt (zl (V, 0, 0, Lo)).1).toInt = (zl (V, 0, 0, Lo)).1 := z_tb t1 (by decide)
    have r2 : (Int64.ofInt (zl (V, 0, 0, Lo)).2.1).toInt = (zl (V, 0, 0, Lo)).2.1 := z_tb t2 (by decide)
    have r3 : (Int64.ofInt (zl (V, 0, 0, Lo)).2.2.1).toInt = (zl (V, 0, 0, Lo)).2.2.1 := z_tb t3 (by decide)
    have r4 : (Int64.ofInt (zl (V, 0, 0, Lo)).2.2.2).toInt = (zl (V, 0, 0, Lo)).2.2.2 := z_tb t4 (by decide)
    unfold c_x4 c_f4 c_l4 at h3
    unfold zl at h3 r1 r2 r3 r4
    dsimp only at h3 r1 r2 r3 r4
    have i0 : M.2.1 109 0 = (c_ks M 2).2.1 109 0 := (c_ks_I _ _ _ _ (by decide) (by decide) (by decide)).symm
    have i1 : M.2.1 109 1 = (c_ks M 2).2.1 109 1 := (c_ks_I _ _ _ _ (by decide) (by decide) (by decide)).symm
    have i2 : M.2.1 109 2 = (c_ks M 2).2.1 109 2 := (c_ks_I _ _ _ _ (by decide) (by decide) (by decide)).symm
    rw [i0, i1, i2] at h3
    generalize c_ks M 2 = N at *
    simp (config := { maxSteps := 10000000, maxDischargeDepth := 30, decide := true }) only [w204_264, w204_265, w204_266, w204_269, ↓ip_ka0, ↓ip_ki1, Option.toList_some, Option.toList_none, List.nil_append, List.cons_append, List.length_nil, ↓reduceIte, Nat.zero_le, g8, gk, qk, hk, s_198, z_l2i, r1, r2, r3, r4, ip_x4_I, ip_x4_sh, gG_x4, ip_x4_L]
    exact h3
  by_cases hb : b < 0
  · rw [if_pos hb] at h3
    have key := key (-U) ⟨by omega, by omega⟩ h3
    have hb : b < Int64.ofInt 0 := hb
    simp (config := { maxSteps := 10000000, maxDischargeDepth := 30, decide := true }) only [w204_237, w204_238, w204_239, w204_242, w204_243, w204_244, w204_245, w204_246, w204_249, w204_251, w204_252, w204_255, w204_257, w204_258, w204_259, ↓ip_ka0, ↓ip_kl2, ↓ip_kl7, ↓ip_kl10, Option.toList_none, List.nil_append, List.length_nil, ↓reduceIte, Nat.zero_le, ip_cmp_lt, gS_108 hG, hG, hm, hb, s_170u, l0, ← Int64.ofInt_neg]
    exact key
  · rw [if_neg hb] at h3
    have key := key U ⟨by omega, by omega⟩ h3
    have hb : ¬ b < Int64.ofInt 0 := hb
    simp (config := { maxSteps := 10000000, maxDischargeDepth := 30, decide := true }) only [w204_237, w204_238, w204_239, w204_242, w204_243, w204_244, w204_245, w204_246, w204_249, w204_251, w204_252, w204_255, w204_257, w204_258, w204_259, ↓ip_ka0, ↓ip_kl2, ↓ip_kl7, ↓ip_kl10, Option.toList_none, List.nil_append, List.length_nil, ↓reduceIte, Nat.zero_le, ip_cmp_lt, gS_108 hG, hG, hm, hb, s_170u, l0]
    exact key

set_option maxHeartbeats 40000000 in
set_option maxRecDepth 100000 in
theorem s_204m (X : ip_X) (M : ip_H) (K : Option Value → ip_H → Prop) (k : Nat) (hk : k < 6) (b : Int64) (p : Int32) (pt d : Int64) (w : Int32) (hdp : 0 < d.toInt) (hG : ip_G M) (hq : q3 (M.2.1 109 1) = true) (hm : m8 (M.2.1 108 12) = true) (ht : M.2.1 108 0 = 0) (h2 : (150 < d ∨ i_in w (-7) 7 = false ∨ 150 < d.toInt * 2 ^ ip_nu w) → K (some (.int (-5))) (c_no M 5 (-5)))
    (h3 : ¬ 150 < d → i_in w (-7) 7 = true → ¬ 150 < d.toInt * 2 ^ ip_nu w → ∀ z, z = zl ((if b < 0 then -(d.toInt * 2 ^ ip_nu w) else d.toInt * 2 ^ ip_nu w), 0, 0, 2 ^ ip_nl w) → (zb 150 z.1 ∧ zb 150 z.2.1 ∧ zb 150 z.2.2.1 ∧ 1 ≤ z.2.2.2 ∧ z.2.2.2 ≤ 150) → K (some (.int (c_f4 (M.2.1 109 0).toInt (M.2.1 109 1).toInt (M.2.1 109 2).toInt z))) (c_l4 (c_x4 (c_ks M 2) z) k z)) : ip_wp X 204 121 [.ref 108, .int (Int32.ofNat k), .long b, .retAddr 1, .int p, .long pt, .retAddr 1, .long d, .retAddr 1, .int w, .retAddr 1, .retAddr 1, .retAddr 1] [] M K := by
  have et : ip_uI M 108 0 0 = M := ip_uI_id ht
  have hdn : ¬ d = 0 := by intro q; rw [q] at hdp; exact absurd hdp (by decide)
  by_cases hd1 : 150 < d
  · have h2 := h2 (Or.inl hd1)
    simp (config := { maxSteps := 10000000, maxDischargeDepth := 30, decide := true }) only [w204_121, w204_123, w204_126, w204_127, w204_130, w204_132, w204_133, w204_134, w204_137, w204_139, w204_141, w204_143, w204_146, w204_149, w204_150, w204_152, w204_155, ↓ip_ka0, ↓ip_kl7, Option.toList_some, List.nil_append, List.cons_append, List.length_nil, ↓reduceIte, Nat.zero_le, ip_cmp_gt, gS_108 hG, hG, s_167_5, ip_Ws, ip_Ea, Int64.neg_zero, hd1, hdn]
    exact h2
  cases hw : i_in w (-7) 7
  · have h2 := h2 (Or.inr (Or.inl hw))
    simp (config := { maxSteps := 10000000, maxDischargeDepth := 30, decide := true }) only [w204_121, w204_123, w204_126, w204_127, w204_130, w204_132, w204_133, w204_134, w204_137, w204_139, w204_141, w204_143, w204_146, w204_149, w204_150, w204_152, w204_155, ↓ip_ka0, ↓ip_kl7, ↓ip_ki9, Option.toList_some, List.nil_append, List.cons_append, List.length_nil, ↓reduceIte, Nat.zero_le, ip_b_f, ip_cmp_gt, ip_cmp_eq, gS_108 hG, hG, s_166, s_167_5, ip_Ws, ip_Ea, Int64.neg_zero, hd1, hdn, hw]
    exact h2
  obtain ⟨a1, a2, a3, a4, a5⟩ := ip_wen w (ip_15m w hw)
  have p1 := z_p7 a4
  have p2 := z_p7 a5
  have hd3 : d.toInt ≤ 150 := by
    rw [Int64.lt_iff_toInt_lt] at hd1
    have e : (150 : Int64).toInt = 150 := by decide
    omega
  have hub : d.toInt * 2 ^ ip_nu w < 2 ^ 40 := by
    have e5 : d.toInt * 2 ^ ip_nu w ≤ 150 * 128 := Int.mul_le_mul hd3 p1.2 (by omega) (by decide)
    omega
  have hU0 : 0 < d.toInt * 2 ^ ip_nu w := Int.mul_pos hdp (by omega)
  have eU := ip_db_z (ip_nu w) d (by omega) hub
  have vU : ip_db (ip_nu w) d = Int64.ofInt (d.toInt * 2 ^ ip_nu w) := by rw [← eU, Int64.ofInt_toInt]
  have vL : ip_db (ip_nl w) 1 = Int64.ofInt (2 ^ ip_nl w) := by rw [← a3, Int64.ofInt_toInt]
  have hun : ¬ ip_db (ip_nu w) d = 0 := by
    intro q
    have := congrArg Int64.toInt q
    rw [eU] at this
    have e : (0 : Int64).toInt = 0 := rfl
    omega
  have lu := s_204u X M K (Int32.ofNat k) p w b pt (ip_nu w) d 0 a1 hdp (by exact hub)
  have ld := s_204d X M K (Int32.ofNat k) p w b pt _ hun (ip_nl w) 1 0 a2
  rw [vU, vL] at ld
  rw [vU] at lu
  clear a1 a2 a3 a4 a5 eU vU vL hun
  generalize d.toInt * 2 ^ ip_nu w = U at *
  generalize (2 : Int) ^ ip_nl w = Lo at *
  have cU : (150 < Int64.ofInt U) = (150 < U) := z_lt (a := 150) ⟨by decide, by decide⟩ ⟨by omega, by omega⟩
  simp (config := { maxSteps := 10000000, maxDischargeDepth := 30, decide := true }) only [w204_121, w204_123, w204_126, w204_127, w204_130, w204_132, w204_133, w204_134, w204_137, w204_139, w204_141, w204_143, w204_146, w204_149, w204_150, w204_152, w204_155, w204_156, w204_157, w204_159, w204_160, ↓ip_kl7, ↓ip_ki9, ip_get_0, ip_get_s, ip_set1, ip_set2, ip_clr_s, ip_cat_i, ip_cat_a, List.set_cons_zero, List.set_cons_succ, Option.toList_some, List.nil_append, List.cons_append, List.length_nil, ↓reduceIte, Nat.reduceAdd, Nat.reduceEqDiff, Nat.zero_le, ip_b_t, ip_cmp_gt, ip_cmp_eq, s_166, ip_Ws, ip_Ea, Int64.neg_zero, hd1, hdn, hw]
  refine lu ?_
  intro k2
  simp (config := { maxSteps := 10000000, maxDischargeDepth := 30, decide := true }) only [w204_190, w204_191, ip_get_0, ip_get_s, ip_set1, ip_clr_s, ip_cat_a, List.set_cons_zero, List.set_cons_succ, ↓reduceIte, Nat.reduceEqDiff, ip_Ws, ip_Ea, Int64.neg_zero]
  refine ld ?_
  intro k3
  by_cases hbig : 150 < U
  · have h2 := h2 (Or.inr (Or.inr hbig))
    simp (config := { maxSteps := 10000000, maxDischargeDepth := 30, decide := true }) only [w204_221, w204_223, w204_226, w204_227, w204_230, w204_231, w204_233, w204_236, ↓ip_ka0, ↓ip_kl7, Option.toList_some, List.nil_append, List.cons_append, List.length_nil, ↓reduceIte, Nat.zero_le, ip_cmp_gt, gS_108 hG, hG, s_167_5, ip_Ws, ip_Ea, Int64.neg_zero, cU, hbig]
    exact h2
  · have h3 := h3 hd1 hw hbig
    have key := s_204e X M K k hk b w p pt U Lo .null .null ⟨by omega, by omega⟩ ⟨by omega, by omega⟩ (.int k3) hG hq hm ht h3
    simp (config := { maxSteps := 10000000, maxDischargeDepth := 30, decide := true }) only [w204_221, w204_223, w204_226, w204_227, w204_230, w204_231, w204_233, w204_236, ↓ip_kl7, ↓reduceIte, ip_cmp_gt, ip_Ws, ip_Ea, Int64.neg_zero, cU, hbig]
    exact key

set_option maxHeartbeats 40000000 in
set_option maxRecDepth 100000 in
theorem s_204z (X : ip_X) (M : ip_H) (K : Option Value → ip_H → Prop) (k : Nat) (hk : k < 6) (b : Int64) (hp0 : mz_P b = 0) (hd0 : mz_D b = 0) (hG : ip_G M) (hq : q3 (M.2.1 109 1) = true) (hm : m8 (M.2.1 108 12) = true) (ht : M.2.1 108 0 = 0) (h3 : ∀ z, z = zl ((if b < 0 then -0 else 0), 0, 0, 1) → (zb 150 z.1 ∧ zb 150 z.2.1 ∧ zb 150 z.2.2.1 ∧ 1 ≤ z.2.2.2 ∧ z.2.2.2 ≤ 150) → K (some (.int (c_f4 (M.2.1 109 0).toInt (M.2.1 109 1).toInt (M.2.1 109 2).toInt z))) (c_l4 (c_x4 (c_ks M 2) z) k z)) : ip_wp X 204 0 [.ref 108, .int (Int32.ofNat k), .long b, .retAddr 1, .retAddr 1, .retAddr 1, .retAddr 1, .retAddr 1, .retAddr 1, .retAddr 1, .retAddr 1, .retAddr 1, .retAddr 1] [] M K := by
  have et : ip_uI M 108 0 0 = M := ip_uI_id ht
  have e0 : i_in (Int32.ofNat k) 0 5 = true := by
    rw [i_in_z, ip_nt _ (by omega)]
    have e0 : (0 : Int32).toInt = 0 := rfl
    have e5 : (5 : Int32).toInt = 5 := rfl
    omega
  have key := fun w p pt w12 => s_204e X M K k hk b w p pt 0 1 .null .null ⟨by decide, by decide⟩ ⟨by decide, by decide⟩ w12 hG hq hm ht h3
  have l0 : Int64.ofInt 0 = 0 := rfl
  have l1 : Int64.ofInt 1 = 1 := rfl
  simp only [l0, l1] at key
  simp (config := { maxSteps := 10000000, maxDischargeDepth := 30, decide := true }) only [w204_0, w204_1, w204_2, w204_5, w204_6, w204_9, w204_12, w204_13, w204_15, w204_18, w204_19, w204_20, w204_22, w204_23, w204_26, w204_27, w204_28, w204_30, w204_31, w204_34, w204_35, w204_37, w204_39, w204_42, w204_45, w204_47, w204_50, w204_52, w204_53, w204_54, w204_57, w204_58, w204_60, w204_63, w204_64, w204_66, w204_69, w204_70, w204_73, w204_75, w204_78, w204_79, w204_81, w204_83, w204_86, w204_87, w204_89, w204_91, w204_92, w204_93, w204_96, w204_98, w204_101, w204_102, w204_103, w204_104, w204_107, w204_109, w204_112, w204_113, w204_115, w204_118, w204_121, w204_123, w204_126, w204_127, w204_130, w204_132, w204_133, w204_134, w204_137, w204_139, w204_141, w204_143, w204_146, w204_149, w204_150, w204_152, w204_155, w204_156, w204_157, w204_159, w204_160, w204_162, w204_164, w204_166, w204_169, w204_171, w204_172, w204_173, w204_176, w204_178, w204_181, w204_182, w204_184, w204_187, w204_190, w204_191, w204_193, w204_195, w204_197, w204_200, w204_202, w204_203, w204_204, w204_207, w204_209, w204_212, w204_213, w204_215, w204_218, w204_221, w204_223, w204_226, w204_227, w204_230, w204_231, w204_233, w204_236, ↓ip_ka0, ↓ip_ki1, ↓ip_kl2, ↓ip_ki4, ↓ip_kl5, ↓ip_kl7, ↓ip_ki9, ↓ip_ki12, ip_get_0, ip_get_s, ip_set1, ip_set2, ip_clr_s, ip_cat_i, ip_cat_a, List.set_cons_zero, List.set_cons_succ, Option.toList_some, List.nil_append, List.cons_append, List.length_nil, ↓reduceIte, Nat.reduceAdd, Nat.reduceEqDiff, Nat.zero_le, ip_b_t, Int32.reduceSub, ip_w_52, gS_108 hG, et, s_196, ip_Pa2, ip_Ws, ip_Ea, ip_Da, Int64.neg_zero, e0, hp0, hd0]
  exact key _ _ _ _
end
noncomputable section
-- PART 75.read
-- THE REFERENCE: reading. Where it stands: place, begin, token, byte
def rdf (T : Nat → Int32) (f p : Nat) : Bool := decide (p < f) && (!decide (T p < 48) && !decide (57 < T p))
def rd_sk (T : Nat → Int32) (f : Nat) : Nat → Nat → Nat
  | 0, p => p
  | n + 1, p => if p < f ∧ T p = 32 then rd_sk T f n (p + 1) else p
def rd_cap (x : Int32) : Int32 := if 100 < x then 100 else x
def rd_dg (T : Nat → Int32) (f : Nat) : Nat → Nat → Int32 → Nat × Int32
  | 0, p, t => (p, t)
  | n + 1, p, t => if rdf T f p = true then rd_dg T f n (p + 1) (rd_cap (10 * t + T p - 48)) else (p, t)
abbrev rd_S : Type := Nat × Nat × Int32 × Int32
def rd (T : Nat → Int32) (f : Nat) (s : rd_S) : rd_S :=
  if rdf T f (rd_sk T f f s.1) = true then ((rd_dg T f f (rd_sk T f f s.1) 0).1, rd_sk T f f s.1, (rd_dg T f f (rd_sk T f f s.1) 0).2, (if rd_sk T f f s.1 < f then T (rd_sk T f f s.1) else -1))
  else (rd_sk T f f s.1 + 1, rd_sk T f f s.1, (if rd_sk T f f s.1 < f then -2 else -1), (if rd_sk T f f s.1 < f then T (rd_sk T f f s.1) else -1))
def c_rs (M : ip_H) (s : rd_S) : ip_H := ip_uI (ip_uI (ip_uI (ip_uI M 108 34 (Int32.ofNat s.1)) 108 35 (Int32.ofNat s.2.1)) 108 37 s.2.2.1) 108 38 s.2.2.2
theorem c_rs_1 (M : ip_H) (s : rd_S) : (c_rs M s).1 = M.1 := rfl
theorem c_rs_R (M : ip_H) (s : rd_S) : (c_rs M s).2.2.2 = M.2.2.2 := rfl
theorem c_rs_L (M : ip_H) (s : rd_S) : (c_rs M s).2.2.1 = M.2.2.1 := rfl
theorem c_rs_sh (M : ip_H) (s : rd_S) (k : Nat) : ip_sh (c_rs M s) k = ip_sh M k := rfl
theorem gG_rs (M : ip_H) (s : rd_S) (h : ip_G M) : ip_G (c_rs M s) := gG_uI _ _ _ _ (gG_uI _ _ _ _ (gG_uI _ _ _ _ (gG_uI _ _ _ _ h)))
theorem c_rs_I (M : ip_H) (s : rd_S) (a b : Nat) : (c_rs M s).2.1 a b = if a = 108 ∧ b = 38 then s.2.2.2 else if a = 108 ∧ b = 37 then s.2.2.1 else if a = 108 ∧ b = 35 then Int32.ofNat s.2.1 else if a = 108 ∧ b = 34 then Int32.ofNat s.1 else M.2.1 a b := rfl
theorem rd_sk_le (T : Nat → Int32) (f : Nat) : ∀ (n p : Nat), p ≤ rd_sk T f n p ∧ rd_sk T f n p ≤ p + n := by
  intro n
  induction n with
  | zero => intro p; exact ⟨Nat.le_refl _, Nat.le_refl _⟩
  | succ n ih =>
    intro p
    rw [rd_sk]
    split
    · have := ih (p + 1); omega
    · omega
theorem rd_sk_f (T : Nat → Int32) (f : Nat) : ∀ (n p : Nat), p ≤ f → rd_sk T f n p ≤ f := by
  intro n
  induction n with
  | zero => intro p h; exact h
  | succ n ih =>
    intro p h
    rw [rd_sk]
    split
    · rename_i hc; exact ih _ hc.1
    · exact h
theorem rd_sk_ge (T : Nat → Int32) (f n p : Nat) (h : f ≤ p) : rd_sk T f n p = p := by
  cases n with
  | zero => rfl
  | succ n => rw [rd_sk, if_neg (by omega)]
theorem rd_dg_f (T : Nat → Int32) (f : Nat) : ∀ (n p : Nat) (t : Int32), p ≤ f → (rd_dg T f n p t).1 ≤ f := by
  intro n
  induction n with
  | zero => intro p t h; exact h
  | succ n ih =>
    intro p t h
    rw [rd_dg]
    split
    · rename_i hc
      unfold rdf at hc
      simp only [Bool.and_eq_true, decide_eq_true_eq] at hc
      exact ih _ _ hc.1
    · exact h
/-- behind a token: at most one further than the end, or one further than it was -/
theorem rd_le (T : Nat → Int32) (f : Nat) (s : rd_S) (m : Nat) (h : s.1 ≤ m) (hm : f ≤ m) : (rd T f s).1 ≤ m + 1 ∧ (rd T f s).2.1 ≤ m := by
  unfold rd
  have h2 : rd_sk T f f s.1 ≤ m := by
    rcases Nat.lt_or_ge f s.1 with q | q
    · rw [rd_sk_ge T f f s.1 (by omega)]; exact h
    · exact Nat.le_trans (rd_sk_f T f f s.1 q) hm
  split
  · rename_i hc
    refine ⟨?_, h2⟩
    have hf : rd_sk T f f s.1 ≤ f := by
      unfold rdf at hc
      simp only [Bool.and_eq_true, decide_eq_true_eq] at hc
      omega
    have := rd_dg_f T f f _ 0 hf
    dsimp only
    omega
  · dsimp only
    omega

set_option maxHeartbeats 40000000 in
set_option maxRecDepth 100000 in
theorem s_229 (X : ip_X) (M : ip_H) (K : Option Value → ip_H → Prop) (p f : Nat) (hp : p ≤ 1000) (hf : f ≤ 200) (h34 : M.2.1 108 34 = Int32.ofNat p) (h36 : M.2.1 108 36 = Int32.ofNat f) (hG : ip_G M) : ip_wp X 229 0 [.ref 108] [] M K = K (some (.int (ip_b (rdf (M.2.1 120) f p)))) M := by
  have np := eq_false (ip_nn p (by omega))
  have cp := ip_nc p (by omega)
  have lf : (Int32.ofNat p < Int32.ofNat f) = (p < f) := ip_nlt _ _ (by omega) (by omega)
  unfold rdf
  by_cases h : p < f
  · have l2 : (p < 200) = True := eq_true (by omega)
    by_cases h1 : M.2.1 120 p < 48
    · simp (config := { maxSteps := 10000000, maxDischargeDepth := 30, decide := true }) only [w229_0, w229_1, w229_4, w229_5, w229_8, w229_11, w229_12, w229_15, w229_16, w229_19, w229_20, w229_22, w229_25, w229_26, w229_29, w229_30, w229_33, w229_34, w229_36, w229_39, w229_40, w229_43, w229_44, ↓ip_ka0, ip_vr_some, ↓reduceIte, or_false, and_self, not_false_eq_true, ip_b_f, ip_ix_eq, gS_108 hG, gS_120 hG, gR_108_31 hG, h34, h36, np, cp, lf, h, l2, h1, decide_true, Bool.not_true, Bool.and_false, Bool.false_and]
    · by_cases h2 : 57 < M.2.1 120 p
      · simp (config := { maxSteps := 10000000, maxDischargeDepth := 30, decide := true }) only [w229_0, w229_1, w229_4, w229_5, w229_8, w229_11, w229_12, w229_15, w229_16, w229_19, w229_20, w229_22, w229_25, w229_26, w229_29, w229_30, w229_33, w229_34, w229_36, w229_39, w229_40, w229_43, w229_44, ↓ip_ka0, ip_vr_some, ↓reduceIte, or_false, and_self, not_false_eq_true, ip_b_f, ip_ix_eq, gS_108 hG, gS_120 hG, gR_108_31 hG, h34, h36, np, cp, lf, h, l2, h1, h2, decide_true, decide_false, Bool.not_true, Bool.not_false, Bool.and_false]
      · simp (config := { maxSteps := 10000000, maxDischargeDepth := 30, decide := true }) only [w229_0, w229_1, w229_4, w229_5, w229_8, w229_11, w229_12, w229_15, w229_16, w229_19, w229_20, w229_22, w229_25, w229_26, w229_29, w229_30, w229_33, w229_34, w229_36, w229_39, w229_40, w229_43, w229_44, ↓ip_ka0, ip_vr_some, ↓reduceIte, or_true, and_self, not_false_eq_true, ip_b_t, ip_ix_eq, gS_108 hG, gS_120 hG, gR_108_31 hG, h34, h36, np, cp, lf, h, l2, h1, h2, decide_true, decide_false, Bool.not_false, Bool.and_true]
  · simp (config := { maxSteps := 10000000, maxDischargeDepth := 30, decide := true }) only [w229_0, w229_1, w229_4, w229_5, w229_8, w229_11, w229_12, w229_15, w229_16, w229_19, w229_20, w229_22, w229_25, w229_26, w229_29, w229_30, w229_33, w229_34, w229_36, w229_39, w229_40, w229_43, w229_44, ↓ip_ka0, ↓reduceIte, or_false, ip_b_f, gS_108 hG, h34, h36, lf, h, decide_false, Bool.false_and]

set_option maxHeartbeats 40000000 in
set_option maxRecDepth 100000 in
theorem s_230a (X : ip_X) (M : ip_H) (K : Option Value → ip_H → Prop) (f : Nat) (hf : f ≤ 200) (h36 : M.2.1 108 36 = Int32.ofNat f) (hG : ip_G M) : ∀ (n p : Nat), p ≤ 1000 → f ≤ p + n → ip_wp X 230 0 [.ref 108] [] (ip_uI M 108 34 (Int32.ofNat p)) K = ip_wp X 230 38 [.ref 108] [] (ip_uI M 108 34 (Int32.ofNat (rd_sk (M.2.1 120) f n p))) K := by
  intro n
  induction n with
  | zero =>
    intro p hp hn
    have np := eq_false (ip_nn p (by omega))
    have cp := ip_nc p (by omega)
    have lf : (Int32.ofNat p < Int32.ofNat f) = (p < f) := ip_nlt _ _ (by omega) (by omega)
    have h : ¬ p < f := by omega
    rw [rd_sk]
    simp (config := { maxSteps := 10000000, maxDischargeDepth := 30, decide := true }) only [w230_0, w230_1, w230_4, w230_5, w230_8, w230_11, w230_12, w230_15, w230_16, w230_19, w230_20, w230_22, w230_25, w230_26_r, w230_27, w230_30, w230_31, w230_32, w230_35, ↓ip_ka0, ip_uI_I, ip_uI_sh, ↓reduceIte, gS_108 hG, h36, lf, h]
  | succ n ih =>
    intro p hp hn
    have np := eq_false (ip_nn p (by omega))
    have cp := ip_nc p (by omega)
    have lf : (Int32.ofNat p < Int32.ofNat f) = (p < f) := ip_nlt _ _ (by omega) (by omega)
    have e1 : Int32.ofNat p + 1 = Int32.ofNat (p + 1) := ip_oa p 1
    rw [rd_sk]
    by_cases h : p < f
    · have l2 : (p < 200) = True := eq_true (by omega)
      by_cases h2 : M.2.1 120 p = 32
      · rw [if_pos ⟨h, h2⟩, ← ih (p + 1) (by omega) (by omega)]
        have step : ∀ Z : Prop, ip_wp X 230 0 [.ref 108] [] (ip_uI M 108 34 (Int32.ofNat (p + 1))) K = Z → ip_wp X 230 0 [.ref 108] [] (ip_uI M 108 34 (Int32.ofNat p)) K = Z := by
          intro Z hZ
          simp (config := { maxSteps := 10000000, maxDischargeDepth := 30, decide := true }) only [w230_0, w230_1, w230_4, w230_5, w230_8, w230_11, w230_12, w230_15, w230_16, w230_19, w230_20, w230_22, w230_25, w230_26_r, w230_27, w230_30, w230_31, w230_32, ↓ip_ka0, ip_uI_I, ip_uI_R, ip_uI_sh, ip_vr_some, ↓reduceIte, false_and, and_self, not_false_eq_true, ip_ix_eq, gS_108 hG, gS_120 hG, gR_108_31 hG, h36, np, cp, lf, h, l2, h2, e1, ip_uI_uI]
          rw [w230_35]
          exact hZ
        exact step _ rfl
      · rw [if_neg (fun q => h2 q.2)]
        simp (config := { maxSteps := 10000000, maxDischargeDepth := 30, decide := true }) only [w230_0, w230_1, w230_4, w230_5, w230_8, w230_11, w230_12, w230_15, w230_16, w230_19, w230_20, w230_22, w230_25, w230_26_r, w230_27, w230_30, w230_31, w230_32, ↓ip_ka0, ip_uI_I, ip_uI_R, ip_uI_sh, ip_vr_some, ↓reduceIte, false_and, and_self, not_false_eq_true, ip_ix_eq, gS_108 hG, gS_120 hG, gR_108_31 hG, h36, np, cp, lf, h, l2, h2]
    · rw [if_neg (fun q => h q.1)]
      simp (config := { maxSteps := 10000000, maxDischargeDepth := 30, decide := true }) only [w230_0, w230_1, w230_4, w230_5, w230_8, w230_11, w230_12, w230_15, w230_16, w230_19, w230_20, w230_22, w230_25, w230_26_r, w230_27, w230_30, w230_31, w230_32, ↓ip_ka0, ip_uI_I, ip_uI_sh, ↓reduceIte, gS_108 hG, h36, lf, h]

set_option maxHeartbeats 40000000 in
set_option maxRecDepth 100000 in
theorem s_230b (X : ip_X) (M : ip_H) (K : Option Value → ip_H → Prop) (f : Nat) (hf : f ≤ 200) (h36 : M.2.1 108 36 = Int32.ofNat f) (hG : ip_G M) : ∀ (n p : Nat) (t : Int32), p ≤ 1000 → f ≤ p + n → ip_wp X 230 118 [.ref 108] [] (ip_uI (ip_uI M 108 34 (Int32.ofNat p)) 108 37 t) K = K none (ip_uI (ip_uI M 108 34 (Int32.ofNat (rd_dg (M.2.1 120) f n p t).1)) 108 37 (rd_dg (M.2.1 120) f n p t).2) := by
  intro n
  induction n with
  | zero =>
    intro p t hp hn
    have h : rdf (M.2.1 120) f p = false := by unfold rdf; rw [decide_eq_false (by omega)]; rfl
    have h29 := fun K => s_229 X (ip_uI (ip_uI M 108 34 (Int32.ofNat p)) 108 37 t) K p f hp hf rfl h36 hG
    have hr : (ip_uI (ip_uI M 108 34 (Int32.ofNat p)) 108 37 t).2.1 120 = M.2.1 120 := rfl
    rw [hr, h] at h29
    rw [rd_dg]
    simp (config := { maxSteps := 10000000, maxDischargeDepth := 30, decide := true }) only [w230_118, w230_119, w230_122, w230_177, ↓ip_ka0, ip_uI_sh, Option.toList_some, List.nil_append, List.cons_append, List.length_nil, ↓reduceIte, Nat.zero_le, ip_b_f, gS_108 hG, h29]
  | succ n ih =>
    intro p t hp hn
    have np := eq_false (ip_nn p (by omega))
    have cp := ip_nc p (by omega)
    have lf : (Int32.ofNat p < Int32.ofNat f) = (p < f) := ip_nlt _ _ (by omega) (by omega)
    have e1 : Int32.ofNat p + 1 = Int32.ofNat (p + 1) := ip_oa p 1
    have h29 := fun K => s_229 X (ip_uI (ip_uI M 108 34 (Int32.ofNat p)) 108 37 t) K p f hp hf rfl h36 hG
    have hr : (ip_uI (ip_uI M 108 34 (Int32.ofNat p)) 108 37 t).2.1 120 = M.2.1 120 := rfl
    rw [hr] at h29
    rw [rd_dg]
    cases h : rdf (M.2.1 120) f p
    · rw [h] at h29
      rw [if_neg (by decide)]
      simp (config := { maxSteps := 10000000, maxDischargeDepth := 30, decide := true }) only [w230_118, w230_119, w230_122, w230_177, ↓ip_ka0, ip_uI_sh, Option.toList_some, List.nil_append, List.cons_append, List.length_nil, ↓reduceIte, Nat.zero_le, ip_b_f, gS_108 hG, h29]
    · rw [h] at h29
      have hl : p < f := by
        unfold rdf at h
        simp only [Bool.and_eq_true, decide_eq_true_eq] at h
        exact h.1
      have l2 : (p < 200) = True := eq_true (by omega)
      rw [if_pos rfl, ← ih (p + 1) _ (by omega) (by omega)]
      have step : ∀ Z : Prop, ip_wp X 230 118 [.ref 108] [] (ip_uI (ip_uI M 108 34 (Int32.ofNat (p + 1))) 108 37 (rd_cap (10 * t + M.2.1 120 p - 48))) K = Z → ip_wp X 230 118 [.ref 108] [] (ip_uI (ip_uI M 108 34 (Int32.ofNat p)) 108 37 t) K = Z := by
        intro Z hZ
        unfold rd_cap at hZ
        by_cases h100 : 100 < 10 * t + M.2.1 120 p - 48
        · rw [if_pos h100] at hZ
          simp (config := { maxSteps := 10000000, maxDischargeDepth := 30, decide := true }) only [w230_118, w230_119, w230_122, w230_125, w230_126, w230_128, w230_129, w230_132, w230_133, w230_134, w230_137, w230_138, w230_141, w230_142, w230_143, w230_145, w230_146, w230_149, w230_150, w230_153, w230_155, w230_158, w230_159, w230_161, w230_164, w230_165_r, w230_166, w230_169, w230_170, w230_171, ↓ip_ka0, ip_uI_I, ip_uI_R, ip_uI_sh, ip_vr_some, Option.toList_some, List.nil_append, List.cons_append, List.length_nil, ↓reduceIte, Nat.reduceLT, Nat.zero_le, false_and, and_self, not_false_eq_true, ip_b_t, ip_ix_eq, gS_108 hG, gS_120 hG, gR_108_31 hG, h29, np, cp, l2, e1, h100, ip_uI_uI, nf_II]
          rw [w230_174]
          exact hZ
        · rw [if_neg h100] at hZ
          simp (config := { maxSteps := 10000000, maxDischargeDepth := 30, decide := true }) only [w230_118, w230_119, w230_122, w230_125, w230_126, w230_128, w230_129, w230_132, w230_133, w230_134, w230_137, w230_138, w230_141, w230_142, w230_143, w230_145, w230_146, w230_149, w230_150, w230_153, w230_155, w230_158, w230_159, w230_161, w230_164, w230_165_r, w230_166, w230_169, w230_170, w230_171, ↓ip_ka0, ip_uI_I, ip_uI_R, ip_uI_sh, ip_vr_some, Option.toList_some, List.nil_append, List.cons_append, List.length_nil, ↓reduceIte, Nat.reduceLT, Nat.zero_le, false_and, and_self, not_false_eq_true, ip_b_t, ip_ix_eq, gS_108 hG, gS_120 hG, gR_108_31 hG, h29, np, cp, l2, e1, h100, ip_uI_uI, nf_II]
          rw [w230_174]
          exact hZ
      exact step _ rfl
end
noncomputable section
-- PART 76.read2
-- THE REFERENCE: a text read
def rd_w (s : rd_S) : Bool := !decide (s.2.2.1 < 0) && decide (s.2.2.1 < 100)
/-- one number more: whether, what is read, where it stands -/
def rd_1 (T : Nat → Int32) (f k : Nat) (D : Nat → Int32) (s : rd_S) : Bool × (Nat → Int32) × rd_S :=
  if rd_w s = true then
    if rd_w (rd T f s) = true then
      if (decide ((rd T f (rd T f s)).2.2.1 = -2) && decide ((rd T f (rd T f s)).2.2.2 = 116)) = true then (true, (fun b => if b = 3 * k + 2 then 1 else if b = 3 * k + 1 then (rd T f s).2.2.1 else if b = 3 * k then s.2.2.1 else D b), rd T f (rd T f (rd T f s)))
      else (true, (fun b => if b = 3 * k + 2 then 0 else if b = 3 * k + 1 then (rd T f s).2.2.1 else if b = 3 * k then s.2.2.1 else D b), rd T f (rd T f s))
    else (false, (fun b => if b = 3 * k then s.2.2.1 else D b), rd T f s)
  else (false, D, s)
/-- all: how many (none: 0), what is read, where it stands -/
def rd_all (T : Nat → Int32) (f : Nat) : Nat → Nat → (Nat → Int32) → rd_S → Nat × (Nat → Int32) × rd_S
  | 0, _, D, s => (0, D, s)
  | n + 1, k, D, s => if (rd_1 T f k D s).1 = true then
      if (rd_1 T f k D s).2.2.2.2.1 = -1 then (k + 1, (rd_1 T f k D s).2.1, (rd_1 T f k D s).2.2)
      else if (rd_1 T f k D s).2.2.2.2.2 = 59 ∧ (rd_1 T f k D s).2.2.2.2.1 = -2 then rd_all T f n (k + 1) (rd_1 T f k D s).2.1 (rd T f (rd_1 T f k D s).2.2)
      else (0, (rd_1 T f k D s).2.1, (rd_1 T f k D s).2.2)
    else (0, (rd_1 T f k D s).2.1, (rd_1 T f k D s).2.2)
theorem c_rs_34 (M : ip_H) (s : rd_S) (p : Nat) : ip_uI (c_rs M s) 108 34 (Int32.ofNat p) = c_rs M (p, s.2) := by
  unfold c_rs
  simp (decide := true) only [nf_II, ip_uI_uI]
theorem c_rs_37 (M : ip_H) (s : rd_S) (t : Int32) : ip_uI (c_rs M s) 108 37 t = c_rs M (s.1, s.2.1, t, s.2.2.2) := by
  unfold c_rs
  simp (decide := true) only [nf_II, ip_uI_uI]
def c_rD (M : ip_H) (D : Nat → Int32) (s : rd_S) : ip_H := c_rs (ip_sI M 121 D) s
theorem c_rD_sI (M : ip_H) (D : Nat → Int32) (s : rd_S) (j : Nat) (v : Int32) : ip_uI (c_rD M D s) 121 j v = c_rD M (fun b => if b = j then v else D b) s := by
  have e : (ip_uI (c_rD M D s) 121 j v).2.1 = (c_rD M (fun b => if b = j then v else D b) s).2.1 := by
    funext a b
    unfold c_rD
    simp only [ip_uI_I, c_rs_I, ip_sI_I]
    by_cases h : a = 121
    · subst h
      simp (decide := true) only [false_and, true_and, ↓reduceIte]
    · simp only [h, false_and, ↓reduceIte]
  exact Prod.ext rfl (Prod.ext e rfl)

set_option maxHeartbeats 40000000 in
set_option maxRecDepth 100000 in
theorem s_230 (X : ip_X) (M : ip_H) (K : Option Value → ip_H → Prop) (s : rd_S) (f : Nat) (hp : s.1 ≤ 700) (hf : f ≤ 200) (h36 : M.2.1 108 36 = Int32.ofNat f) (hG : ip_G M) : ip_wp X 230 0 [.ref 108] [] (c_rs M s) K = K none (c_rs M (rd (M.2.1 120) f s)) := by
  have ge : ip_G (c_rs M s) := gG_rs _ _ hG
  have e36 : (c_rs M s).2.1 108 36 = Int32.ofNat f := h36
  have ha := s_230a X (c_rs M s) K f hf e36 ge f s.1 (by omega) (by omega)
  rw [ip_uI_id (M := c_rs M s) (k := 108) (j := 34) (v := Int32.ofNat s.1) rfl] at ha
  have eT : (c_rs M s).2.1 120 = M.2.1 120 := rfl
  rw [eT] at ha
  rw [ha]
  clear ha
  have hle := rd_sk_le (M.2.1 120) f f s.1
  have hle2 := rd_le (M.2.1 120) f s 900 (by omega) (by omega)
  unfold rd at hle2 ⊢
  generalize (rd_sk (M.2.1 120) f f s.1) = p at *
  have np := eq_false (ip_nn p (by omega))
  have cp := ip_nc p (by omega)
  have lf : (Int32.ofNat p < Int32.ofNat f) = (p < f) := ip_nlt _ _ (by omega) (by omega)
  have e1 : Int32.ofNat p + 1 = Int32.ofNat (p + 1) := ip_oa p 1
  have hmid : ∀ (v t : Int32), (p < f → v = M.2.1 120 p ∧ t = -2) → (¬ p < f → v = -1 ∧ t = -1) → ip_wp X 230 38 [.ref 108] [] (ip_uI (c_rs M s) 108 34 (Int32.ofNat p)) K = ip_wp X 230 95 [.ref 108] [] (c_rs M (p, p, t, v)) K := by
    intro v t hv1 hv2
    have key : ∀ M1, M1 = c_rs M (p, p, t, v) → ip_wp X 230 95 [.ref 108] [] M1 K = ip_wp X 230 95 [.ref 108] [] (c_rs M (p, p, t, v)) K := fun M1 h => by rw [h]
    by_cases h : p < f
    · obtain ⟨rfl, rfl⟩ := hv1 h
      have l2 : (p < 200) = True := eq_true (by omega)
      simp (config := { maxSteps := 10000000, maxDischargeDepth := 30, decide := true }) only [w230_38, w230_39, w230_40, w230_43, w230_46, w230_47, w230_48, w230_51, w230_52, w230_55, w230_58, w230_59, w230_62, w230_63, w230_66, w230_67, w230_70, w230_71, w230_74, w230_75, w230_76, w230_79, w230_80, w230_83, w230_86, w230_88, w230_91, w230_92, ↓ip_ka0, ip_uI_I, ip_uI_R, ip_uI_sh, ip_vr_some, ↓reduceIte, false_and, and_self, not_false_eq_true, ip_ix_eq, gS_108 hG, gS_120 hG, gR_108_31 hG, gG_rs, h36, np, cp, lf, l2, h, c_rs_1, c_rs_R, c_rs_L, c_rs_sh, gG_rs, c_rs_I]
      apply key
      unfold c_rs
      simp (decide := true) only [nf_II, ip_uI_uI]
    · obtain ⟨rfl, rfl⟩ := hv2 h
      simp (config := { maxSteps := 10000000, maxDischargeDepth := 30, decide := true }) only [w230_38, w230_39, w230_40, w230_43, w230_46, w230_47, w230_48, w230_51, w230_52, w230_55, w230_58, w230_59, w230_62, w230_63, w230_66, w230_67, w230_70, w230_71, w230_74, w230_75, w230_76, w230_79, w230_80, w230_83, w230_86, w230_88, w230_91, w230_92, ↓ip_ka0, ip_uI_I, ip_uI_sh, ↓reduceIte, gS_108 hG, h36, lf, h, c_rs_1, c_rs_R, c_rs_L, c_rs_sh, gG_rs, c_rs_I]
      apply key
      unfold c_rs
      simp (decide := true) only [nf_II, ip_uI_uI]
  have h29 : ∀ (v t : Int32) K, ip_wp X 229 0 [.ref 108] [] (c_rs M (p, p, t, v)) K = K (some (.int (ip_b (rdf (M.2.1 120) f p)))) (c_rs M (p, p, t, v)) := fun v t K => s_229 X (c_rs M (p, p, t, v)) K p f (by omega) hf rfl h36 hG
  cases hr : rdf (M.2.1 120) f p
  · rw [if_neg (by decide)]
    have key : ∀ M1 t v, M1 = c_rs M (p + 1, p, t, v) → (t = (if p < f then -2 else -1)) → (v = (if p < f then M.2.1 120 p else -1)) → K none M1 = K none (c_rs M (p + 1, p, (if p < f then -2 else -1), (if p < f then M.2.1 120 p else -1))) := fun M1 t v h h1 h2 => by rw [h, h1, h2]
    have fin : ∀ v t, ip_wp X 230 95 [.ref 108] [] (c_rs M (p, p, t, v)) K = K none (c_rs M (p + 1, p, t, v)) := by
      intro v t
      have gE : ip_G (c_rs M (p, p, t, v)) := gG_rs _ _ hG
      have g8 := gS_108 gE
      have key : ∀ M1, M1 = c_rs M (p + 1, p, t, v) → K none M1 = K none (c_rs M (p + 1, p, t, v)) := fun M1 h => by rw [h]
      simp (config := { maxSteps := 10000000, maxDischargeDepth := 30, decide := true }) only [w230_95, w230_96, w230_99, w230_102, w230_103_r, w230_104, w230_107, w230_108, w230_109, w230_112, ↓ip_ka0, Option.toList_some, List.nil_append, List.cons_append, List.length_nil, ↓reduceIte, Nat.zero_le, ip_b_f, gE, g8, h29, hr, e1, c_rs_1, c_rs_R, c_rs_L, c_rs_sh, gG_rs, c_rs_I]
      apply key
      unfold c_rs
      simp (decide := true) only [nf_II, ip_uI_uI]
    by_cases h : p < f
    · rw [hmid (M.2.1 120 p) (-2) (fun _ => ⟨rfl, rfl⟩) (fun q => absurd h q), fin, if_pos h, if_pos h]
    · rw [hmid (-1) (-1) (fun q => absurd q h) (fun _ => ⟨rfl, rfl⟩), fin, if_neg h, if_neg h]
  · rw [if_pos rfl]
    have h : p < f := by
      unfold rdf at hr
      simp only [Bool.and_eq_true, decide_eq_true_eq] at hr
      exact hr.1
    rw [hmid (M.2.1 120 p) (-2) (fun _ => ⟨rfl, rfl⟩) (fun q => absurd h q), if_pos h]
    have gE : ip_G (c_rs M (p, p, -2, M.2.1 120 p)) := gG_rs _ _ hG
    have g8 := gS_108 gE
    have gE2 : ip_G (c_rs M (p, p, 0, M.2.1 120 p)) := gG_rs _ _ hG
    have hb := s_230b X (c_rs M (p, p, 0, M.2.1 120 p)) K f hf h36 gE2 f p 0 (by omega) (by omega)
    rw [ip_uI_id (M := c_rs M (p, p, 0, M.2.1 120 p)) (k := 108) (j := 34) (v := Int32.ofNat p) rfl, ip_uI_id (M := c_rs M (p, p, 0, M.2.1 120 p)) (k := 108) (j := 37) (v := 0) rfl] at hb
    have eT : (c_rs M (p, p, 0, M.2.1 120 p)).2.1 120 = M.2.1 120 := rfl
    rw [eT] at hb
    have t1 : ip_wp X 230 95 [.ref 108] [] (c_rs M (p, p, -2, M.2.1 120 p)) K = ip_wp X 230 118 [.ref 108] [] (c_rs M (p, p, 0, M.2.1 120 p)) K := by
      have key : ∀ M1, M1 = c_rs M (p, p, 0, M.2.1 120 p) → ip_wp X 230 118 [.ref 108] [] M1 K = ip_wp X 230 118 [.ref 108] [] (c_rs M (p, p, 0, M.2.1 120 p)) K := fun M1 h => by rw [h]
      simp (config := { maxSteps := 10000000, maxDischargeDepth := 30, decide := true }) only [w230_95, w230_96, w230_99, w230_102, w230_103_r, w230_104, w230_107, w230_108, w230_109, w230_112, w230_113, w230_114, w230_115, ↓ip_ka0, Option.toList_some, List.nil_append, List.cons_append, List.length_nil, ↓reduceIte, Nat.zero_le, ip_b_t, gE, g8, h29, hr, c_rs_1, c_rs_R, c_rs_L, c_rs_sh, gG_rs, c_rs_I]
      apply key
      unfold c_rs
      simp (decide := true) only [nf_II, ip_uI_uI]
    rw [t1, hb, c_rs_34, c_rs_37]

set_option maxHeartbeats 40000000 in
set_option maxRecDepth 100000 in
theorem s_231 (X : ip_X) (M : ip_H) (K : Option Value → ip_H → Prop) (s : rd_S) (hG : ip_G M) : ip_wp X 231 0 [.ref 108] [] (c_rs M s) K = K (some (.int (ip_b (rd_w s)))) (c_rs M s) := by
  unfold rd_w
  have gE : ip_G (c_rs M s) := gG_rs _ _ hG
  have g8 := gS_108 gE
  by_cases h1 : s.2.2.1 < 0
  · simp (config := { maxSteps := 10000000, maxDischargeDepth := 30, decide := true }) only [w231_0, w231_1, w231_4, w231_7, w231_8, w231_11, w231_13, w231_16, w231_17, w231_20, w231_21, ↓ip_ka0, ↓reduceIte, or_false, ip_b_f, gE, g8, h1, c_rs_1, c_rs_R, c_rs_L, c_rs_sh, gG_rs, c_rs_I, decide_true, Bool.not_true, Bool.false_and]
  · by_cases h2 : s.2.2.1 < 100
    · simp (config := { maxSteps := 10000000, maxDischargeDepth := 30, decide := true }) only [w231_0, w231_1, w231_4, w231_7, w231_8, w231_11, w231_13, w231_16, w231_17, w231_20, w231_21, ↓ip_ka0, ↓reduceIte, or_true, ip_b_t, gE, g8, h1, h2, c_rs_1, c_rs_R, c_rs_L, c_rs_sh, gG_rs, c_rs_I, decide_true, decide_false, Bool.not_false, Bool.and_true]
    · simp (config := { maxSteps := 10000000, maxDischargeDepth := 30, decide := true }) only [w231_0, w231_1, w231_4, w231_7, w231_8, w231_11, w231_13, w231_16, w231_17, w231_20, w231_21, ↓ip_ka0, ↓reduceIte, or_false, ip_b_f, gE, g8, h1, h2, c_rs_1, c_rs_R, c_rs_L, c_rs_sh, gG_rs, c_rs_I, decide_false, Bool.not_false, Bool.and_false]

set_option maxHeartbeats 40000000 in
set_option maxRecDepth 100000 in
theorem s_232 (X : ip_X) (M : ip_H) (K : Option Value → ip_H → Prop) (k f : Nat) (hk : k < 40) (D : Nat → Int32) (s : rd_S) (hp : s.1 ≤ 600) (hf : f ≤ 200) (h36 : M.2.1 108 36 = Int32.ofNat f) (hG : ip_G M) : ip_wp X 232 0 [.ref 108, .int (Int32.ofNat k), .retAddr 1] [] (c_rD M D s) K = K (some (.int (ip_b (rd_1 (M.2.1 120) f k D s).1))) (c_rD M (rd_1 (M.2.1 120) f k D s).2.1 (rd_1 (M.2.1 120) f k D s).2.2) := by
  have e0 : 3 * Int32.ofNat k = Int32.ofNat (3 * k) := ip_om 3 k
  have e00 : Int32.ofNat (3 * k) + 0 = Int32.ofNat (3 * k) := ip_oa _ 0
  have n0 := eq_false (ip_nn (3 * k) (by omega))
  have c0 := ip_nc (3 * k) (by omega)
  have l0 : (3 * k < 120) = True := eq_true (by omega)
  have e1 : Int32.ofNat (3 * k) + 1 = Int32.ofNat (3 * k + 1) := ip_oa _ 1
  have n1 := eq_false (ip_nn (3 * k + 1) (by omega))
  have c1 := ip_nc (3 * k + 1) (by omega)
  have l1 : (3 * k + 1 < 120) = True := eq_true (by omega)
  have e2 : Int32.ofNat (3 * k) + 2 = Int32.ofNat (3 * k + 2) := ip_oa _ 2
  have n2 := eq_false (ip_nn (3 * k + 2) (by omega))
  have c2 := ip_nc (3 * k + 2) (by omega)
  have l2 : (3 * k + 2 < 120) = True := eq_true (by omega)
  have gr : ∀ D s, ip_G (c_rD M D s) := fun D s => hG
  have g8 : ∀ D s, ip_sh (c_rD M D s) 108 = (0, 11, 48) := fun D s => gS_108 hG
  have g21 : ∀ D s, ip_sh (c_rD M D s) 121 = (1, 0, 120) := fun D s => gS_121 hG
  have r39 : ∀ D s, (c_rD M D s).2.2.2 108 39 = some 121 := fun D s => gR_108_39 hG
  have t37 : ∀ D s, (c_rD M D s).2.1 108 37 = s.2.2.1 := fun D s => Eq.trans rfl rfl
  have t38 : ∀ D s, (c_rD M D s).2.1 108 38 = s.2.2.2 := fun D s => Eq.trans rfl rfl
  have hw : ∀ D s K, ip_wp X 231 0 [.ref 108] [] (c_rD M D s) K = K (some (.int (ip_b (rd_w s)))) (c_rD M D s) := fun D s K => s_231 X (ip_sI M 121 D) K s hG
  have b1 := rd_le (M.2.1 120) f s 600 hp (by omega)
  have b2 := rd_le (M.2.1 120) f (rd (M.2.1 120) f s) 601 b1.1 (by omega)
  have hr0 : ∀ D K, ip_wp X 230 0 [.ref 108] [] (c_rD M D s) K = K none (c_rD M D (rd (M.2.1 120) f s)) := fun D K => s_230 X (ip_sI M 121 D) K s f (by omega) hf h36 hG
  have hr1 : ∀ D K, ip_wp X 230 0 [.ref 108] [] (c_rD M D (rd (M.2.1 120) f s)) K = K none (c_rD M D (rd (M.2.1 120) f (rd (M.2.1 120) f s))) := fun D K => s_230 X (ip_sI M 121 D) K _ f (by omega) hf h36 hG
  have hr2 : ∀ D K, ip_wp X 230 0 [.ref 108] [] (c_rD M D (rd (M.2.1 120) f (rd (M.2.1 120) f s))) K = K none (c_rD M D (rd (M.2.1 120) f (rd (M.2.1 120) f (rd (M.2.1 120) f s)))) := fun D K => s_230 X (ip_sI M 121 D) K _ f (by omega) hf h36 hG
  unfold rd_1
  cases w0 : rd_w s
  · rw [if_neg (by decide)]
    simp (config := { maxSteps := 10000000, maxDischargeDepth := 30, decide := true }) only [w232_0, w232_1, w232_2, w232_3, w232_4, w232_7, w232_8, w232_11, w232_14, w232_15, w232_16, w232_17, w232_20, w232_21, w232_22, w232_23, w232_24, w232_25, w232_26, w232_29, w232_30, w232_31, w232_34, w232_37, w232_40, w232_41, w232_44, w232_46, w232_49, w232_50, w232_53, w232_55, w232_58, w232_59, w232_62, w232_63, w232_64, w232_65, w232_68, w232_69, w232_70, w232_71, w232_72, w232_73, w232_74, w232_77, w232_78, w232_81, w232_82, w232_83, w232_84, w232_87, w232_88, w232_91, w232_92, ↓ip_ka0, ↓ip_ki2, ip_get_0, ip_get_s, ip_set1, ip_clr_s, ip_cat_i, List.set_cons_zero, List.set_cons_succ, Option.toList_some, List.nil_append, List.cons_append, List.length_nil, ↓reduceIte, Nat.reduceEqDiff, Nat.zero_le, or_false, ip_b_f, g8, hw, w0]
  rw [if_pos rfl]
  cases w1 : rd_w (rd (M.2.1 120) f s)
  · rw [if_neg (by decide)]
    simp (config := { maxSteps := 10000000, maxDischargeDepth := 30, decide := true }) only [w232_0, w232_1, w232_2, w232_3, w232_4, w232_7, w232_8, w232_11, w232_14, w232_15, w232_16, w232_17, w232_20, w232_21, w232_22, w232_23, w232_24, w232_25, w232_26, w232_29, w232_30, w232_31, w232_34, w232_37, w232_40, w232_41, w232_44, w232_46, w232_49, w232_50, w232_53, w232_55, w232_58, w232_59, w232_62, w232_63, w232_64, w232_65, w232_68, w232_69, w232_70, w232_71, w232_72, w232_73, w232_74, w232_77, w232_78, w232_81, w232_82, w232_83, w232_84, w232_87, w232_88, w232_91, w232_92, ↓ip_ka0, ↓ip_ki1, ↓ip_ki2, ip_get_0, ip_get_s, ip_set1, ip_clr_s, ip_cat_i, List.set_cons_zero, List.set_cons_succ, ip_vr_some, Option.toList_some, Option.toList_none, List.nil_append, List.cons_append, List.length_nil, ↓reduceIte, Nat.reduceEqDiff, Nat.zero_le, or_false, and_self, not_false_eq_true, ip_b_t, ip_b_f, Int32.reduceAdd, ip_ix_eq, g8, g21, r39, t37, hw, hr0, w0, w1, c_rD_sI, e0, e00, n0, c0, l0]
  rw [if_pos rfl]
  by_cases h1 : (rd (M.2.1 120) f (rd (M.2.1 120) f s)).2.2.1 = -2
  · by_cases h2 : (rd (M.2.1 120) f (rd (M.2.1 120) f s)).2.2.2 = 116
    · rw [decide_eq_true h1, decide_eq_true h2, Bool.true_and, if_pos rfl]
      simp (config := { maxSteps := 10000000, maxDischargeDepth := 30, decide := true }) only [w232_0, w232_1, w232_2, w232_3, w232_4, w232_7, w232_8, w232_11, w232_14, w232_15, w232_16, w232_17, w232_20, w232_21, w232_22, w232_23, w232_24, w232_25, w232_26, w232_29, w232_30, w232_31, w232_34, w232_37, w232_40, w232_41, w232_44, w232_46, w232_49, w232_50, w232_53, w232_55, w232_58, w232_59, w232_62, w232_63, w232_64, w232_65, w232_68, w232_69, w232_70, w232_71, w232_72, w232_73, w232_74, w232_77, w232_78, w232_81, w232_82, w232_83, w232_84, w232_87, w232_88, w232_91, w232_92, ↓ip_ka0, ↓ip_ki1, ↓ip_ki2, ip_get_0, ip_get_s, ip_set1, ip_clr_s, ip_cat_i, List.set_cons_zero, List.set_cons_succ, ip_vr_some, Option.toList_some, Option.toList_none, List.nil_append, List.cons_append, List.length_nil, ↓reduceIte, Nat.reduceEqDiff, Nat.zero_le, or_true, and_self, not_false_eq_true, ip_b_t, Int32.reduceAdd, ip_ix_eq, g8, g21, r39, t37, t38, hw, hr0, hr1, hr2, w0, w1, c_rD_sI, h1, h2, e0, e00, n0, c0, l0, e1, n1, c1, l1, e2, n2, c2, l2]
    · rw [decide_eq_true h1, decide_eq_false h2, Bool.true_and, if_neg (by decide)]
      simp (config := { maxSteps := 10000000, maxDischargeDepth := 30, decide := true }) only [w232_0, w232_1, w232_2, w232_3, w232_4, w232_7, w232_8, w232_11, w232_14, w232_15, w232_16, w232_17, w232_20, w232_21, w232_22, w232_23, w232_24, w232_25, w232_26, w232_29, w232_30, w232_31, w232_34, w232_37, w232_40, w232_41, w232_44, w232_46, w232_49, w232_50, w232_53, w232_55, w232_58, w232_59, w232_62, w232_63, w232_64, w232_65, w232_68, w232_69, w232_70, w232_71, w232_72, w232_73, w232_74, w232_77, w232_78, w232_81, w232_82, w232_83, w232_84, w232_87, w232_88, w232_91, w232_92, ↓ip_ka0, ↓ip_ki1, ↓ip_ki2, ip_get_0, ip_get_s, ip_set1, ip_clr_s, ip_cat_i, List.set_cons_zero, List.set_cons_succ, ip_vr_some, Option.toList_some, Option.toList_none, List.nil_append, List.cons_append, List.length_nil, ↓reduceIte, Nat.reduceEqDiff, Nat.zero_le, or_true, and_self, not_false_eq_true, ip_b_t, Int32.reduceAdd, ip_ix_eq, g8, g21, r39, t37, t38, hw, hr0, hr1, hr2, w0, w1, c_rD_sI, h1, h2, e0, e00, n0, c0, l0, e1, n1, c1, l1, e2, n2, c2, l2]
  · rw [decide_eq_false h1, Bool.false_and, if_neg (by decide)]
    simp (config := { maxSteps := 10000000, maxDischargeDepth := 30, decide := true }) only [w232_0, w232_1, w232_2, w232_3, w232_4, w232_7, w232_8, w232_11, w232_14, w232_15, w232_16, w232_17, w232_20, w232_21, w232_22, w232_23, w232_24, w232_25, w232_26, w232_29, w232_30, w232_31, w232_34, w232_37, w232_40, w232_41, w232_44, w232_46, w232_49, w232_50, w232_53, w232_55, w232_58, w232_59, w232_62, w232_63, w232_64, w232_65, w232_68, w232_69, w232_70, w232_71, w232_72, w232_73, w232_74, w232_77, w232_78, w232_81, w232_82, w232_83, w232_84, w232_87, w232_88, w232_91, w232_92, ↓ip_ka0, ↓ip_ki1, ↓ip_ki2, ip_get_0, ip_get_s, ip_set1, ip_clr_s, ip_cat_i, List.set_cons_zero, List.set_cons_succ, ip_vr_some, Option.toList_some, Option.toList_none, List.nil_append, List.cons_append, List.length_nil, ↓reduceIte, Nat.reduceEqDiff, Nat.zero_le, or_true, and_self, not_false_eq_true, ip_b_t, Int32.reduceAdd, ip_ix_eq, g8, g21, r39, t37, t38, hw, hr0, hr1, hr2, w0, w1, c_rD_sI, h1, e0, e00, n0, c0, l0, e1, n1, c1, l1, e2, n2, c2, l2]

theorem rd_1_le (T : Nat → Int32) (f k : Nat) (D : Nat → Int32) (s : rd_S) (m : Nat) (h : s.1 ≤ m) (hm : f ≤ m) : (rd_1 T f k D s).2.2.1 ≤ m + 3 := by
  have b1 := rd_le T f s m h hm
  have b2 := rd_le T f (rd T f s) (m + 1) b1.1 (by omega)
  have b3 := rd_le T f (rd T f (rd T f s)) (m + 2) b2.1 (by omega)
  unfold rd_1
  split
  · split
    · split
      · exact b3.1
      · dsimp only; omega
    · dsimp only; omega
  · dsimp only; omega
set_option maxHeartbeats 40000000 in
set_option maxRecDepth 100000 in
theorem s_233l (X : ip_X) (M : ip_H) (K : Option Value → ip_H → Prop) (f : Nat) (hf : f ≤ 200) (h36 : M.2.1 108 36 = Int32.ofNat f) (hG : ip_G M) : ∀ (n k : Nat) (D : Nat → Int32) (s : rd_S), k + n = 40 → s.1 ≤ 210 + 4 * k → ∀ q, q = (rd_all (M.2.1 120) f n k D s) → ip_wp X 233 6 [.ref 108, .int (Int32.ofNat k)] [] (c_rD M D s) K = K (some (.int (if q.1 = 0 then -1 else Int32.ofNat q.1))) (c_rD M q.2.1 q.2.2) := by
  have gr : ∀ D s, ip_G (c_rD M D s) := fun D s => hG
  have g8 : ∀ D s, ip_sh (c_rD M D s) 108 = (0, 11, 48) := fun D s => gS_108 hG
  have t37 : ∀ D s, (c_rD M D s).2.1 108 37 = s.2.2.1 := fun D s => Eq.trans rfl rfl
  have t38 : ∀ D s, (c_rD M D s).2.1 108 38 = s.2.2.2 := fun D s => Eq.trans rfl rfl
  intro n
  induction n with
  | zero =>
    intro k D s h hp q hq
    rw [rd_all] at hq
    subst hq
    have hk : k = 40 := by omega
    subst hk
    have hlt : (Int32.ofNat 40 < 40) = False := by decide +kernel
    simp (config := { maxSteps := 10000000, maxDischargeDepth := 30, decide := true }) only [w233_6, w233_7, w233_9, w233_12, w233_13, w233_14, w233_17, w233_20, w233_23, w233_24, w233_27, w233_28, w233_31, w233_32, w233_33, w233_34, w233_37, w233_39, w233_42, w233_43, w233_46, w233_48, w233_51, w233_52, w233_53, w233_54, w233_57, w233_60, w233_61, ↓ip_ki1, ↓reduceIte, Int32.reduceOfNat]
  | succ n ih =>
    intro k D s h hp q hq
    have hlt : (Int32.ofNat k < 40) = True := by rw [show (40 : Int32) = Int32.ofNat 40 from rfl, ip_nlt _ _ (by omega) (by decide)]; exact eq_true (by omega)
    have ei : Int32.ofNat k + 1 = Int32.ofNat (k + 1) := ip_oa k 1
    have hle := rd_1_le (M.2.1 120) f k D s (210 + 4 * k) hp (by omega)
    have h32 : ∀ K, ip_wp X 232 0 [.ref 108, .int (Int32.ofNat k), .retAddr 1] [] (c_rD M D s) K = K (some (.int (ip_b (rd_1 (M.2.1 120) f k D s).1))) (c_rD M (rd_1 (M.2.1 120) f k D s).2.1 (rd_1 (M.2.1 120) f k D s).2.2) := fun K => s_232 X M K k f (by omega) D s (by omega) hf h36 hG
    rw [rd_all] at hq
    generalize rd_1 (M.2.1 120) f k D s = r at *
    obtain ⟨b, D1, s1⟩ := r
    dsimp only at *
    cases b
    · rw [if_neg (by decide)] at hq
      subst hq
      simp (config := { maxSteps := 10000000, maxDischargeDepth := 30, decide := true }) only [w233_6, w233_7, w233_9, w233_12, w233_13, w233_14, w233_17, w233_20, w233_23, w233_24, w233_27, w233_28, w233_31, w233_32, w233_33, w233_34, w233_37, w233_39, w233_42, w233_43, w233_46, w233_48, w233_51, w233_52, w233_53, w233_54, w233_60, w233_61, ↓ip_ka0, ↓ip_ki1, Option.toList_some, List.nil_append, List.cons_append, List.length_nil, ↓reduceIte, Nat.zero_le, ip_b_f, g8, hlt, h32]
    rw [if_pos rfl] at hq
    by_cases ht : s1.2.2.1 = -1
    · rw [if_pos ht] at hq
      subst hq
      simp (config := { maxSteps := 10000000, maxDischargeDepth := 30, decide := true }) only [w233_6, w233_7, w233_9, w233_12, w233_13, w233_14, w233_17, w233_20, w233_23, w233_24, w233_27, w233_28, w233_31, w233_32, w233_33, w233_34, w233_37, w233_39, w233_42, w233_43, w233_46, w233_48, w233_51, w233_52, w233_53, w233_54, w233_60, w233_61, ↓ip_ka0, ↓ip_ki1, ip_get_0, ip_set1, ip_clr_s, ip_cat_r, List.set_cons_zero, List.set_cons_succ, Option.toList_some, List.nil_append, List.cons_append, List.length_nil, ↓reduceIte, Nat.reduceEqDiff, Nat.zero_le, ip_b_t, g8, t37, t38, hlt, ei, h32, ht, Nat.add_one_ne_zero]
    rw [if_neg ht] at hq
    by_cases h59 : s1.2.2.2 = 59
    · by_cases h2 : s1.2.2.1 = -2
      · rw [if_pos ⟨h59, h2⟩] at hq
        have b1 := rd_le (M.2.1 120) f s1 (213 + 4 * k) (by omega) (by omega)
        have h30 : ∀ K, ip_wp X 230 0 [.ref 108] [] (c_rD M D1 s1) K = K none (c_rD M D1 (rd (M.2.1 120) f s1)) := fun K => s_230 X (ip_sI M 121 D1) K s1 f (by omega) hf h36 hG
        rw [← ih (k + 1) D1 (rd (M.2.1 120) f s1) (by omega) (by omega) q hq]
        have step : ∀ Z : Prop, ip_wp X 233 6 [.ref 108, .int (Int32.ofNat (k + 1))] [] (c_rD M D1 (rd (M.2.1 120) f s1)) K = Z → ip_wp X 233 6 [.ref 108, .int (Int32.ofNat k)] [] (c_rD M D s) K = Z := by
          intro Z hZ
          simp (config := { maxSteps := 10000000, maxDischargeDepth := 30, decide := true }) only [w233_6, w233_7, w233_9, w233_12, w233_13, w233_14, w233_17, w233_20, w233_23, w233_24, w233_27, w233_28, w233_31, w233_32, w233_33, w233_34, w233_37, w233_39, w233_42, w233_43, w233_46, w233_48, w233_51, w233_52, w233_53, w233_54, ↓ip_ka0, ↓ip_ki1, ip_get_0, ip_set1, ip_clr_s, ip_cat_r, List.set_cons_zero, List.set_cons_succ, Option.toList_some, Option.toList_none, List.nil_append, List.cons_append, List.length_nil, ↓reduceIte, Nat.reduceEqDiff, Nat.zero_le, ip_b_t, g8, t37, t38, hlt, ei, h32, h30, h59, h2]
          rw [w233_57]
          exact hZ
        exact step _ rfl
      · rw [if_neg (fun q => h2 q.2)] at hq
        subst hq
        simp (config := { maxSteps := 10000000, maxDischargeDepth := 30, decide := true }) only [w233_6, w233_7, w233_9, w233_12, w233_13, w233_14, w233_17, w233_20, w233_23, w233_24, w233_27, w233_28, w233_31, w233_32, w233_33, w233_34, w233_37, w233_39, w233_42, w233_43, w233_46, w233_48, w233_51, w233_52, w233_53, w233_54, w233_60, w233_61, ↓ip_ka0, ↓ip_ki1, ip_get_0, ip_set1, ip_clr_s, ip_cat_r, List.set_cons_zero, List.set_cons_succ, Option.toList_some, List.nil_append, List.cons_append, List.length_nil, ↓reduceIte, Nat.reduceEqDiff, Nat.zero_le, ip_b_t, g8, t37, t38, hlt, ei, h32, ht, h59, h2]
    · rw [if_neg (fun q => h59 q.1)] at hq
      subst hq
      simp (config := { maxSteps := 10000000, maxDischargeDepth := 30, decide := true }) only [w233_6, w233_7, w233_9, w233_12, w233_13, w233_14, w233_17, w233_20, w233_23, w233_24, w233_27, w233_28, w233_31, w233_32, w233_33, w233_34, w233_37, w233_39, w233_42, w233_43, w233_46, w233_48, w233_51, w233_52, w233_53, w233_54, w233_60, w233_61, ↓ip_ka0, ↓ip_ki1, ip_get_0, ip_set1, ip_clr_s, ip_cat_r, List.set_cons_zero, List.set_cons_succ, Option.toList_some, List.nil_append, List.cons_append, List.length_nil, ↓reduceIte, Nat.reduceEqDiff, Nat.zero_le, ip_b_t, g8, t37, t38, hlt, ei, h32, ht, h59]
end
noncomputable section
-- PART 77.read3
-- THE REFERENCE: read
theorem ip_any (x : Int32) : ∃ n : Nat, x = Int32.ofNat n := ⟨x.toBitVec.toNat, by
  apply Int32.toBitVec_inj.mp
  show x.toBitVec = BitVec.ofNat 32 x.toBitVec.toNat
  simp⟩
def wdk (D : Nat → Int32) (k : Nat) : Prop := (0 ≤ (D (3 * k)).toInt ∧ (D (3 * k)).toInt ≤ 99) ∧ (0 ≤ (D (3 * k + 1)).toInt ∧ (D (3 * k + 1)).toInt ≤ 99) ∧ (D (3 * k + 2) = 0 ∨ D (3 * k + 2) = 1)
theorem rd_w_b {s : rd_S} (h : rd_w s = true) : 0 ≤ s.2.2.1.toInt ∧ s.2.2.1.toInt ≤ 99 := by
  unfold rd_w at h
  rw [Bool.and_eq_true, Bool.not_eq_true', decide_eq_false_iff_not, decide_eq_true_eq, Int32.lt_iff_toInt_lt, Int32.lt_iff_toInt_lt] at h
  have e0 : (0 : Int32).toInt = 0 := rfl
  have e1 : (100 : Int32).toInt = 100 := rfl
  omega
theorem rd_1_ok (T : Nat → Int32) (f k : Nat) (D : Nat → Int32) (s : rd_S) (h : (rd_1 T f k D s).1 = true) : wdk (rd_1 T f k D s).2.1 k ∧ ∀ b, b < 3 * k → (rd_1 T f k D s).2.1 b = D b := by
  unfold rd_1 at *
  split at h
  · rename_i h1
    split at h
    · rename_i h2
      have b1 := rd_w_b h1
      have b2 := rd_w_b h2
      rw [if_pos h1, if_pos h2]
      split
      · refine ⟨⟨?_, ?_, ?_⟩, ?_⟩
        · dsimp only; rw [if_neg (by omega), if_neg (by omega), if_pos rfl]; exact b1
        · dsimp only; rw [if_neg (by omega), if_pos rfl]; exact b2
        · dsimp only; rw [if_pos rfl]; exact Or.inr rfl
        · intro b hb
          dsimp only
          rw [if_neg (by omega), if_neg (by omega), if_neg (by omega)]
      · refine ⟨⟨?_, ?_, ?_⟩, ?_⟩
        · dsimp only; rw [if_neg (by omega), if_neg (by omega), if_pos rfl]; exact b1
        · dsimp only; rw [if_neg (by omega), if_pos rfl]; exact b2
        · dsimp only; rw [if_pos rfl]; exact Or.inl rfl
        · intro b hb
          dsimp only
          rw [if_neg (by omega), if_neg (by omega), if_neg (by omega)]
    · cases h
  · cases h
theorem rd_all_ok (T : Nat → Int32) (f : Nat) : ∀ (n k : Nat) (D : Nat → Int32) (s : rd_S), (∀ j, j < k → wdk D j) → (rd_all T f n k D s).1 ≠ 0 → (rd_all T f n k D s).1 ≤ k + n ∧ ∀ j, j < (rd_all T f n k D s).1 → wdk (rd_all T f n k D s).2.1 j := by
  intro n
  induction n with
  | zero => intro k D s h h0; exact absurd rfl h0
  | succ n ih =>
    intro k D s h h0
    rw [rd_all] at h0 ⊢
    cases hb : (rd_1 T f k D s).1
    · rw [hb, if_neg (by decide)] at h0
      exact absurd rfl h0
    · rw [hb, if_pos rfl] at h0
      rw [if_pos rfl]
      obtain ⟨o1, o2⟩ := rd_1_ok T f k D s hb
      have hall : ∀ j, j < k + 1 → wdk (rd_1 T f k D s).2.1 j := by
        intro j hj
        by_cases e : j = k
        · rw [e]; exact o1
        · have := h j (by omega)
          unfold wdk at *
          rw [o2 _ (by omega), o2 _ (by omega), o2 _ (by omega)]
          exact this
      split
      · exact ⟨by dsimp only; omega, hall⟩
      · rename_i ht
        rw [if_neg ht] at h0
        split
        · rename_i hc
          rw [if_pos hc] at h0
          obtain ⟨i1, i2⟩ := ih (k + 1) _ _ hall h0
          exact ⟨by omega, i2⟩
        · rename_i hc
          rw [if_neg hc] at h0
          exact absurd rfl h0
/-- where the TAPE is taken from the beginning -/
def c_r0 (M : ip_H) : ip_H := ip_uI (ip_uI M 108 32 0) 108 36 (M.2.1 108 32)
def c_wd (M : ip_H) (D : Nat → Int32) (m : Nat) : ip_H := ip_sI M 109 (c_cp (fun b => if b = 8 then Int32.ofNat m else M.2.1 109 b) D 33 0 (3 * m))

set_option maxHeartbeats 40000000 in
set_option maxRecDepth 100000 in
theorem s_234l (X : ip_X) (M : ip_H) (K : Option Value → ip_H → Prop) (m : Nat) (hm : m ≤ 40) (hG : ip_G M) : ∀ (n i : Nat), i + n = 3 * m → ip_wp X 234 73 [.ref 108, .int (Int32.ofNat m), .int (Int32.ofNat i)] [] (ip_sI M 109 (c_cp (M.2.1 109) (M.2.1 121) 33 0 i)) K = ip_wp X 234 101 [.ref 108, .int (Int32.ofNat m), .int (Int32.ofNat (3 * m))] [] (ip_sI M 109 (c_cp (M.2.1 109) (M.2.1 121) 33 0 (3 * m))) K := by
  have e3 : 3 * Int32.ofNat m = Int32.ofNat (3 * m) := ip_om 3 m
  intro n
  induction n with
  | zero =>
    intro i h
    have hi : i = 3 * m := by omega
    subst hi
    have hk : (Int32.ofNat (3 * m) < Int32.ofNat (3 * m)) = False := by rw [ip_nlt _ _ (by omega) (by omega)]; exact eq_false (by omega)
    simp (config := { maxSteps := 10000000, maxDischargeDepth := 30, decide := true }) only [w234_73, w234_74, w234_75, w234_76, w234_77, ↓ip_ki1, ↓ip_ki2, ↓reduceIte, hk, e3]
  | succ n ih =>
    intro i h
    have hk : (Int32.ofNat i < Int32.ofNat (3 * m)) = True := by rw [ip_nlt _ _ (by omega) (by omega)]; exact eq_true (by omega)
    have ei : Int32.ofNat i + 1 = Int32.ofNat (i + 1) := ip_oa i 1
    have et : 33 + Int32.ofNat i = Int32.ofNat (33 + i) := by rw [show (33 : Int32) = Int32.ofNat 33 from rfl, ip_oa]
    have nt := eq_false (ip_nn (33 + i) (by omega))
    have ct := ip_nc (33 + i) (by omega)
    have lt : (33 + i < 821) = True := eq_true (by omega)
    have ns := eq_false (ip_nn i (by omega))
    have cs := ip_nc i (by omega)
    have ls : (i < 120) = True := eq_true (by omega)
    have eM : (ip_sI M 109 (c_cp (M.2.1 109) (M.2.1 121) 33 0 (i + 1))) = ip_uI (ip_sI M 109 (c_cp (M.2.1 109) (M.2.1 121) 33 0 i)) 109 (33 + i) (M.2.1 121 i) := by
      rw [ip_uI_sI, ← c_cp_s]
      simp only [Nat.zero_add]
    have step : ∀ Z : Prop, ip_wp X 234 73 [.ref 108, .int (Int32.ofNat m), .int (Int32.ofNat (i + 1))] [] (ip_uI (ip_sI M 109 (c_cp (M.2.1 109) (M.2.1 121) 33 0 i)) 109 (33 + i) (M.2.1 121 i)) K = Z → ip_wp X 234 73 [.ref 108, .int (Int32.ofNat m), .int (Int32.ofNat i)] [] (ip_sI M 109 (c_cp (M.2.1 109) (M.2.1 121) 33 0 i)) K = Z := by
      intro Z hZ
      simp (config := { maxSteps := 10000000, maxDischargeDepth := 30, decide := true }) only [w234_73, w234_74, w234_75, w234_76, w234_77, w234_80, w234_81, w234_84, w234_86, w234_87, w234_88, w234_89, w234_92, w234_93, w234_94, w234_95, ↓ip_ka0, ↓ip_ki1, ↓ip_ki2, ip_get_0, ip_get_s, ip_set1, ip_clr_s, ip_cat_i, List.set_cons_zero, List.set_cons_succ, ip_vr_some, ↓reduceIte, Nat.reduceEqDiff, and_self, not_false_eq_true, ip_sI_I, ip_sI_R, ip_sI_sh, ip_ix_eq, gS_108 hG, gS_109 hG, gS_121 hG, gR_108_1 hG, gR_108_39 hG, hk, e3, ei, et, nt, ct, lt, ns, cs, ls]
      rw [w234_98]
      exact hZ
    exact step _ ((congrArg (fun q => ip_wp X 234 73 [.ref 108, .int (Int32.ofNat m), .int (Int32.ofNat (i + 1))] [] q K) eM.symm).trans (ih (i + 1) (by omega)))

set_option maxHeartbeats 40000000 in
set_option maxRecDepth 100000 in
theorem s_233 (X : ip_X) (M : ip_H) (K : Option Value → ip_H → Prop) (f : Nat) (hf : f ≤ 200) (h36 : M.2.1 108 36 = Int32.ofNat f) (hG : ip_G M) (D : Nat → Int32) (s : rd_S) (hs : s.1 ≤ 200) : ∀ q, q = rd_all (M.2.1 120) f 40 0 D (rd (M.2.1 120) f s) → ip_wp X 233 0 [.ref 108, .retAddr 1] [] (c_rD M D s) K = K (some (.int (if q.1 = 0 then -1 else Int32.ofNat q.1))) (c_rD M q.2.1 q.2.2) := by
  intro q hq
  have b1 := rd_le (M.2.1 120) f s 200 (by omega) (by omega)
  have h30 : ∀ K, ip_wp X 230 0 [.ref 108] [] (c_rD M D s) K = K none (c_rD M D (rd (M.2.1 120) f s)) := fun K => s_230 X (ip_sI M 121 D) K s f (by omega) hf h36 hG
  have hl := s_233l X M K f hf h36 hG 40 0 D (rd (M.2.1 120) f s) (by omega) (by omega) q hq
  have e0 : Int32.ofNat 0 = 0 := by decide
  rw [e0] at hl
  rw [← hl]
  have gr : ∀ D s, ip_G (c_rD M D s) := fun D s => hG
  have g8 : ∀ D s, ip_sh (c_rD M D s) 108 = (0, 11, 48) := fun D s => gS_108 hG
  simp (config := { maxSteps := 10000000, maxDischargeDepth := 30, decide := true }) only [w233_0, w233_1, w233_2, w233_3, ↓ip_ka0, ip_set1, ip_clr_s, List.set_cons_zero, List.set_cons_succ, Option.toList_none, List.nil_append, List.length_nil, ↓reduceIte, Nat.zero_le, g8, h30]

theorem c_r0_e (M : ip_H) (b0 : Nat) (hb : M.2.1 108 35 = Int32.ofNat b0) : ip_uI (ip_uI (ip_uI M 108 36 (M.2.1 108 32)) 108 34 0) 108 32 0 = c_rD (c_r0 M) (M.2.1 121) (0, b0, M.2.1 108 37, M.2.1 108 38) := by
  have e0 : Int32.ofNat 0 = 0 := by decide
  have e : (ip_uI (ip_uI (ip_uI M 108 36 (M.2.1 108 32)) 108 34 0) 108 32 0).2.1 = (c_rD (c_r0 M) (M.2.1 121) (0, b0, M.2.1 108 37, M.2.1 108 38)).2.1 := by
    funext a b
    unfold c_rD c_r0
    simp only [c_rs_I, ip_sI_I, ip_uI_I]
    by_cases h : a = 108
    · subst h
      by_cases h38 : b = 38
      · subst h38
        simp (decide := true) only [true_and, and_self, ↓reduceIte]
      by_cases h37 : b = 37
      · subst h37
        simp (decide := true) only [true_and, and_self, ↓reduceIte]
      by_cases h35 : b = 35
      · subst h35
        simp (decide := true) only [true_and, and_self, ↓reduceIte, hb]
      by_cases h34 : b = 34
      · subst h34
        simp (decide := true) only [true_and, and_self, ↓reduceIte, e0]
      by_cases h36 : b = 36
      · subst h36
        simp (decide := true) only [true_and, and_self, ↓reduceIte]
      · simp (decide := true) only [true_and, h38, h37, h35, h34, h36, ↓reduceIte]
    · by_cases h1 : a = 121
      · subst h1
        simp (decide := true) only [false_and, ↓reduceIte]
      · simp only [h, h1, false_and, ↓reduceIte]
  exact Prod.ext rfl (Prod.ext e rfl)
set_option maxHeartbeats 40000000 in
set_option maxRecDepth 100000 in
theorem s_234a (X : ip_X) (M : ip_H) (K : Option Value → ip_H → Prop) (hG : ip_G M) (ht : M.2.1 108 0 = 0) (b0 : Nat) (hb : M.2.1 108 35 = Int32.ofNat b0) (v : Int32) (R : ip_H) (h33 : ∀ K, ip_wp X 233 0 [.ref 108, .retAddr 1] [] (c_rD (c_r0 M) (M.2.1 121) (0, b0, M.2.1 108 37, M.2.1 108 38)) K = K (some (.int v)) R) : ip_wp X 234 0 [.ref 108, .retAddr 1, .retAddr 1] [] M K = ip_wp X 234 28 [.ref 108, .int v, .retAddr 1] [] R K := by
  have et : ip_uI M 108 0 0 = M := ip_uI_id ht
  have e0 := c_r0_e M b0 hb
  have g8 : ∀ D s, ip_sh (c_rD (c_r0 M) D s) 108 = (0, 11, 48) := fun D s => gS_108 hG
  simp (config := { maxSteps := 10000000, maxDischargeDepth := 30, decide := true }) only [w234_0, w234_1, w234_2, w234_5, w234_6, w234_7, w234_10, w234_13, w234_14, w234_15, w234_18, w234_19, w234_20, w234_23, w234_24, w234_27, ↓ip_ka0, ip_set1, ip_clr_s, List.set_cons_zero, List.set_cons_succ, ip_uI_sh, Option.toList_some, List.nil_append, List.cons_append, List.length_nil, ↓reduceIte, Nat.zero_le, gS_108 hG, et, e0, g8, h33]

set_option maxHeartbeats 40000000 in
set_option maxRecDepth 100000 in
theorem s_234b (X : ip_X) (M : ip_H) (K : Option Value → ip_H → Prop) (hG : ip_G M) (b : Nat) (hb : M.2.1 108 35 = Int32.ofNat b) : ip_wp X 234 28 [.ref 108, .int (-1), .retAddr 1] [] M K = K (some (.int (-6))) (c_no (ip_uI M 108 33 (Int32.ofNat b)) 6 (-6)) := by
  simp (config := { maxSteps := 10000000, maxDischargeDepth := 30, decide := true }) only [w234_28, w234_29, w234_30, w234_31, w234_34, w234_35, w234_38, w234_41, w234_42, w234_45, w234_46, w234_47, w234_50, w234_51, w234_53, w234_56, w234_57, w234_58, ↓ip_ka0, ↓ip_ki1, ip_uI_sh, Option.toList_some, List.nil_append, List.cons_append, List.length_nil, ↓reduceIte, Nat.zero_le, gG_uI, gS_108 hG, hG, hb, s_167_6]

set_option maxHeartbeats 40000000 in
set_option maxRecDepth 100000 in
theorem s_234d (X : ip_X) (M : ip_H) (K : Option Value → ip_H → Prop) (m : Nat) (hm : m ≤ 40) (hG : ip_G M) : ip_wp X 234 63 [.ref 108, .int (Int32.ofNat m), .retAddr 1] [] M K = K (some (.int (Int32.ofNat m))) (c_ye (c_wd M (M.2.1 121) m)) := by
  have gk : ip_G (ip_uI M 109 8 (Int32.ofNat m)) := hG
  have gw : ip_G (c_wd M (M.2.1 121) m) := hG
  have g8 := gS_108 gw
  have hl := s_234l X (ip_uI M 109 8 (Int32.ofNat m)) K m hm gk (3 * m) 0 (by omega)
  have e0 : Int32.ofNat 0 = 0 := by decide
  have eA : ip_sI (ip_uI M 109 8 (Int32.ofNat m)) 109 (c_cp ((ip_uI M 109 8 (Int32.ofNat m)).2.1 109) ((ip_uI M 109 8 (Int32.ofNat m)).2.1 121) 33 0 0) = ip_uI M 109 8 (Int32.ofNat m) := by
    rw [c_cp_0]
    exact ip_sI_id _ _ _ (fun _ => rfl)
  have eB : ip_sI (ip_uI M 109 8 (Int32.ofNat m)) 109 (c_cp ((ip_uI M 109 8 (Int32.ofNat m)).2.1 109) ((ip_uI M 109 8 (Int32.ofNat m)).2.1 121) 33 0 (3 * m)) = c_wd M (M.2.1 121) m := by
    have f1 : (ip_uI M 109 8 (Int32.ofNat m)).2.1 109 = fun b => if b = 8 then Int32.ofNat m else M.2.1 109 b := by
      funext b
      simp only [ip_uI_I, true_and]
    have f2 : (ip_uI M 109 8 (Int32.ofNat m)).2.1 121 = M.2.1 121 := by
      funext b
      simp (decide := true) only [ip_uI_I, false_and, ↓reduceIte]
    rw [f1, f2]
    unfold c_wd
    have e : (ip_sI (ip_uI M 109 8 (Int32.ofNat m)) 109 (c_cp (fun b => if b = 8 then Int32.ofNat m else M.2.1 109 b) (M.2.1 121) 33 0 (3 * m))).2.1 = (ip_sI M 109 (c_cp (fun b => if b = 8 then Int32.ofNat m else M.2.1 109 b) (M.2.1 121) 33 0 (3 * m))).2.1 := by
      funext a b
      simp only [ip_sI_I, ip_uI_I]
      by_cases h : a = 109
      · rw [if_pos h, if_pos h]
      · simp only [h, false_and, ↓reduceIte]
    exact Prod.ext rfl (Prod.ext e rfl)
  rw [eA, eB, e0] at hl
  have t1 : ip_wp X 234 63 [.ref 108, .int (Int32.ofNat m), .retAddr 1] [] M K = ip_wp X 234 73 [.ref 108, .int (Int32.ofNat m), .int 0] [] (ip_uI M 109 8 (Int32.ofNat m)) K := by
    simp (config := { maxSteps := 10000000, maxDischargeDepth := 30, decide := true }) only [w234_63, w234_64, w234_67, w234_69, w234_70, w234_71, w234_72, ↓ip_ka0, ↓ip_ki1, ip_get_0, ip_get_s, ip_set1, ip_clr_s, ip_cat_i, List.set_cons_zero, List.set_cons_succ, ip_vr_some, ↓reduceIte, Nat.reduceEqDiff, Int32.reduceToNatClampNeg, ip_ix_eq, gS_108 hG, gS_109 hG, gR_108_1 hG]
  rw [t1, hl]
  simp (config := { maxSteps := 10000000, maxDischargeDepth := 30, decide := true }) only [w234_101, w234_102, w234_103, w234_106, ↓ip_ka0, ↓ip_ki1, Option.toList_some, List.nil_append, List.cons_append, List.length_nil, Nat.zero_le, gw, g8, s_168]

set_option maxHeartbeats 40000000 in
set_option maxRecDepth 100000 in
theorem s_234c (X : ip_X) (M : ip_H) (K : Option Value → ip_H → Prop) (m : Nat) (h0 : m ≠ 0) (hm : m ≤ 40) (hG : ip_G M) (h8 : m8 (M.2.1 108 12) = true) : ip_wp X 234 28 [.ref 108, .int (Int32.ofNat m), .retAddr 1] [] M K = K (some (.int (Int32.ofNat m))) (c_ye (c_wd (c_ks (ip_uI M 108 33 (-1)) 8) (M.2.1 121) m)) := by
  have hne : (Int32.ofNat m = -1) = False := by
    refine eq_false fun q => ?_
    have := congrArg Int32.toInt q
    rw [Int32.toInt_ofNat_of_lt (by omega)] at this
    have e : (-1 : Int32).toInt = -1 := rfl
    omega
  have gM : ip_G (ip_uI M 108 33 (-1)) := hG
  have gk : ip_G (c_ks (ip_uI M 108 33 (-1)) 8) := gG_ks _ _ hG
  have k21 : (c_ks (ip_uI M 108 33 (-1)) 8).2.1 121 = M.2.1 121 := by
    funext b
    exact c_ks_I _ _ _ _ (by decide) (by decide) (by omega)
  have hd := s_234d X (c_ks (ip_uI M 108 33 (-1)) 8) K m hm gk
  rw [k21] at hd
  rw [← hd]
  have h70 : ∀ K, ip_wp X 170 0 [.ref 108, .int 8, .retAddr 1] [] (ip_uI M 108 33 (-1)) K = K none (c_ks (ip_uI M 108 33 (-1)) 8) := fun K => s_170u X _ K 8 gM h8
  simp (config := { maxSteps := 10000000, maxDischargeDepth := 30, decide := true }) only [w234_28, w234_29, w234_30, w234_31, w234_34, w234_35, w234_38, w234_41, w234_42, w234_45, w234_46, w234_47, w234_50, w234_51, w234_53, w234_56, w234_57, w234_58, w234_60, ↓ip_ka0, ↓ip_ki1, ip_uI_sh, Option.toList_none, List.nil_append, List.length_nil, ↓reduceIte, Nat.zero_le, gS_108 hG, hne, h70]

theorem o_234 (X : ip_X) (M : ip_H) (K : Option Value → ip_H → Prop) (hG : ip_G M) (hq : q3 (M.2.1 109 1) = true) (hm : m8 (M.2.1 108 12) = true) (ht : M.2.1 108 0 = 0) (f : Nat) (hf : f ≤ 200) (h32 : M.2.1 108 32 = Int32.ofNat f)
    (h : ∀ b0 q, q = rd_all (M.2.1 120) f 40 0 (M.2.1 121) (rd (M.2.1 120) f (0, b0, M.2.1 108 37, M.2.1 108 38)) →
      (q.1 = 0 → K (some (.int (-6))) (c_no (ip_uI (c_rD (c_r0 M) q.2.1 q.2.2) 108 33 (Int32.ofNat q.2.2.2.1)) 6 (-6))) ∧ (q.1 ≠ 0 → q.1 ≤ 40 → (∀ j, j < q.1 → wdk q.2.1 j) → K (some (.int (Int32.ofNat q.1))) (c_ye (c_wd (c_ks (ip_uI (c_rD (c_r0 M) q.2.1 q.2.2) 108 33 (-1)) 8) q.2.1 q.1)))) : ip_wp X 234 0 [.ref 108, .retAddr 1, .retAddr 1] [] M K := by
  obtain ⟨b0, hb0⟩ := ip_any (M.2.1 108 35)
  obtain ⟨ha, hb⟩ := h b0 _ rfl
  have g0 : ip_G (c_r0 M) := hG
  have h36 : (c_r0 M).2.1 108 36 = Int32.ofNat f := h32
  have h33 := fun K => s_233 X (c_r0 M) K f hf h36 g0 (M.2.1 121) (0, b0, M.2.1 108 37, M.2.1 108 38) (Nat.zero_le _) _ rfl
  have hok := rd_all_ok (M.2.1 120) f 40 0 (M.2.1 121) (rd (M.2.1 120) f (0, b0, M.2.1 108 37, M.2.1 108 38)) (fun j hj => absurd hj (Nat.not_lt_zero _))
  have eT : (c_r0 M).2.1 120 = M.2.1 120 := by
    funext b
    unfold c_r0
    simp (decide := true) only [ip_uI_I, false_and, and_false, ↓reduceIte]
  rw [eT] at h33
  generalize rd_all (M.2.1 120) f 40 0 (M.2.1 121) (rd (M.2.1 120) f (0, b0, M.2.1 108 37, M.2.1 108 38)) = q at *
  have e1 := s_234a X M K hG ht b0 hb0 _ _ h33
  refine Eq.mpr e1 ?_
  have gR : ip_G (c_rD (c_r0 M) q.2.1 q.2.2) := gG_rs _ _ (gG_sI _ _ _ (gG_uI _ _ _ _ (gG_uI _ _ _ _ hG)))
  by_cases h0 : q.1 = 0
  · rw [if_pos h0]
    exact Eq.mpr (s_234b X _ K gR q.2.2.2.1 rfl) (ha h0)
  · rw [if_neg h0]
    obtain ⟨o1, o2⟩ := hok h0
    have hm' : m8 ((c_rD (c_r0 M) q.2.1 q.2.2).2.1 108 12) = true := hm
    have e121 : (c_rD (c_r0 M) q.2.1 q.2.2).2.1 121 = q.2.1 := by
      funext b
      rfl
    have hc := s_234c X (c_rD (c_r0 M) q.2.1 q.2.2) K q.1 h0 (by omega) gR hm'
    rw [e121] at hc
    exact Eq.mpr hc (hb h0 (by omega) o2)
end
noncomputable section
-- PART 78.solve1
-- THE REFERENCE: SQUARES of a word, one behind another
theorem q_pl_nn {B : Bool} {a b : Int64} (ha : 0 ≤ a.toInt) (hb : 0 ≤ b.toInt) : 0 ≤ (q_pl B a b).1.toInt := by
  unfold q_pl
  by_cases h : (9223372036854775807 - b < a)
  · rw [decide_eq_true h, Bool.or_true, if_pos rfl]
    decide
  · rw [decide_eq_false h, Bool.or_false]
    cases B
    · rw [if_neg (by decide)]
      rw [Int64.lt_iff_toInt_lt, Int64.toInt_sub, show (9223372036854775807 : Int64).toInt = 9223372036854775807 from rfl, Int.bmod_eq_of_le_mul_two (by have := b.toInt_lt; omega) (by have := b.toInt_lt; omega)] at h
      show 0 ≤ (a + b).toInt
      rw [Int64.toInt_add, Int.bmod_eq_of_le_mul_two (by omega) (by omega)]
      omega
    · rw [if_pos rfl]
      decide
theorem q_ti_nn {B : Bool} {a b : Int64} (ha : 0 ≤ a.toInt) (hb : 0 ≤ b.toInt) : 0 ≤ (q_ti B a b).1.toInt := by
  unfold q_ti
  by_cases h0 : b = 0
  · subst h0
    show 0 ≤ (if _ then (0 : Int64) else a * 0).toInt
    rw [Int64.mul_zero, ite_self]
    decide
  rw [decide_eq_false h0]
  by_cases h : (9223372036854775807 / b < a)
  · rw [decide_eq_true h, Bool.not_false, Bool.true_and, Bool.or_true, if_pos rfl]
    decide
  · rw [decide_eq_false h, Bool.and_false, Bool.or_false]
    cases B
    · rw [if_neg (by decide)]
      have hb0 : b.toInt ≠ 0 := fun q => h0 (Int64.toInt_inj.mp q)
      rw [Int64.lt_iff_toInt_lt, Int64.toInt_div, show (9223372036854775807 : Int64).toInt = 9223372036854775807 from rfl] at h
      have hd : (9223372036854775807 : Int).tdiv b.toInt = 9223372036854775807 / b.toInt := Int.tdiv_eq_ediv_of_nonneg (by decide)
      have hle : (9223372036854775807 : Int) / b.toInt ≤ 9223372036854775807 := Int.ediv_le_self _ (by decide)
      have hge : 0 ≤ (9223372036854775807 : Int) / b.toInt := Int.ediv_nonneg (by decide) hb
      rw [hd, Int.bmod_eq_of_le_mul_two (by omega) (by omega)] at h
      have h1 : a.toInt ≤ 9223372036854775807 / b.toInt := by omega
      have h2 : a.toInt * b.toInt ≤ 9223372036854775807 := (Int.le_ediv_iff_mul_le (by omega)).mp h1
      have h3 : 0 ≤ a.toInt * b.toInt := Int.mul_nonneg ha hb
      show 0 ≤ (a * b).toInt
      rw [Int64.toInt_mul, Int.bmod_eq_of_le_mul_two (by omega) (by omega)]
      exact h3
    · rw [if_pos rfl]
      decide
theorem q_row_nn {B : Bool} {x y z a b : Int64} (hx : 0 ≤ x.toInt) (hy : 0 ≤ y.toInt) (hz : 0 ≤ z.toInt) (ha : 0 ≤ a.toInt) (hb : 0 ≤ b.toInt) : 0 ≤ (q_row B x y z a b).1.toInt := by
  unfold q_row
  exact q_pl_nn hx (q_pl_nn (q_ti_nn hy ha) (q_ti_nn hz hb))
theorem q_nx_nn {B : Bool} {g : Nat → Int64} {a b : Int64} {t : Bool} (hg : ∀ j, j < 9 → 0 ≤ (g j).toInt) (ha : 0 ≤ a.toInt) (hb : 0 ≤ b.toInt) (j : Nat) (hj : j < 9) : 0 ≤ (q_nx B g a b t j).toInt := by
  have g0 := hg 0 (by decide)
  have g1 := hg 1 (by decide)
  have g2 := hg 2 (by decide)
  have g3 := hg 3 (by decide)
  have g4 := hg 4 (by decide)
  have g5 := hg 5 (by decide)
  have g6 := hg 6 (by decide)
  have g7 := hg 7 (by decide)
  have g8 := hg 8 (by decide)
  have hA : 0 ≤ (q_a B g a b).1.toInt := q_row_nn g0 g1 g2 ha hb
  have hB : 0 ≤ (q_b B g a b).1.toInt := q_row_nn g3 g4 g5 ha hb
  have hC : 0 ≤ (q_c B g a b).1.toInt := q_row_nn g6 g7 g8 ha hb
  unfold q_nx
  split
  · split <;> assumption
  split
  · split <;> assumption
  split
  · exact hA
  split
  · split <;> assumption
  split
  · split <;> assumption
  split
  · exact hB
  split
  · split <;> assumption
  split
  · split <;> assumption
  · exact hC
/-- round, next and whether beyond -/
def c_rN (M : ip_H) (R S : Nat → Int64) (B : Bool) : ip_H := ip_uI (ip_sL (ip_sL M 118 S) 123 R) 108 29 (ip_b B)
theorem c_rN_I (M : ip_H) (R S : Nat → Int64) (B : Bool) (a b : Nat) : (c_rN M R S B).2.1 a b = if a = 108 ∧ b = 29 then ip_b B else M.2.1 a b := rfl
theorem c_rN_L (M : ip_H) (R S : Nat → Int64) (B : Bool) (a b : Nat) : (c_rN M R S B).2.2.1 a b = if a = 123 then R b else if a = 118 then S b else M.2.2.1 a b := by
  unfold c_rN
  simp only [ip_uI_L, ip_sL_L]
theorem c_rN_109 (M : ip_H) (R S : Nat → Int64) (B : Bool) : (c_rN M R S B).2.1 109 = M.2.1 109 := by
  funext b
  rw [c_rN_I, if_neg (by omega)]
theorem c_rN_123 (M : ip_H) (R S : Nat → Int64) (B : Bool) : (c_rN M R S B).2.2.1 123 = R := by
  funext b
  rw [c_rN_L, if_pos rfl]
/-- the square of the unit: 1 where row and column are alike -/
def c_one (R : Nat → Int64) (j : Nat) : Int64 := if j < 9 then (if j % 4 = 0 then 1 else 0) else R j
theorem c_one_nn (R : Nat → Int64) (j : Nat) (h : j < 9) : 0 ≤ (c_one R j).toInt := by
  unfold c_one
  rw [if_pos h]
  split <;> decide

set_option maxHeartbeats 40000000 in
set_option maxRecDepth 100000 in
theorem s_262 (X : ip_X) (M : ip_H) (K : Option Value → ip_H → Prop) (hG : ip_G M) : ip_wp X 262 0 [.ref 108, .retAddr 1] [] M K = K none (c_rN M (c_one (M.2.2.1 123)) (M.2.2.1 118) false) := by
  have key : ∀ M1, M1 = c_rN M (c_one (M.2.2.1 123)) (M.2.2.1 118) false → K none M1 = K none (c_rN M (c_one (M.2.2.1 123)) (M.2.2.1 118) false) := fun M1 h => by rw [h]
  simp (config := { maxSteps := 10000000, maxDischargeDepth := 30, decide := true }) only [w262_0, w262_1, w262_2, w262_3, w262_5, w262_8, w262_9, w262_12, w262_13, w262_14, w262_15, w262_16, w262_19, w262_20, w262_23, w262_24, w262_25, w262_28, w262_31, w262_32, w262_33, w262_36, ↓ip_ka0, ↓ip_ki1, ip_set1, ip_clr_s, List.set_cons_zero, List.set_cons_succ, ip_uL_R, ip_uL_sh, ip_vr_some, ↓reduceIte, or_false, not_false_eq_true, Int32.reduceSub, Int32.reduceAdd, Int32.reduceMul, Int32.reduceToNatClampNeg, ip_ix_eq, Int32.reduceDiv, gS_108 hG, gS_123 hG, gR_108_43 hG, Int32.reduceMod]
  apply key
  refine Prod.ext rfl (Prod.ext rfl (Prod.ext ?_ rfl))
  funext a b
  rw [c_rN_L]
  unfold c_one
  simp only [ip_uI_L, ip_uL_L]
  by_cases h : a = 123
  · subst h
    by_cases hb : b < 9
    · have hj : b = 0 ∨ b = 1 ∨ b = 2 ∨ b = 3 ∨ b = 4 ∨ b = 5 ∨ b = 6 ∨ b = 7 ∨ b = 8 := by omega
      rcases hj with rfl | rfl | rfl | rfl | rfl | rfl | rfl | rfl | rfl <;> simp (decide := true) only [true_and, ↓reduceIte]
    · have e0 : ¬ b = 0 := by omega
      have e1 : ¬ b = 1 := by omega
      have e2 : ¬ b = 2 := by omega
      have e3 : ¬ b = 3 := by omega
      have e4 : ¬ b = 4 := by omega
      have e5 : ¬ b = 5 := by omega
      have e6 : ¬ b = 6 := by omega
      have e7 : ¬ b = 7 := by omega
      have e8 : ¬ b = 8 := by omega
      simp only [e0, e1, e2, e3, e4, e5, e6, e7, e8, hb, and_false, ↓reduceIte]
  · simp only [h, false_and, ↓reduceIte]
    by_cases h2 : a = 118
    · subst h2; rw [if_pos rfl]
    · rw [if_neg h2]

set_option maxHeartbeats 40000000 in
set_option maxRecDepth 100000 in
theorem s_263l (X : ip_X) (M : ip_H) (K : Option Value → ip_H → Prop) (k : Int32) (hG : ip_G M) : ∀ (n i : Nat), i + n = 9 → ip_wp X 263 32 [.ref 108, .int k, .int (Int32.ofNat i)] [] (ip_sL M 123 (c_cp (M.2.2.1 123) (M.2.2.1 118) (0) (0) i)) K = ip_wp X 263 56 [.ref 108, .int k, .int (Int32.ofNat 9)] [] (ip_sL M 123 (c_cp (M.2.2.1 123) (M.2.2.1 118) (0) (0) 9)) K := by
  intro n
  induction n with
  | zero =>
    intro i h
    have hi : i = 9 := by omega
    subst hi
    have hk : (Int32.ofNat 9 < 9) = False := by decide +kernel
    simp (config := { maxSteps := 10000000, maxDischargeDepth := 30, decide := true }) only [w263_32, w263_33, w263_35, w263_38, ↓ip_ki2, ↓reduceIte, Int32.reduceOfNat]
  | succ n ih =>
    intro i h
    have hk : (Int32.ofNat i < 9) = True := by rw [show (9 : Int32) = Int32.ofNat 9 from rfl, ip_nlt _ _ (by omega) (by decide)]; exact eq_true (by omega)
    have ei : Int32.ofNat i + 1 = Int32.ofNat (i + 1) := ip_oa i 1
    have et : True := trivial
    have nt : (Int32.ofNat (i) < 0) = False := eq_false (ip_nn _ (by omega))
    have ct : (Int32.ofNat (i)).toNatClampNeg = i := ip_nc _ (by omega)
    have lt : (i < 9) = True := eq_true (by omega)
    have es : True := trivial
    have ns : (Int32.ofNat (i) < 0) = False := eq_false (ip_nn _ (by omega))
    have cs : (Int32.ofNat (i)).toNatClampNeg = i := ip_nc _ (by omega)
    have ls : (i < 9) = True := eq_true (by omega)
    have hrd : True := trivial
    have eM : (ip_sL M 123 (c_cp (M.2.2.1 123) (M.2.2.1 118) (0) (0) (i + 1))) = ip_uL (ip_sL M 123 (c_cp (M.2.2.1 123) (M.2.2.1 118) (0) (0) i)) 123 (i) (M.2.2.1 118 (i)) := by rw [ip_uL_sL, ← c_cp_s]; simp only [Nat.zero_add]
    have step : ∀ Z : Prop, ip_wp X 263 32 [.ref 108, .int k, .int (Int32.ofNat (i + 1))] [] (ip_uL (ip_sL M 123 (c_cp (M.2.2.1 123) (M.2.2.1 118) (0) (0) i)) 123 (i) (M.2.2.1 118 (i))) K = Z → ip_wp X 263 32 [.ref 108, .int k, .int (Int32.ofNat i)] [] (ip_sL M 123 (c_cp (M.2.2.1 123) (M.2.2.1 118) (0) (0) i)) K = Z := by
      intro Z hZ
      simp (config := { maxSteps := 10000000, maxDischargeDepth := 30, decide := true }) only [w263_32, w263_33, w263_35, w263_38, w263_39, w263_42, w263_43, w263_44, w263_47, w263_48, w263_49, w263_50, ↓ip_ka0, ↓ip_ki2, ip_get_0, ip_get_s, ip_set1, ip_clr_s, ip_cat_i, List.set_cons_zero, List.set_cons_succ, ip_vr_some, ↓reduceIte, Nat.reduceEqDiff, and_self, not_false_eq_true, ip_sL_L, ip_sL_R, ip_sL_sh, ip_ix_eq, hk, ei, nt, ct, lt, gS_108 hG, gS_118 hG, gS_123 hG, gR_108_28 hG, gR_108_43 hG]
      rw [w263_53]
      exact hZ
    exact step _ ((congrArg (fun q => ip_wp X 263 32 [.ref 108, .int k, .int (Int32.ofNat (i + 1))] [] q K) eM.symm).trans (ih (i + 1) (by omega)))
theorem s_263l0 (X : ip_X) (M : ip_H) (K : Option Value → ip_H → Prop) (k : Int32) (hG : ip_G M) : ip_wp X 263 32 [.ref 108, .int k, .int (Int32.ofNat 0)] [] M K = ip_wp X 263 56 [.ref 108, .int k, .int (Int32.ofNat 9)] [] (ip_sL M 123 (c_cp (M.2.2.1 123) (M.2.2.1 118) (0) (0) 9)) K := by
  have h := s_263l X M K k hG 9 0 rfl
  rw [c_cp_0, ip_sL_id _ _ _ (fun _ => rfl)] at h
  exact h

set_option maxHeartbeats 40000000 in
set_option maxRecDepth 100000 in
theorem s_269_01 (X : ip_X) (M : ip_H) (K : Option Value → ip_H → Prop) (hG : ip_G M) : ip_wp X 269 0 [.ref 108, .int 0, .int 1] [] M K = K (some (.long (M.2.2.1 123 0 * M.2.2.1 123 4 - M.2.2.1 123 1 * M.2.2.1 123 3))) M := by
  simp (config := { maxSteps := 10000000, maxDischargeDepth := 30, decide := true }) only [w269_0, w269_1, w269_4, w269_5, w269_6, w269_7, w269_8, w269_9, w269_12, w269_13, w269_14, w269_15, w269_16, w269_17, w269_18, w269_21, w269_22, w269_23, w269_24, w269_25, w269_26, w269_27, w269_28, w269_31, w269_32, w269_33, w269_34, w269_35, w269_36, w269_37, w269_38, w269_39, ↓ip_ka0, ↓ip_ki1, ↓ip_ki2, ip_vr_some, Int32.reduceAdd, Int32.reduceMul, Int32.reduceToNatClampNeg, ip_ix_eq, gS_108 hG, gS_123 hG, gR_108_43 hG]

set_option maxHeartbeats 40000000 in
set_option maxRecDepth 100000 in
theorem s_269_02 (X : ip_X) (M : ip_H) (K : Option Value → ip_H → Prop) (hG : ip_G M) : ip_wp X 269 0 [.ref 108, .int 0, .int 2] [] M K = K (some (.long (M.2.2.1 123 0 * M.2.2.1 123 8 - M.2.2.1 123 2 * M.2.2.1 123 6))) M := by
  simp (config := { maxSteps := 10000000, maxDischargeDepth := 30, decide := true }) only [w269_0, w269_1, w269_4, w269_5, w269_6, w269_7, w269_8, w269_9, w269_12, w269_13, w269_14, w269_15, w269_16, w269_17, w269_18, w269_21, w269_22, w269_23, w269_24, w269_25, w269_26, w269_27, w269_28, w269_31, w269_32, w269_33, w269_34, w269_35, w269_36, w269_37, w269_38, w269_39, ↓ip_ka0, ↓ip_ki1, ↓ip_ki2, ip_vr_some, Int32.reduceAdd, Int32.reduceMul, Int32.reduceToNatClampNeg, ip_ix_eq, gS_108 hG, gS_123 hG, gR_108_43 hG]

set_option maxHeartbeats 40000000 in
set_option maxRecDepth 100000 in
theorem s_269_12 (X : ip_X) (M : ip_H) (K : Option Value → ip_H → Prop) (hG : ip_G M) : ip_wp X 269 0 [.ref 108, .int 1, .int 2] [] M K = K (some (.long (M.2.2.1 123 4 * M.2.2.1 123 8 - M.2.2.1 123 5 * M.2.2.1 123 7))) M := by
  simp (config := { maxSteps := 10000000, maxDischargeDepth := 30, decide := true }) only [w269_0, w269_1, w269_4, w269_5, w269_6, w269_7, w269_8, w269_9, w269_12, w269_13, w269_14, w269_15, w269_16, w269_17, w269_18, w269_21, w269_22, w269_23, w269_24, w269_25, w269_26, w269_27, w269_28, w269_31, w269_32, w269_33, w269_34, w269_35, w269_36, w269_37, w269_38, w269_39, ↓ip_ka0, ↓ip_ki1, ↓ip_ki2, ip_vr_some, Int32.reduceAdd, Int32.reduceMul, Int32.reduceToNatClampNeg, ip_ix_eq, gS_108 hG, gS_123 hG, gR_108_43 hG]

def c_2nd (M : ip_H) (a b c d : Int32) : ip_H := ip_uI (ip_uI (ip_uI (ip_uI M 125 0 a) 125 1 b) 125 2 c) 125 3 d

set_option maxHeartbeats 40000000 in
set_option maxRecDepth 100000 in
theorem s_285 (X : ip_X) (M : ip_H) (K : Option Value → ip_H → Prop) (a b c d : Int32) (hG : ip_G M) : ip_wp X 285 0 [.ref 108, .int a, .int b, .int c, .int d] [] M K = K none (c_2nd M a b c d) := by
  unfold c_2nd
  simp (config := { maxSteps := 10000000, maxDischargeDepth := 30, decide := true }) only [w285_0, w285_1, w285_4, w285_5, w285_6, w285_7, w285_8, w285_11, w285_12, w285_13, w285_14, w285_15, w285_18, w285_19, w285_20, w285_21, w285_22, w285_25, w285_26, w285_28, w285_29, ↓ip_ka0, ↓ip_ki1, ↓ip_ki2, ↓ip_ki3, ↓ip_ki4, ip_uI_R, ip_uI_sh, ip_vr_some, Int32.reduceToNatClampNeg, ip_ix_eq, gS_108 hG, gS_125 hG, gR_108_45 hG]

set_option maxHeartbeats 40000000 in
set_option maxRecDepth 100000 in
theorem s_244 (X : ip_X) (M : ip_H) (K : Option Value → ip_H → Prop) (a : Int32) : ip_wp X 244 0 [.int a] [] M K = K (some (.int (if a - a / 2 * 2 = 0 then 1 else -1))) M := by
  by_cases h : a - a / 2 * 2 = 0
  · rw [if_pos h]
    simp (config := { maxSteps := 10000000, maxDischargeDepth := 30, decide := true }) only [w244_0, w244_1, w244_2, w244_3, w244_6, w244_7, w244_10, w244_11, ↓ip_ki0, ↓reduceIte, not_false_eq_true, h]
  · rw [if_neg h]
    simp (config := { maxSteps := 10000000, maxDischargeDepth := 30, decide := true }) only [w244_0, w244_1, w244_2, w244_3, w244_6, w244_7, w244_10, w244_11, ↓ip_ki0, ↓reduceIte, not_false_eq_true, h]
end
noncomputable section
-- PART 79.solve2
-- THE REFERENCE: solve
def e_f (R : Nat → Int) : Int := R 4 * R 8 - R 5 * R 7
def e_g (R : Nat → Int) : Int := -R 4 - R 8
def e_1 (R : Nat → Int) : Int := R 5 * R 6 - R 3 * R 8
def e_2 (R : Nat → Int) : Int := R 7 * R 3 - R 6 * R 4
def e_z1 (p q r : Int) (R : Nat → Int) : Int × Int × Int × Int := zQ4 p q r (e_1 R, R 3, 0, 1) (e_f R, e_g R, 1, 1)
def e_z2 (p q r : Int) (R : Nat → Int) : Int × Int × Int × Int := zQ4 p q r (e_2 R, R 6, 0, 1) (e_f R, e_g R, 1, 1)
def e_b (R : Nat → Int) : Prop := ∀ j, j < 9 → 0 ≤ R j ∧ R j ≤ 99
theorem e_mul {a b : Int} (ha : 0 ≤ a ∧ a ≤ 99) (hb : 0 ≤ b ∧ b ≤ 99) : 0 ≤ a * b ∧ a * b ≤ 9801 := by
  refine ⟨Int.mul_nonneg ha.1 hb.1, ?_⟩
  have h := Int.mul_le_mul ha.2 hb.2 hb.1 (by decide : (0 : Int) ≤ 99)
  omega
theorem e_ff {R : Nat → Int} (h : e_b R) : c_fb (e_f R, e_g R, 1, 1) := by
  have a := e_mul (h 4 (by decide)) (h 8 (by decide))
  have b := e_mul (h 5 (by decide)) (h 7 (by decide))
  have c := h 4 (by decide)
  have d := h 8 (by decide)
  refine ⟨?_, ?_, ?_, by dsimp only; decide, by dsimp only; decide⟩
  · unfold zb e_f; dsimp only; omega
  · unfold zb e_g; dsimp only; omega
  · unfold zb; dsimp only; decide
theorem e_f1 {R : Nat → Int} (h : e_b R) : c_fb (e_1 R, R 3, 0, 1) := by
  have a := e_mul (h 5 (by decide)) (h 6 (by decide))
  have b := e_mul (h 3 (by decide)) (h 8 (by decide))
  have c := h 3 (by decide)
  refine ⟨?_, ?_, ?_, by dsimp only; decide, by dsimp only; decide⟩
  · unfold zb e_1; dsimp only; omega
  · unfold zb; dsimp only; omega
  · unfold zb; dsimp only; decide
theorem e_f2 {R : Nat → Int} (h : e_b R) : c_fb (e_2 R, R 6, 0, 1) := by
  have a := e_mul (h 7 (by decide)) (h 3 (by decide))
  have b := e_mul (h 6 (by decide)) (h 4 (by decide))
  have c := h 6 (by decide)
  refine ⟨?_, ?_, ?_, by dsimp only; decide, by dsimp only; decide⟩
  · unfold zb e_2; dsimp only; omega
  · unfold zb; dsimp only; omega
  · unfold zb; dsimp only; decide
theorem e_nz (R : Nat → Int) : c_nz (e_f R, e_g R, 1, 1) := fun h => absurd h.2.2 (by dsimp only; decide)
def c_ft (M : ip_H) (z : Int × Int × Int × Int) : ip_H := ip_uI (ip_uI (ip_uI (ip_uI M 124 0 (Int32.ofInt z.1)) 124 1 (Int32.ofInt z.2.1)) 124 2 (Int32.ofInt z.2.2.1)) 124 3 (Int32.ofInt z.2.2.2)
theorem c_x4_13 (M : ip_H) (z : Int × Int × Int × Int) : (c_x4 M z).2.2.1 108 13 = Int64.ofInt z.1 := by unfold c_x4; simp (decide := true) only [ip_x4_L, ↓reduceIte]
theorem c_x4_14 (M : ip_H) (z : Int × Int × Int × Int) : (c_x4 M z).2.2.1 108 14 = Int64.ofInt z.2.1 := by unfold c_x4; simp (decide := true) only [ip_x4_L, ↓reduceIte]
theorem c_x4_15 (M : ip_H) (z : Int × Int × Int × Int) : (c_x4 M z).2.2.1 108 15 = Int64.ofInt z.2.2.1 := by unfold c_x4; simp (decide := true) only [ip_x4_L, ↓reduceIte]
theorem c_x4_16 (M : ip_H) (z : Int × Int × Int × Int) : (c_x4 M z).2.2.1 108 16 = Int64.ofInt z.2.2.2 := by unfold c_x4; simp (decide := true) only [ip_x4_L, ↓reduceIte]
theorem c_x4_L (M : ip_H) (z : Int × Int × Int × Int) (a b : Nat) (h : ¬ a = 108) : (c_x4 M z).2.2.1 a b = M.2.2.1 a b := by unfold c_x4; simp only [ip_x4_L, h, false_and, ↓reduceIte]
theorem gG_cx4 (M : ip_H) (z : Int × Int × Int × Int) (h : ip_G M) : ip_G (c_x4 M z) := gG_x4 _ _ _ _ _ h
theorem s_190z (X : ip_X) (M : ip_H) (K : Option Value → ip_H → Prop) (z : Int × Int × Int × Int) (hG : ip_G M) : ip_wp X 190 0 [.ref 108] [] (c_x4 M z) K = K (some (.int (ip_b (zcan z)))) (c_x4 M z) := by
  have h := s_190 X (c_x4 M z) K (gG_cx4 M z hG)
  rw [c_x4_13, c_x4_14, c_x4_15, c_x4_16] at h
  exact h

set_option maxHeartbeats 40000000 in
set_option maxRecDepth 100000 in
theorem s_281a (X : ip_X) (M : ip_H) (K : Option Value → ip_H → Prop) (R : Nat → Int) (hR : ∀ j, j < 9 → M.2.2.1 123 j = Int64.ofInt (R j)) (hb : e_b R) (hG : ip_G M) (hF : zF (M.2.1 109 0).toInt (M.2.1 109 1).toInt (M.2.1 109 2).toInt = true) : ip_wp X 281 0 [.ref 108, .retAddr 1, .retAddr 1, .retAddr 1, .retAddr 1] [] M K = ip_wp X 281 91 [.ref 108, .long (Int64.ofInt (e_f R)), .retAddr 1, .long (Int64.ofInt (e_g R)), .retAddr 1] [] (c_x4 M (e_z1 (M.2.1 109 0).toInt (M.2.1 109 1).toInt (M.2.1 109 2).toInt R)) K := by
  have r3 := hR 3 (by decide)
  have r4 := hR 4 (by decide)
  have r5 := hR 5 (by decide)
  have r6 := hR 6 (by decide)
  have r7 := hR 7 (by decide)
  have r8 := hR 8 (by decide)
  obtain ⟨a1, a2, a3, a4, a5⟩ := e_ff hb
  obtain ⟨b1, b2, b3, b4, b5⟩ := e_f1 hb
  simp (config := { maxSteps := 10000000, maxDischargeDepth := 30, decide := true }) only [w281_0, w281_1, w281_4, w281_5, w281_6, w281_7, w281_10, w281_12, w281_13, w281_14, w281_15, w281_18, w281_19, w281_20, w281_21, w281_24, w281_26, w281_27, w281_28, w281_29, w281_30, w281_31, w281_34, w281_35, w281_36, w281_37, w281_38, w281_41, w281_43, w281_44, w281_45, w281_46, w281_47, w281_48, w281_51, w281_52, w281_53, w281_54, w281_57, w281_59, w281_60, w281_61, w281_62, w281_65, w281_66, w281_67, w281_68, w281_71, w281_73, w281_74, w281_75, w281_76, w281_77, w281_80, w281_81, w281_82, w281_83, w281_84, w281_85, w281_86, w281_87, w281_88, ↓ip_ka0, ↓ip_kl1, ↓ip_kl3, ip_get_0, ip_get_s, ip_set2, ip_clr_s, ip_cat_a, List.set_cons_zero, List.set_cons_succ, ip_vr_some, List.length_nil, ↓reduceIte, Nat.reduceAdd, Nat.reduceEqDiff, Nat.zero_le, Int32.reduceToNatClampNeg, ip_ix_eq, gS_108 hG, gS_123 hG, gR_108_43 hG, r3, r4, r5, r6, r7, r8, z_l1, ← Int64.ofInt_mul, ← Int64.ofInt_sub, ← Int64.ofInt_neg, z_l0]
  exact (s_192 X M _ (e_1 R) (R 3) 0 1 (e_f R) (e_g R) 1 1 hG hF b1 b2 b3 ⟨b4, b5⟩ ⟨a4, a5⟩ a1 a2 a3 (e_nz R))

set_option maxHeartbeats 40000000 in
set_option maxRecDepth 100000 in
theorem s_281c (X : ip_X) (M : ip_H) (K : Option Value → ip_H → Prop) (R : Nat → Int) (z : Int × Int × Int × Int) (hR : ∀ j, j < 9 → M.2.2.1 123 j = Int64.ofInt (R j)) (hb : e_b R) (hG : ip_G M) (hF : zF (M.2.1 109 0).toInt (M.2.1 109 1).toInt (M.2.1 109 2).toInt = true) (h13 : M.2.2.1 108 13 = Int64.ofInt z.1) (h14 : M.2.2.1 108 14 = Int64.ofInt z.2.1) (h15 : M.2.2.1 108 15 = Int64.ofInt z.2.2.1) (h16 : M.2.2.1 108 16 = Int64.ofInt z.2.2.2) : ip_wp X 281 100 [.ref 108, .long (Int64.ofInt (e_f R)), .retAddr 1, .long (Int64.ofInt (e_g R)), .retAddr 1] [] M K = ip_wp X 281 190 [.ref 108, .long (Int64.ofInt (e_f R)), .retAddr 1, .long (Int64.ofInt (e_g R)), .retAddr 1] [] (c_x4 (c_ft M z) (e_z2 (M.2.1 109 0).toInt (M.2.1 109 1).toInt (M.2.1 109 2).toInt R)) K := by
  have r3 := hR 3 (by decide)
  have r4 := hR 4 (by decide)
  have r5 := hR 5 (by decide)
  have r6 := hR 6 (by decide)
  have r7 := hR 7 (by decide)
  have r8 := hR 8 (by decide)
  obtain ⟨a1, a2, a3, a4, a5⟩ := e_ff hb
  obtain ⟨b1, b2, b3, b4, b5⟩ := e_f2 hb
  have hG2 : ip_G (c_ft M z) := gG_uI _ _ _ _ (gG_uI _ _ _ _ (gG_uI _ _ _ _ (gG_uI _ _ _ _ hG)))
  have ef : (c_ft M z).2.1 109 = M.2.1 109 := by
    funext b
    unfold c_ft
    simp (decide := true) only [ip_uI_I, false_and, ↓reduceIte]
  have hF2 : zF ((c_ft M z).2.1 109 0).toInt ((c_ft M z).2.1 109 1).toInt ((c_ft M z).2.1 109 2).toInt = true := by rw [ef]; exact hF
  have h92 := fun K => s_192 X (c_ft M z) K (e_2 R) (R 6) 0 1 (e_f R) (e_g R) 1 1 hG2 hF2 b1 b2 b3 ⟨b4, b5⟩ ⟨a4, a5⟩ a1 a2 a3 (e_nz R)
  rw [ef] at h92
  simp (config := { maxSteps := 10000000, maxDischargeDepth := 30, decide := true }) only [w281_100, w281_101, w281_104, w281_105, w281_106, w281_109, w281_110, w281_111, w281_112, w281_115, w281_116, w281_117, w281_120, w281_121, w281_122, w281_123, w281_126, w281_127, w281_128, w281_131, w281_132, w281_133, w281_134, w281_137, w281_138, w281_139, w281_142, w281_143, w281_144, w281_145, w281_146, w281_149, w281_151, w281_152, w281_153, w281_156, w281_157, w281_158, w281_159, w281_160, w281_163, w281_165, w281_166, w281_167, w281_170, w281_171, w281_172, w281_173, w281_174, w281_175, w281_178, w281_180, w281_181, w281_182, w281_183, w281_184, w281_185, w281_186, w281_187, ↓ip_ka0, ↓ip_kl1, ↓ip_kl3, ip_uI_L, ip_uI_R, ip_uI_sh, ip_vr_some, List.length_nil, Nat.zero_le, Int32.reduceToNatClampNeg, ip_ix_eq, gS_108 hG, gS_123 hG, gS_124 hG, gR_108_43 hG, gR_108_44 hG, h13, h14, h15, h16, z_l2i, r3, r4, r5, r6, r7, r8, z_l1, ← Int64.ofInt_mul, ← Int64.ofInt_sub, z_l0]
  exact h92 _

set_option maxHeartbeats 40000000 in
set_option maxRecDepth 100000 in
theorem o_281 (X : ip_X) (M : ip_H) (K : Option Value → ip_H → Prop) (R : Nat → Int) (hR : ∀ j, j < 9 → M.2.2.1 123 j = Int64.ofInt (R j)) (hb : e_b R) (hG : ip_G M) (hF : zF (M.2.1 109 0).toInt (M.2.1 109 1).toInt (M.2.1 109 2).toInt = true)
    (h0 : zcan (e_z1 (M.2.1 109 0).toInt (M.2.1 109 1).toInt (M.2.1 109 2).toInt R) = false → K (some (.int 0)) (c_x4 M (e_z1 (M.2.1 109 0).toInt (M.2.1 109 1).toInt (M.2.1 109 2).toInt R)))
    (h1 : zcan (e_z1 (M.2.1 109 0).toInt (M.2.1 109 1).toInt (M.2.1 109 2).toInt R) = true → K (some (.int (ip_b (zcan (e_z2 (M.2.1 109 0).toInt (M.2.1 109 1).toInt (M.2.1 109 2).toInt R))))) (c_x4 (c_ft (c_x4 M (e_z1 (M.2.1 109 0).toInt (M.2.1 109 1).toInt (M.2.1 109 2).toInt R)) (e_z1 (M.2.1 109 0).toInt (M.2.1 109 1).toInt (M.2.1 109 2).toInt R)) (e_z2 (M.2.1 109 0).toInt (M.2.1 109 1).toInt (M.2.1 109 2).toInt R))) : ip_wp X 281 0 [.ref 108, .retAddr 1, .retAddr 1, .retAddr 1, .retAddr 1] [] M K := by
  refine Eq.mpr (s_281a X M K R hR hb hG hF) ?_
  have hRn : ∀ z, ∀ j, j < 9 → (c_x4 M z).2.2.1 123 j = Int64.ofInt (R j) := fun z j hj => (c_x4_L M z 123 j (by decide)).trans (hR j hj)
  have hFn : ∀ z, zF ((c_x4 M z).2.1 109 0).toInt ((c_x4 M z).2.1 109 1).toInt ((c_x4 M z).2.1 109 2).toInt = true := fun z => hF
  have hc := fun z => s_281c X (c_x4 M z) K R z (hRn z) hb hG (hFn z) (c_x4_13 M z) (c_x4_14 M z) (c_x4_15 M z) (c_x4_16 M z)
  have e109 : ∀ z, (c_x4 M z).2.1 109 = M.2.1 109 := fun z => rfl
  simp only [e109] at hc
  generalize e_z1 (M.2.1 109 0).toInt (M.2.1 109 1).toInt (M.2.1 109 2).toInt R = z at *
  generalize e_z2 (M.2.1 109 0).toInt (M.2.1 109 1).toInt (M.2.1 109 2).toInt R = z2 at *
  have g8 : ∀ z, ip_sh (c_x4 M z) 108 = (0, 11, 48) := fun z => gS_108 hG
  have h90 := fun K => s_190z X M K z hG
  cases hz : zcan z
  · have h0 := h0 hz
    rw [hz] at h90
    simp (config := { maxSteps := 10000000, maxDischargeDepth := 30, decide := true }) only [w281_91, w281_92, w281_95, w281_98, w281_99, ↓ip_ka0, Option.toList_some, List.nil_append, List.cons_append, List.length_nil, ↓reduceIte, Nat.zero_le, or_false, ip_b_f, g8, h90]
    exact h0
  · have h1 := h1 hz
    rw [hz] at h90
    have t : ip_wp X 281 91 [.ref 108, .long (Int64.ofInt (e_f R)), .retAddr 1, .long (Int64.ofInt (e_g R)), .retAddr 1] [] (c_x4 M z) K = ip_wp X 281 100 [.ref 108, .long (Int64.ofInt (e_f R)), .retAddr 1, .long (Int64.ofInt (e_g R)), .retAddr 1] [] (c_x4 M z) K := by
      simp (config := { maxSteps := 10000000, maxDischargeDepth := 30, decide := true }) only [w281_91, w281_92, w281_95, ↓ip_ka0, Option.toList_some, List.nil_append, List.cons_append, List.length_nil, ↓reduceIte, Nat.zero_le, ip_b_t, g8, h90]
    refine Eq.mpr (t.trans (hc z)) ?_
    have gf : ip_G (c_ft (c_x4 M z) z) := gG_uI _ _ _ _ (gG_uI _ _ _ _ (gG_uI _ _ _ _ (gG_uI _ _ _ _ (gG_cx4 _ _ hG))))
    have g9 : ip_sh (c_x4 (c_ft (c_x4 M z) z) z2) 108 = (0, 11, 48) := gS_108 hG
    have h90 := fun K => s_190z X (c_ft (c_x4 M z) z) K z2 gf
    simp (config := { maxSteps := 10000000, maxDischargeDepth := 30, decide := true }) only [w281_190, w281_191, w281_194, ↓ip_ka0, Option.toList_some, List.nil_append, List.cons_append, List.length_nil, Nat.zero_le, ip_b_0, ip_b_1, g9, h90, ip_b_ft]
    exact h1
end
