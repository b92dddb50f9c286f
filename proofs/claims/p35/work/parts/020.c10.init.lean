noncomputable section
-- PART c10.init
-- THE TWO CONSTRUCTORS, by the kernel; the script's method; the claim
theorem ip_step_X {y : Nat} (hy : y ≠ ip_LAW) (X X' : ip_X) (e : ip_E) (ls st : List Value) (M : ip_H) : ip_step y X e ls st M = ip_step y X' e ls st M := by
  obtain ⟨i, nx, a, b, t, w, v, ts⟩ := e
  cases i <;> first
    | rfl
    | (simp only [ip_step]; split <;> first | rfl | (rw [if_neg hy, if_neg hy]) | (rw [if_neg (fun q => hy q.1), if_neg (fun q => hy q.1)]))
theorem ip_callee_lt {y pc : Nat} {e : ip_E} (h : ip_at y pc = some e) (hic : ip_ic e = true) : e.2.2.1 < 295 := by
  obtain ⟨-, hok⟩ := ip_at_ok h
  obtain ⟨i, nx, c, k, t, w, v, ts⟩ := e
  cases i with
  | invokestatic n2 =>
    simp only [ip_ok, Bool.and_eq_true] at hok
    obtain ⟨h1, h2⟩ := hok
    have ht6 : t < 6 := by simpa [ip_ic] using hic
    rw [if_neg (by omega)] at h2
    simp only [Bool.and_eq_true, decide_eq_true_eq] at h2
    exact ip_K_lt (List.mem_of_getElem? h2.2.1)
  | invokevirtual n2 =>
    simp only [ip_ok, Bool.and_eq_true, decide_eq_true_eq] at hok
    exact ip_K_lt (List.mem_of_getElem? hok.2.2.1)
  | invokespecial n2 =>
    simp only [ip_ok, Bool.and_eq_true] at hok
    obtain ⟨h1, h2⟩ := hok
    have ht6 : t < 6 := by simpa [ip_ic] using hic
    rw [if_neg (by omega)] at h2
    simp only [Bool.and_eq_true, decide_eq_true_eq] at h2
    exact ip_K_lt (List.mem_of_getElem? h2.2.1)
  | _ => cases hic
theorem ip_exec_X (X X' : ip_X) : ∀ (n y : Nat), y < 295 → ∀ (pc : Nat) (ls st : List Value) (M : ip_H), ip_exec X n y pc ls st M = ip_exec X' n y pc ls st M := by
  intro n
  induction n with
  | zero => intro y hy pc ls st M; rfl
  | succ n ih =>
    intro y hy pc ls st M
    rw [ip_exec, ip_exec]
    cases he : ip_at y pc with
    | none => rfl
    | some e =>
      dsimp only
      by_cases hic : ip_ic e = true
      · rw [if_pos hic, if_pos hic, ih _ (ip_callee_lt he hic)]
        by_cases hg : e.2.2.2.1 ≤ st.length ∧ ip_cw (st.drop e.2.2.2.1) ≤ 8 ∧ ip_rc e (st.take e.2.2.2.1).reverse M = true
        · rw [if_pos hg, if_pos hg]
          cases ip_exec X' n e.2.2.1 0 (ip_ent (ip_ml e.2.2.1) (st.take e.2.2.2.1).reverse) [] M with
          | none => rfl
          | some z => exact ih y hy _ _ _ _
        · rw [if_neg hg, if_neg hg]
      · rw [if_neg hic, if_neg hic, ip_step_X (by unfold ip_LAW; omega) X X']
        cases ip_rv e st with
        | some r => rfl
        | none =>
          dsimp only
          cases ip_step y X' e ls st M with
          | none => rfl
          | some z => exact ih y hy _ _ _ _
theorem ip_wp_det {X : ip_X} {n y pc : Nat} {ls st : List Value} {M M1 : ip_H} {r : Option Value} {K : Option Value → ip_H → Prop} (h : ip_exec X n y pc ls st M = some (r, M1)) : ip_wp X y pc ls st M K = K r M1 := by
  apply propext
  constructor
  · rintro ⟨n2, z, h2, hK⟩
    have h3 := ip_mono_le X (Nat.le_add_right n n2) h
    have h4 := ip_mono_le X (Nat.le_add_left n2 n) h2
    rw [h3] at h4
    cases h4
    exact hK
  · intro hK
    exact ⟨n, (r, M1), h, hK⟩
def ip_M0 : ip_H := ([], fun _ _ => 0, fun _ _ => 0, fun _ _ => none)
def ip_execF (X : ip_X) : Nat → Nat → Nat → List Value → List Value → ip_H → Option (Option Value × ip_H)
  | 0, _, _, _, _, _ => none
  | n + 1, y, pc, ls, st, M => match ai_at y pc with
    | none => none
    | some e =>
      if ip_ic e = true then
        if e.2.2.2.1 ≤ st.length ∧ ip_cw (st.drop e.2.2.2.1) ≤ 8 ∧ ip_rc e (st.take e.2.2.2.1).reverse M = true then
          match ip_execF X n e.2.2.1 0 (ip_ent (ip_ml e.2.2.1) (st.take e.2.2.2.1).reverse) [] M with
          | none => none
          | some (r, M1) => ip_execF X n y e.2.1 ls (r.toList ++ st.drop e.2.2.2.1) M1
        else none
      else match ip_rv e st with
        | some r => some (r, M)
        | none => match ip_step y X e ls st M with
          | none => none
          | some z => ip_execF X n y z.1 z.2.1 z.2.2.1 z.2.2.2
theorem ip_execF_e (X : ip_X) : ∀ (n y pc : Nat) (ls st : List Value) (M : ip_H), ip_exec X n y pc ls st M = ip_execF X n y pc ls st M := by
  intro n
  induction n with
  | zero => intros; rfl
  | succ n ih =>
    intro y pc ls st M
    rw [ip_exec, ip_execF, ai_at_eq]
    cases ip_at y pc with
    | none => rfl
    | some e =>
      dsimp only
      by_cases hic : ip_ic e = true
      · rw [if_pos hic, if_pos hic, ← ih]
        by_cases hg : e.2.2.2.1 ≤ st.length ∧ ip_cw (st.drop e.2.2.2.1) ≤ 8 ∧ ip_rc e (st.take e.2.2.2.1).reverse M = true
        · rw [if_pos hg, if_pos hg]
          cases ip_exec X n e.2.2.1 0 (ip_ent (ip_ml e.2.2.1) (st.take e.2.2.2.1).reverse) [] M with
          | none => rfl
          | some z => exact ih y _ _ _ _
        · rw [if_neg hg, if_neg hg]
      · rw [if_neg hic, if_neg hic]
        cases ip_rv e st with
        | some r => rfl
        | none =>
          dsimp only
          cases ip_step y X e ls st M with
          | none => rfl
          | some z => exact ih y _ _ _ _
def ip_execH (X : ip_X) : Nat → Nat → Nat → List (Nat × ip_E) → List Value → List Value → ip_H → Option (Option Value × ip_H)
  | 0, _, _, _, _, _, _ => none
  | n + 1, y, pc, h, ls, st, M => match ai_hs y pc h with
    | none => none
    | some (e, h1) =>
      if ip_ic e = true then
        if e.2.2.2.1 ≤ st.length ∧ ip_cw (st.drop e.2.2.2.1) ≤ 8 ∧ ip_rc e (st.take e.2.2.2.1).reverse M = true then
          match ip_execH X n e.2.2.1 0 [] (ip_ent (ip_ml e.2.2.1) (st.take e.2.2.2.1).reverse) [] M with
          | none => none
          | some (r, M1) => ip_execH X n y e.2.1 h1 ls (r.toList ++ st.drop e.2.2.2.1) M1
        else none
      else match ip_rv e st with
        | some r => some (r, M)
        | none => match ip_step y X e ls st M with
          | none => none
          | some z => ip_execH X n y z.1 h1 z.2.1 z.2.2.1 z.2.2.2
theorem ip_execH_e (X : ip_X) : ∀ (n y pc : Nat) (h : List (Nat × ip_E)) (ls st : List Value) (M : ip_H), ai_hok y h → ip_execH X n y pc h ls st M = ip_execF X n y pc ls st M := by
  intro n
  induction n with
  | zero => intros; rfl
  | succ n ih =>
    intro y pc h ls st M hh
    rw [ip_execH, ip_execF]
    have hs := ai_hs_ok pc hh
    cases hz : ai_hs y pc h with
    | none => rw [hs.2 hz]
    | some z =>
      obtain ⟨e, h1⟩ := z
      obtain ⟨ha, hh1⟩ := hs.1 _ hz
      rw [ha]
      dsimp only
      by_cases hic : ip_ic e = true
      · rw [if_pos hic, if_pos hic, ih _ _ _ _ _ _ (ai_hok_0 _)]
        by_cases hg : e.2.2.2.1 ≤ st.length ∧ ip_cw (st.drop e.2.2.2.1) ≤ 8 ∧ ip_rc e (st.take e.2.2.2.1).reverse M = true
        · rw [if_pos hg, if_pos hg]
          cases ip_execF X n e.2.2.1 0 (ip_ent (ip_ml e.2.2.1) (st.take e.2.2.2.1).reverse) [] M with
          | none => rfl
          | some z => exact ih _ _ _ _ _ _ hh1
        · rw [if_neg hg, if_neg hg]
      · rw [if_neg hic, if_neg hic]
        cases ip_rv e st with
        | some r => rfl
        | none =>
          dsimp only
          cases ip_step y X e ls st M with
          | none => rfl
          | some z => exact ih _ _ _ _ _ _ hh1
theorem ip_execH_f (X : ip_X) (n y pc : Nat) (ls st : List Value) (M : ip_H) : ip_exec X n y pc ls st M = ip_execH X n y pc [] ls st M := (ip_execF_e X n y pc ls st M).trans (ip_execH_e X n y pc [] ls st M (ai_hok_0 y)).symm
def ip_e1 : Option (Option Value × ip_H) := ip_execH (0, fun _ => 0) 1400 109 0 [] [.ref 0, .retAddr 1] [] (ip_nw ip_M0 (0, 10, 14))
def ip_M1 : ip_H := match ip_e1 with
  | some z => z.2
  | none => ip_M0
def ip_isV (z : Option (Option Value × ip_H)) : Bool := match z with
  | some (none, _) => true
  | _ => false
theorem ip_isV_spec {z : Option (Option Value × ip_H)} (h : ip_isV z = true) : ∃ M, z = some (none, M) := by
  unfold ip_isV at h
  split at h
  · exact ⟨_, rfl⟩
  · cases h
def ip_sI0 : List (Nat × Nat × Int32) := [(6, 4, 0), (6, 5, (-1)), (6, 6, (-1)), (6, 14, 0), (17, 1, 0), (19, 2, 0), (21, 1, 0), (23, 4, 0), (23, 5, 0), (30, 1, 0), (35, 1, 0), (40, 1, 0), (45, 1, 0), (50, 1, 0), (55, 1, 0), (60, 1, 0), (65, 1, 0), (70, 1, 0), (75, 1, 0), (80, 4, 0), (80, 5, (-1)), (80, 6, (-1)), (80, 14, 0), (0, 7, 0), (108, 0, 0), (108, 3, 0), (108, 12, 0), (108, 32, 0), (108, 33, (-1)), (117, 0, 0), (117, 1, 0), (109, 0, 0), (109, 1, 0), (109, 2, 2), (109, 3, 0), (109, 4, 0), (109, 5, 0), (109, 6, (-1)), (109, 7, 0), (109, 8, 0), (109, 9, 0), (109, 10, 0), (109, 11, 0), (109, 12, 1), (109, 13, 0), (109, 14, 0), (109, 15, 0), (109, 16, 1), (109, 17, 0), (109, 18, 0), (109, 19, 0), (109, 20, 1), (109, 21, 0), (109, 22, 0), (109, 23, 0), (109, 24, 1), (109, 25, 0), (109, 26, 0), (109, 27, 0), (109, 28, 1), (109, 29, 0), (109, 30, 0), (109, 31, 0), (109, 32, 1), (109, 643, 0), (109, 646, 0), (109, 649, 0), (109, 652, 0), (109, 655, 0), (109, 658, 0), (109, 661, 0), (109, 664, 0), (109, 667, 0), (109, 670, 0), (109, 673, 0), (109, 676, 0), (109, 679, 0), (109, 682, 0), (109, 685, 0), (109, 688, 0), (109, 691, 0), (109, 694, 0), (109, 697, 0), (109, 700, 0), (109, 703, 0), (109, 706, 0), (109, 709, 0), (109, 712, 0), (109, 715, 0), (109, 718, 0), (109, 721, 0), (109, 724, 0), (109, 727, 0), (109, 730, 0), (109, 733, 0), (109, 736, 0), (109, 739, 0), (109, 742, 0), (109, 745, 0), (109, 748, 0), (109, 751, 0), (109, 754, 0), (109, 757, 0), (109, 760, 0), (109, 763, 0), (109, 766, 0), (109, 769, 0), (109, 772, 0), (109, 775, 0), (109, 778, 0), (109, 781, 0), (109, 784, 0), (109, 787, 0), (109, 790, 0), (109, 793, 0), (109, 796, 0), (109, 799, 0), (109, 802, 0), (109, 805, 0), (109, 808, 0), (109, 811, 0), (109, 814, 0), (109, 817, 0), (109, 820, 0)]
def ip_e2 : Option (Option Value × ip_H) := ip_execH (0, fun _ => 0) 1400 165 0 [] [.ref 108] [] (ip_nw ip_M1 (0, 11, 48))
def ip_M2 : ip_H := match ip_e2 with
  | some z => z.2
  | none => ip_M0
theorem ip_cand1 {a b : Bool} (h : (a && b) = true) : a = true := (Bool.and_eq_true_iff.mp h).1
theorem ip_cand2 {a b : Bool} (h : (a && b) = true) : b = true := (Bool.and_eq_true_iff.mp h).2
set_option maxRecDepth 1000000 in
theorem ip_c11t : ((ip_isV ip_e1) && (decide (ip_M1.1.length = 108) && ((ip_isV ip_e2) && (decide (ip_M2.1 = ip_SH) && ((ip_sI0.all fun q => decide (ip_M2.2.1 q.1 q.2.1 = q.2.2)) && ((([(110, 9), (115, 72), (116, 18)] : List (Nat × Nat)).all fun q => (List.range q.2).all fun j => decide (ip_M2.2.2.1 q.1 j = 0)) && ((([(8, 61), (18, 120), (20, 200), (22, 120), (27, 2), (31, 120), (36, 120), (41, 120)] : List (Nat × Nat)).all fun q => (List.range q.2).all fun j => decide (ip_M2.2.1 q.1 j = 0)) && ((([(46, 120), (51, 120), (56, 120), (61, 120), (66, 120), (71, 120), (76, 120), (82, 61)] : List (Nat × Nat)).all fun q => (List.range q.2).all fun j => decide (ip_M2.2.1 q.1 j = 0)) && (ip_rfl.all fun q => decide (ip_M2.2.2.2 q.1 q.2.1 = some q.2.2)))))))))) = true := by decide +kernel
theorem ip_e1_v : (ip_isV ip_e1) = true := ip_cand1 (ip_c11t)
theorem ip_e1_ok : ip_e1 = some (none, ip_M1) := by
  obtain ⟨M, h⟩ := ip_isV_spec ip_e1_v
  have : ip_M1 = M := by unfold ip_M1; rw [h]
  rw [h, this]
theorem ip_M1_len : ip_M1.1.length = 108 := of_decide_eq_true (ip_cand1 (ip_cand2 (ip_c11t)))
theorem ip_e2_v : (ip_isV ip_e2) = true := ip_cand1 (ip_cand2 (ip_cand2 (ip_c11t)))
theorem ip_e2_ok : ip_e2 = some (none, ip_M2) := by
  obtain ⟨M, h⟩ := ip_isV_spec ip_e2_v
  have : ip_M2 = M := by unfold ip_M2; rw [h]
  rw [h, this]
theorem ip_M2_SH : ip_M2.1 = ip_SH := of_decide_eq_true (ip_cand1 (ip_cand2 (ip_cand2 (ip_cand2 (ip_c11t)))))
theorem ip_init1 (X : ip_X) (K : Option Value → ip_H → Prop) : ip_wp X 109 0 [.ref 0, .retAddr 1] [] (ip_nw ip_M0 (0, 10, 14)) K = K none ip_M1 := ip_wp_det ((ip_exec_X X (0, fun _ => 0) 1400 109 (by decide) _ _ _ _).trans ((ip_execH_f _ _ _ _ _ _ _).trans ip_e1_ok))
theorem ip_init2 (X : ip_X) (K : Option Value → ip_H → Prop) : ip_wp X 165 0 [.ref 108] [] (ip_nw ip_M1 (0, 11, 48)) K = K none ip_M2 := ip_wp_det ((ip_exec_X X (0, fun _ => 0) 1400 165 (by decide) _ _ _ _).trans ((ip_execH_f _ _ _ _ _ _ _).trans ip_e2_ok))
theorem Zb_0 : Zb ip_M0 := fun k j h => by
  have e : ip_sh ip_M0 k = (2, 0, 0) := rfl
  rw [e] at h
  exact absurd h (by decide)
theorem Zb_exec2 {X : ip_X} {n y pc : Nat} {ls st : List Value} {M M1 : ip_H} {r : Option Value} (h : ip_exec X n y pc ls st M = some (r, M1)) (hz : Zb M) : Zb M1 := Zb_exec X n y pc ls st M (r, M1) h hz
theorem ip_M2_Zb : Zb ip_M2 := by
  have e1 := ip_e1_ok
  have e2 := ip_e2_ok
  unfold ip_e1 at e1
  unfold ip_e2 at e2
  rw [← ip_execH_f] at e1 e2
  generalize ip_M2 = N2 at *
  generalize ip_M1 = N1 at *
  exact Zb_exec2 e2 (Zb_nw (Zb_exec2 e1 (Zb_nw Zb_0)))
end
