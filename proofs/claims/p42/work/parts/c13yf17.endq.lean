-- WHEN A ROW'S COURSE ENDS: by whole numbers
def zr (f : Int × Int × Int × Int) : Prop := f.1 = 0 ∧ f.2.1 = 0 ∧ f.2.2.1 = 0
theorem q_e_zr {f : Int × Int × Int × Int} (hb : c_fb f) : ((decide (Int64.ofInt f.1 = 0) && (decide (Int64.ofInt f.2.1 = 0) && decide (Int64.ofInt f.2.2.1 = 0))) = true) ↔ zr f := by
  obtain ⟨b1, b2, b3, -⟩ := hb
  have e : ∀ x, zb 9223372036854775807 x → (Int64.ofInt x = 0 ↔ x = 0) := fun x h => ⟨fun q => by
    rcases Decidable.em (x = 0) with w | w
    · exact w
    · exact absurd q (z_ne h (by decide) w), fun q => by rw [q]; rfl⟩
  rw [Bool.and_eq_true, Bool.and_eq_true, decide_eq_true_eq, decide_eq_true_eq, decide_eq_true_eq, e _ (zb_w b1 (by decide)), e _ (zb_w b2 (by decide)), e _ (zb_w b3 (by decide))]
  rfl
def wh (N : Nat → Int32) (s : Nat) : Bool := decide (N (s + 1) = 0) && (decide (N (s + 2) = 0) && decide (N (s + 3) = 1))
theorem i32_z {x : Int32} {n : Int32} : (x = n) ↔ x.toInt = n.toInt := (Int32.toInt_inj).symm
theorem wh_z (N : Nat → Int32) (s : Nat) : (wh N s = true) ↔ ((qi N s).2.1 = 0 ∧ (qi N s).2.2.1 = 0 ∧ (qi N s).2.2.2 = 1) := by
  unfold wh qi
  rw [Bool.and_eq_true, Bool.and_eq_true, decide_eq_true_eq, decide_eq_true_eq, decide_eq_true_eq, i32_z, i32_z, i32_z]
  rfl
/-- what is left over of a value in bounds, not below 0, in lowest terms -/
theorem rest_all {N : Nat → Int32} {s : Nat} (hF : zF (N 0).toInt (N 1).toInt (N 2).toInt = true) (hv : c_vo N s) (hn : s_nn N s) (hl : q_lw N s) (f : Int × Int × Int × Int) (hf : f = ((N s).toInt - (c_fl N (r_v N 0) (r_v N 1) (r_v N 2) s).toInt * (N (s + 3)).toInt, (N (s + 1)).toInt, (N (s + 2)).toInt, (N (s + 3)).toInt)) : (zr f ↔ wh N s = true) ∧ zb 4150 f.1 ∧ zb 150 f.2.1 ∧ zb 150 f.2.2.1 ∧ (1 ≤ f.2.2.2 ∧ f.2.2.2 ≤ 150) ∧ 0 ≤ zN (N 0).toInt (N 1).toInt (N 2).toInt f.1 f.2.1 f.2.2.1 ∧ c_fb f := by
  obtain ⟨hp, hq, hr⟩ := zF_b hF
  obtain ⟨v0, v1, v2, v3⟩ := hv
  have c := z_fl_c hp hq hr v0 v1 v2 v3 hn
  have r0 := z_rest0 (p := (N 0).toInt) (q := (N 1).toInt) (r := (N 2).toInt) (z := qi N s) v0 v3.1 hl
  have w := wh_z N s
  unfold c_fl at hf
  subst hf
  refine ⟨?_, c.1, v1, v2, v3, c.2, zb_w c.1 (by decide), zb_w v1 (by decide), zb_w v2 (by decide), v3.1, v3.2⟩
  rw [w]
  exact r0
theorem q_e_wh {N : Nat → Int32} {j : Nat} (hF : zF (N 0).toInt (N 1).toInt (N 2).toInt = true) (h4 : N 4 = 0 ∨ N 4 = 1) (hv : c_vo N (153 + 8 * j)) (hv' : c_vo N (153 + 8 * j + 4)) (hn : s_nn N (153 + 8 * j)) (hn' : s_nn N (153 + 8 * j + 4)) (hl : q_lw N (153 + 8 * j)) (hl' : q_lw N (153 + 8 * j + 4)) : q_e N j = (wh N (153 + 8 * j) && (decide (N 4 = 0) || wh N (153 + 8 * j + 4))) := by
  obtain ⟨hp, hq, hr⟩ := zF_b hF
  obtain ⟨z1, a1, a2, a3, a4, a5, a6⟩ := rest_all hF hv hn hl (q_f0 N j) rfl
  obtain ⟨y1, b1, b2, b3, b4, b5, b6⟩ := rest_all hF hv' hn' hl' (q_g0 N j) rfl
  rw [Bool.eq_iff_iff]
  unfold q_e
  rcases h4 with h4 | h4
  · have et : q_t N j = false := by unfold q_t; rw [h4]; rfl
    have ef : q_f N j = q_f0 N j := by unfold q_f; rw [et]; rfl
    rw [ef, q_e_zr a6, z1, decide_eq_true h4, Bool.true_or, Bool.and_true]
  · have h40 : decide (N 4 = 0) = false := by rw [h4]; rfl
    have e1 : q_t N j = r_lt (N 0).toInt (N 1).toInt (N 2).toInt (q_f0 N j) (q_g0 N j) := by unfold q_t; rw [h4]; rfl
    rw [h40, Bool.false_or]
    by_cases zf : zr (q_f0 N j)
    · rw [z1.mp zf, Bool.true_and]
      have l := r_lt_0l (g := q_g0 N j) hp hq hr zf.1 zf.2.1 zf.2.2 a4 b1 b2 b3
      rw [l] at e1
      by_cases zg : zr (q_g0 N j)
      · rw [y1.mp zg]
        have n0 : zN (N 0).toInt (N 1).toInt (N 2).toInt (q_g0 N j).1 (q_g0 N j).2.1 (q_g0 N j).2.2.1 = 0 := by
          rw [zg.1, zg.2.1, zg.2.2, zN_a00]
          rfl
        rw [n0, decide_eq_false (by decide)] at e1
        have ef : q_f N j = q_f0 N j := by unfold q_f; rw [e1]; rfl
        rw [ef, q_e_zr a6]
        exact ⟨fun _ => rfl, fun _ => zf⟩
      · have n0 := zN_ne hF zg
        rw [decide_eq_true (by omega)] at e1
        have ef : q_f N j = q_g0 N j := by unfold q_f; rw [e1]; rfl
        rw [ef, q_e_zr b6]
        exact y1
    · have w0 : wh N (153 + 8 * j) = false := by
        rw [Bool.eq_false_iff]
        intro w
        exact zf (z1.mpr w)
      rw [w0, Bool.false_and]
      refine ⟨fun h => ?_, fun h => absurd h (by decide)⟩
      exfalso
      cases et : q_t N j
      · have ef : q_f N j = q_f0 N j := by unfold q_f; rw [et]; rfl
        rw [ef, q_e_zr a6] at h
        exact zf h
      · have ef : q_f N j = q_g0 N j := by unfold q_f; rw [et]; rfl
        rw [ef, q_e_zr b6] at h
        have l := r_lt_0r (f := q_f0 N j) hp hq hr h.1 h.2.1 h.2.2 b4 a1 a2 a3 a5
        rw [e1, l] at et
        exact absurd et (by decide)
