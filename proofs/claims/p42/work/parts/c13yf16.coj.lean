-- A COURSE of the class and a ROW of the reference, together
/-- four numbers of a STATE, as a row has them -/
theorem qi_of {f N : Nat → Int32} {a b : Nat} (h : ∀ x, x < 4 → f (a + x) = N (b + x)) : qi f a = qi N b := by
  have h0 := h 0 (by decide)
  simp only [Nat.add_zero] at h0
  unfold qi
  rw [h0, h 1 (by decide), h 2 (by decide), h 3 (by decide)]
theorem c_fl_f4 (N : Nat → Int32) (p q r : Int) (s : Nat) : c_fl N p q r s = c_f4 p q r (qi N s) := rfl
theorem z4_qi {N : Nat → Int32} {s : Nat} {z : Int × Int × Int × Int} (h : z4 N s z) (hb : c_v4 z) : qi N s = z := by
  obtain ⟨h0, h1, h2, h3⟩ := h
  obtain ⟨b0, b1, b2, b3, b4⟩ := hb
  unfold qi
  rw [h0, h1, h2, h3, z_i32 b0 (by decide), z_i32 b1 (by decide), z_i32 b2 (by decide), z_i32 (n := 150) ⟨by omega, by omega⟩ (by decide)]
theorem k_can_z {z : Int × Int × Int × Int} (h1 : 1 ≤ z.2.2.2) (h2 : zb 9223372036854775807 z.2.2.2) : k_can z = zcan z := by
  have e : (Int64.ofInt z.2.2.2 < 1) = (z.2.2.2 < 1) := z_lt (b := 1) h2 ⟨by decide, by decide⟩
  unfold k_can zcan
  have f : decide (Int64.ofInt z.2.2.2 < 1) = false := decide_eq_false (by rw [e]; omega)
  rw [f, Bool.not_false, Bool.true_and]
/-- whether a STEP can be: for both the same -/
theorem k_ok_nxt {p q r : Int} {f g : Int × Int × Int × Int} {P : Nat → Int64} {a b : Int32} {t : Bool} (hF : zF p q r = true) (bf : c_fb f) (bg : c_fb g) (nz : c_nz f) (hP : ∀ i, i < 9 → 0 ≤ (P i).toInt) (ha : 0 ≤ a.toInt) (hb : 0 ≤ b.toInt) : k_ok p q r f g P a b t = (z_nxt p q r (zQ4 p q r g f) && (z_nxt p q r (zQ4 p q r (1, 0, 0, 1) f) && !(q_c false P a.toInt64 b.toInt64).2)) := by
  have b1 : c_fb (1, 0, 0, 1) := ⟨⟨by decide, by decide⟩, ⟨by decide, by decide⟩, ⟨by decide, by decide⟩, by decide, by decide⟩
  have e1 := kQ_Q4 (v := g) hF nz (by have := bg.2.2.2.1; omega) (by have := bf.2.2.2.1; omega)
  have e2 := kQ_Q4 (v := (1, 0, 0, 1)) hF nz (by decide) (by have := bf.2.2.2.1; omega)
  have q1 := zQ4_b hF bg bf nz
  have q2 := zQ4_b hF b1 bf nz
  have w : ∀ x, zb 13500000000000000 x → zb 9223372036854775807 x := fun x h => zb_w h (by decide)
  have k1 := k_can_z q1.2.2.2.2 (w _ q1.2.2.2.1)
  have k2 := k_can_z q2.2.2.2.2 (w _ q2.2.2.2.1)
  have n := (kq_nx hP ha hb t).1
  unfold k_ok z_nxt
  rw [e1, e2, k1, k2, n]
  cases zcan (zQ4 p q r g f)
  · rfl
  · cases zcan (zQ4 p q r (1, 0, 0, 1) f)
    · simp only [Bool.false_and, Bool.and_false]
    · simp only [Bool.true_and, Bool.and_assoc]

/-- STATE i -/
def cst6 (M : ip_H) (N : Nat → Int32) (i : Nat) : Prop := (∀ x, x < 4 → M.2.1 7 (10 * i + x) = N (153 + 8 * i + x)) ∧ (∀ x, x < 4 → M.2.1 7 (10 * i + 5 + x) = N (153 + 8 * i + 4 + x)) ∧ M.2.1 7 (10 * i + 4) = q_fu N i ∧ M.2.1 7 (10 * i + 9) = q_fv N i
def cpo6 (M : ip_H) : Option (Nat × Nat) → Prop
  | none => M.2.1 6 5 = -1
  | some q => M.2.1 6 5 = Int32.ofNat q.1 ∧ M.2.1 6 6 = Int32.ofNat q.2
/-- the COURSE behind j STEPS of the row -/
def coj6 (M : ip_H) (N : Nat → Int32) (j : Nat) : Prop := M.2.1 6 4 = Int32.ofNat j ∧ M.2.1 6 3 = N 4 ∧ (∀ i, i ≤ j → cst6 M N i) ∧ (∀ i, i < j → M.2.1 8 (i + 1) = N (641 + 3 * i + 2)) ∧ (∀ x, x < 9 → M.2.2.1 10 x = q_P N j x) ∧ cpo6 M (q_pe N j)
/-- the field's numbers -/
theorem coj6_f {M : ip_H} {N : Nat → Int32} {j : Nat} (h : coj6 M N j) (hp : ∀ x, x < 3 → M.2.1 1 x = N x) : k_rs (M.2.1 7) (10 * j + 0) = q_f0 N j ∧ k_rs (M.2.1 7) (10 * j + 5) = q_g0 N j ∧ k_t6 M j = q_t N j ∧ k_f6 M j = q_f N j ∧ k_g6 M j = q_g N j ∧ M.2.1 7 (10 * j + 4) = q_fu N j ∧ M.2.1 7 (10 * j + 9) = q_fv N j := by
  obtain ⟨h1, h2, h3, -⟩ := h
  obtain ⟨s1, s2, s3, s4⟩ := h3 j (Nat.le_refl _)
  have e1 : qi (M.2.1 7) (10 * j + 0) = qi N (153 + 8 * j) := qi_of (fun x hx => by rw [Nat.add_zero]; exact s1 x hx)
  have e2 : qi (M.2.1 7) (10 * j + 5) = qi N (153 + 8 * j + 4) := qi_of s2
  have f0 : k_rs (M.2.1 7) (10 * j + 0) = q_f0 N j := by
    unfold k_rs
    rw [e1, Nat.add_zero, s3]
    rfl
  have s4' : M.2.1 7 (10 * j + 5 + 4) = q_fv N j := s4
  have g0 : k_rs (M.2.1 7) (10 * j + 5) = q_g0 N j := by
    unfold k_rs
    rw [e2, s4']
    rfl
  have t0 : k_t6 M j = q_t N j := by
    unfold k_t6 q_t r_v
    rw [f0, g0, h2, hp 0 (by decide), hp 1 (by decide), hp 2 (by decide)]
  refine ⟨f0, g0, t0, ?_, ?_, s3, s4⟩
  · unfold k_f6 q_f
    rw [t0, f0, g0]
  · unfold k_g6 q_g
    rw [t0, f0, g0]
/-- STATE i -/
def cst80 (M : ip_H) (N : Nat → Int32) (i : Nat) : Prop := (∀ x, x < 4 → M.2.1 81 (10 * i + x) = N (153 + 8 * i + x)) ∧ (∀ x, x < 4 → M.2.1 81 (10 * i + 5 + x) = N (153 + 8 * i + 4 + x)) ∧ M.2.1 81 (10 * i + 4) = q_fu N i ∧ M.2.1 81 (10 * i + 9) = q_fv N i
def cpo80 (M : ip_H) : Option (Nat × Nat) → Prop
  | none => M.2.1 80 5 = -1
  | some q => M.2.1 80 5 = Int32.ofNat q.1 ∧ M.2.1 80 6 = Int32.ofNat q.2
/-- the COURSE behind j STEPS of the row -/
def coj80 (M : ip_H) (N : Nat → Int32) (j : Nat) : Prop := M.2.1 80 4 = Int32.ofNat j ∧ M.2.1 80 3 = N 4 ∧ (∀ i, i ≤ j → cst80 M N i) ∧ (∀ i, i < j → M.2.1 82 (i + 1) = N (641 + 3 * i + 2)) ∧ (∀ x, x < 9 → M.2.2.1 84 x = q_P N j x) ∧ cpo80 M (q_pe N j)
/-- the field's numbers -/
theorem coj80_f {M : ip_H} {N : Nat → Int32} {j : Nat} (h : coj80 M N j) (hp : ∀ x, x < 3 → M.2.1 1 x = N x) : k_rs (M.2.1 81) (10 * j + 0) = q_f0 N j ∧ k_rs (M.2.1 81) (10 * j + 5) = q_g0 N j ∧ k_t80 M j = q_t N j ∧ k_f80 M j = q_f N j ∧ k_g80 M j = q_g N j ∧ M.2.1 81 (10 * j + 4) = q_fu N j ∧ M.2.1 81 (10 * j + 9) = q_fv N j := by
  obtain ⟨h1, h2, h3, -⟩ := h
  obtain ⟨s1, s2, s3, s4⟩ := h3 j (Nat.le_refl _)
  have e1 : qi (M.2.1 81) (10 * j + 0) = qi N (153 + 8 * j) := qi_of (fun x hx => by rw [Nat.add_zero]; exact s1 x hx)
  have e2 : qi (M.2.1 81) (10 * j + 5) = qi N (153 + 8 * j + 4) := qi_of s2
  have f0 : k_rs (M.2.1 81) (10 * j + 0) = q_f0 N j := by
    unfold k_rs
    rw [e1, Nat.add_zero, s3]
    rfl
  have s4' : M.2.1 81 (10 * j + 5 + 4) = q_fv N j := s4
  have g0 : k_rs (M.2.1 81) (10 * j + 5) = q_g0 N j := by
    unfold k_rs
    rw [e2, s4']
    rfl
  have t0 : k_t80 M j = q_t N j := by
    unfold k_t80 q_t r_v
    rw [f0, g0, h2, hp 0 (by decide), hp 1 (by decide), hp 2 (by decide)]
  refine ⟨f0, g0, t0, ?_, ?_, s3, s4⟩
  · unfold k_f80 q_f
    rw [t0, f0, g0]
  · unfold k_g80 q_g
    rw [t0, f0, g0]
