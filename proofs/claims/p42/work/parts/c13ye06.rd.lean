-- READING: what does not depend on how long one looks
theorem rd_sk_fu (T : Nat → Int32) (f : Nat) : ∀ (n m p : Nat), f ≤ p + n → f ≤ p + m → rd_sk T f n p = rd_sk T f m p := by
  intro n
  induction n with
  | zero =>
    intro m p h1 h2
    rw [rd_sk, rd_sk_ge T f m p (by omega)]
  | succ n ih =>
    intro m p h1 h2
    cases m with
    | zero => rw [rd_sk_ge T f (n + 1) p (by omega), rd_sk]
    | succ m =>
      rw [rd_sk, rd_sk]
      by_cases h : p < f ∧ T p = 32
      · rw [if_pos h, if_pos h]
        exact ih m (p + 1) (by omega) (by omega)
      · rw [if_neg h, if_neg h]
theorem rdf_lt {T : Nat → Int32} {f p : Nat} (h : rdf T f p = true) : p < f ∧ ¬ T p < 48 ∧ ¬ 57 < T p := by
  unfold rdf at h
  simp only [Bool.and_eq_true, decide_eq_true_eq, Bool.not_eq_true', decide_eq_false_iff_not] at h
  exact h
theorem rdf_no {T : Nat → Int32} {f p : Nat} (h : f ≤ p) : rdf T f p = false := by
  cases e : rdf T f p
  · rfl
  · have := (rdf_lt e).1
    omega
theorem rd_dg_fu (T : Nat → Int32) (f : Nat) : ∀ (n m p : Nat) (t : Int32), f ≤ p + n → f ≤ p + m → rd_dg T f n p t = rd_dg T f m p t := by
  intro n
  induction n with
  | zero =>
    intro m p t h1 h2
    cases m with
    | zero => rfl
    | succ m =>
      rw [rd_dg, rd_dg, rdf_no (by omega)]
      rfl
  | succ n ih =>
    intro m p t h1 h2
    cases m with
    | zero =>
      rw [rd_dg, rd_dg, rdf_no (by omega)]
      rfl
    | succ m =>
      rw [rd_dg, rd_dg]
      by_cases h : rdf T f p = true
      · rw [if_pos h, if_pos h]
        exact ih m (p + 1) _ (by omega) (by omega)
      · rw [if_neg h, if_neg h]
theorem rd_sk_stop (T : Nat → Int32) (f : Nat) : ∀ (n p : Nat), f ≤ p + n → ¬ (rd_sk T f n p < f ∧ T (rd_sk T f n p) = 32) := by
  intro n
  induction n with
  | zero =>
    intro p h
    rw [rd_sk]
    omega
  | succ n ih =>
    intro p h
    rw [rd_sk]
    by_cases q : p < f ∧ T p = 32
    · rw [if_pos q]
      exact ih (p + 1) (by omega)
    · rw [if_neg q]
      exact q
theorem rd_sk_id (T : Nat → Int32) (f p : Nat) : rd_sk T f f (rd_sk T f f p) = rd_sk T f f p := by
  have h := rd_sk_stop T f f p (by omega)
  generalize rd_sk T f f p = q at *
  cases f with
  | zero => rfl
  | succ f =>
    rw [rd_sk, if_neg h]
theorem rd_dg_ge (T : Nat → Int32) (f : Nat) : ∀ (n p : Nat) (t : Int32), p ≤ (rd_dg T f n p t).1 := by
  intro n
  induction n with
  | zero => intro p t; exact Nat.le_refl _
  | succ n ih =>
    intro p t
    rw [rd_dg]
    split
    · exact Nat.le_trans (Nat.le_succ p) (ih (p + 1) _)
    · exact Nat.le_refl _
theorem rd_dg_gt (T : Nat → Int32) (f p : Nat) (t : Int32) (h : rdf T f p = true) : p < (rd_dg T f f p t).1 := by
  cases f with
  | zero => have := (rdf_lt h).1; omega
  | succ f =>
    rw [rd_dg, if_pos h]
    exact Nat.lt_of_lt_of_le (Nat.lt_succ_self p) (rd_dg_ge T (f + 1) f (p + 1) _)
theorem rd_dg_b (T : Nat → Int32) (f : Nat) : ∀ (n p : Nat) (t : Int32), 0 ≤ t.toInt → t.toInt ≤ 100 → 0 ≤ (rd_dg T f n p t).2.toInt ∧ (rd_dg T f n p t).2.toInt ≤ 100 := by
  intro n
  induction n with
  | zero => intro p t h1 h2; exact ⟨h1, h2⟩
  | succ n ih =>
    intro p t h1 h2
    rw [rd_dg]
    by_cases h : rdf T f p = true
    · rw [if_pos h]
      obtain ⟨-, d1, d2⟩ := rdf_lt h
      rw [Int32.lt_iff_toInt_lt, show (48 : Int32).toInt = 48 from rfl] at d1
      rw [Int32.lt_iff_toInt_lt, show (57 : Int32).toInt = 57 from rfl] at d2
      have e : (10 * t + T p - 48).toInt = 10 * t.toInt + (T p).toInt - 48 := by
        have e1 : (10 * t).toInt = 10 * t.toInt := by
          rw [Int32.toInt_mul, show (10 : Int32).toInt = 10 from rfl, Int.bmod_eq_of_le_mul_two (by omega) (by omega)]
        have e2 : (10 * t + T p).toInt = 10 * t.toInt + (T p).toInt := by
          rw [Int32.toInt_add, e1, Int.bmod_eq_of_le_mul_two (by omega) (by omega)]
        rw [Int32.toInt_sub, e2, show (48 : Int32).toInt = 48 from rfl, Int.bmod_eq_of_le_mul_two (by omega) (by omega)]
      apply ih
      · unfold rd_cap
        split
        · decide
        · omega
      · unfold rd_cap
        split
        · decide
        · rename_i q
          rw [Int32.lt_iff_toInt_lt, show (100 : Int32).toInt = 100 from rfl] at q
          omega
    · rw [if_neg h]
      exact ⟨h1, h2⟩
theorem rd_s1 (T : Nat → Int32) (f : Nat) (s : rd_S) : rd T f s = rd T f (s.1, 0, 0, 0) := rfl
theorem rd_21 (T : Nat → Int32) (f : Nat) (s : rd_S) : (rd T f s).2.1 = rd_sk T f f s.1 := by
  unfold rd
  split <;> rfl
/-- a single byte that is no digit comes next: just where the token says so -/
theorem rd_chr (T : Nat → Int32) (f : Nat) (s : rd_S) (c : Int32) (hc : c < 48 ∨ 57 < c) (h1 : ¬ c = -1) : (((rd T f s).2.2.1 = -2 ∧ (rd T f s).2.2.2 = c) ↔ (rd_sk T f f s.1 < f ∧ T (rd_sk T f f s.1) = c)) ∧ ((rd_sk T f f s.1 < f ∧ T (rd_sk T f f s.1) = c) → (rd T f s).1 = rd_sk T f f s.1 + 1) := by
  unfold rd
  generalize rd_sk T f f s.1 = q
  by_cases h : rdf T f q = true
  · rw [if_pos h]
    dsimp only
    obtain ⟨g1, g2, g3⟩ := rdf_lt h
    have b := rd_dg_b T f f q 0 (by decide) (by decide)
    constructor
    · constructor
      · rintro ⟨a, -⟩
        rw [a] at b
        exact absurd b.1 (by decide)
      · rintro ⟨-, a⟩
        rw [a] at g2 g3
        rcases hc with hc | hc
        · exact absurd hc g2
        · exact absurd hc g3
    · rintro ⟨-, a⟩
      rw [a] at g2 g3
      rcases hc with hc | hc
      · exact absurd hc g2
      · exact absurd hc g3
  · rw [if_neg h]
    dsimp only
    refine ⟨?_, fun _ => rfl⟩
    by_cases g : q < f
    · rw [if_pos g, if_pos g]
      exact ⟨fun a => ⟨g, a.2⟩, fun a => ⟨rfl, a.2⟩⟩
    · rw [if_neg g, if_neg g]
      exact ⟨fun a => absurd a.2.symm h1, fun a => absurd a.1 g⟩
/-- the end comes next: just where the token says so -/
theorem rd_end (T : Nat → Int32) (f : Nat) (s : rd_S) : (rd T f s).2.2.1 = -1 ↔ ¬ rd_sk T f f s.1 < f := by
  unfold rd
  generalize rd_sk T f f s.1 = q
  by_cases h : rdf T f q = true
  · rw [if_pos h]
    dsimp only
    obtain ⟨g1, g2, g3⟩ := rdf_lt h
    have b := rd_dg_b T f f q 0 (by decide) (by decide)
    constructor
    · intro a
      rw [a] at b
      exact absurd b.1 (by decide)
    · intro a
      exact absurd g1 a
  · rw [if_neg h]
    dsimp only
    by_cases g : q < f
    · rw [if_pos g]
      exact ⟨fun a => absurd a (by decide), fun a => absurd g a⟩
    · rw [if_neg g]
      exact ⟨fun _ => g, fun _ => rfl⟩
/-- a number comes next -/
theorem rd_wn (T : Nat → Int32) (f : Nat) (s : rd_S) : rd_w (rd T f s) = true → rdf T f (rd_sk T f f s.1) = true ∧ rd T f s = ((rd_dg T f f (rd_sk T f f s.1) 0).1, rd_sk T f f s.1, (rd_dg T f f (rd_sk T f f s.1) 0).2, (if rd_sk T f f s.1 < f then T (rd_sk T f f s.1) else -1)) := by
  intro hw
  unfold rd at hw ⊢
  by_cases h : rdf T f (rd_sk T f f s.1) = true
  · rw [if_pos h]
    exact ⟨h, rfl⟩
  · rw [if_neg h] at hw
    exfalso
    unfold rd_w at hw
    dsimp only at hw
    split at hw
    · exact absurd hw (by decide)
    · exact absurd hw (by decide)
theorem rd_wb (T : Nat → Int32) (f : Nat) (s : rd_S) (h : rd_w (rd T f s) = true) : 0 ≤ (rd T f s).2.2.1.toInt ∧ (rd T f s).2.2.1.toInt ≤ 99 := rd_w_b h
-- what is read doesn't depend on what stood there
theorem rd_1_D (T : Nat → Int32) (f k : Nat) (D E : Nat → Int32) (s : rd_S) : (rd_1 T f k D s).1 = (rd_1 T f k E s).1 ∧ (rd_1 T f k D s).2.2 = (rd_1 T f k E s).2.2 := by
  unfold rd_1
  split
  · split
    · split
      · exact ⟨rfl, rfl⟩
      · exact ⟨rfl, rfl⟩
    · exact ⟨rfl, rfl⟩
  · exact ⟨rfl, rfl⟩
theorem rd_all_D (T : Nat → Int32) (f : Nat) : ∀ (n k : Nat) (D E : Nat → Int32) (s : rd_S), (rd_all T f n k D s).1 = (rd_all T f n k E s).1 ∧ (rd_all T f n k D s).2.2 = (rd_all T f n k E s).2.2 := by
  intro n
  induction n with
  | zero => intro k D E s; exact ⟨rfl, rfl⟩
  | succ n ih =>
    intro k D E s
    obtain ⟨h1, h2⟩ := rd_1_D T f k D E s
    rw [rd_all, rd_all, h1, h2]
    split
    · split
      · exact ⟨rfl, rfl⟩
      · split
        · exact ih _ _ _ _
        · exact ⟨rfl, rfl⟩
    · exact ⟨rfl, rfl⟩
-- nor on what stands behind the TAPE's end
theorem rdf_T {T S : Nat → Int32} {f : Nat} (h : ∀ j, j < f → T j = S j) (p : Nat) : rdf T f p = rdf S f p := by
  unfold rdf
  by_cases g : p < f
  · rw [h p g]
  · rw [decide_eq_false g, Bool.false_and, Bool.false_and]
theorem rd_sk_T {T S : Nat → Int32} {f : Nat} (h : ∀ j, j < f → T j = S j) : ∀ (n p : Nat), rd_sk T f n p = rd_sk S f n p := by
  intro n
  induction n with
  | zero => intro p; rfl
  | succ n ih =>
    intro p
    rw [rd_sk, rd_sk, ih]
    by_cases g : p < f
    · rw [h p g]
    · rw [if_neg (fun a => g a.1), if_neg (fun a => g a.1)]
theorem rd_dg_T {T S : Nat → Int32} {f : Nat} (h : ∀ j, j < f → T j = S j) : ∀ (n p : Nat) (t : Int32), rd_dg T f n p t = rd_dg S f n p t := by
  intro n
  induction n with
  | zero => intro p t; rfl
  | succ n ih =>
    intro p t
    rw [rd_dg, rd_dg, rdf_T h]
    by_cases g : rdf S f p = true
    · rw [if_pos g, if_pos g, h p (rdf_lt g).1, ih]
    · rw [if_neg g, if_neg g]
theorem rd_T {T S : Nat → Int32} {f : Nat} (h : ∀ j, j < f → T j = S j) (s : rd_S) : rd T f s = rd S f s := by
  unfold rd
  rw [rd_sk_T h, rdf_T h, rd_dg_T h]
  by_cases g : rd_sk S f f s.1 < f
  · rw [h _ g]
  · simp only [if_neg g]
theorem rd_1_T {T S : Nat → Int32} {f : Nat} (h : ∀ j, j < f → T j = S j) (k : Nat) (D : Nat → Int32) (s : rd_S) : rd_1 T f k D s = rd_1 S f k D s := by
  have e : rd T f = rd S f := funext (rd_T h)
  unfold rd_1
  rw [e]
theorem rd_all_T {T S : Nat → Int32} {f : Nat} (h : ∀ j, j < f → T j = S j) : ∀ (n k : Nat) (D : Nat → Int32) (s : rd_S), rd_all T f n k D s = rd_all S f n k D s := by
  have e : rd T f = rd S f := funext (rd_T h)
  intro n
  induction n with
  | zero => intro k D s; rfl
  | succ n ih =>
    intro k D s
    rw [rd_all, rd_all, rd_1_T h, e, ih]
