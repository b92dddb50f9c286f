-- SQUARES TOGETHER: the reference's way, the class's
/-- the first k SQUARES of digits laid from s on, and whether beyond -/
def wS (N : Nat → Int32) (s : Nat) : Nat → (Nat → Int64) × Bool
  | 0 => (fun i => if i % 4 = 0 then 1 else 0, false)
  | k + 1 => (q_nx (wS N s k).2 (wS N s k).1 (N (s + 3 * k)).toInt64 (N (s + 3 * k + 1)).toInt64 (b1 (N (s + 3 * k + 2))), (q_c (wS N s k).2 (wS N s k).1 (N (s + 3 * k)).toInt64 (N (s + 3 * k + 1)).toInt64).2)
/-- the class's cells -/
def kS (N : Nat → Int32) (s : Nat) : Nat → Nat → Int64
  | 0 => fun i => if i % 4 = 0 then 1 else 0
  | k + 1 => k_nx (kS N s k) (N (s + 3 * k)) (N (s + 3 * k + 1)) (b1 (N (s + 3 * k + 2)))
/-- how many of these digits are turned -/
def wT (N : Nat → Int32) (s : Nat) : Nat → Nat
  | 0 => 0
  | k + 1 => wT N s k + (if N (s + 3 * k + 2) = 0 then 0 else 1)
theorem wS_1 (N : Nat → Int32) (s k : Nat) : wS N s (k + 1) = (q_nx (wS N s k).2 (wS N s k).1 (N (s + 3 * k)).toInt64 (N (s + 3 * k + 1)).toInt64 (b1 (N (s + 3 * k + 2))), (q_c (wS N s k).2 (wS N s k).1 (N (s + 3 * k)).toInt64 (N (s + 3 * k + 1)).toInt64).2) := rfl
theorem kS_1 (N : Nat → Int32) (s k : Nat) : kS N s (k + 1) = k_nx (kS N s k) (N (s + 3 * k)) (N (s + 3 * k + 1)) (b1 (N (s + 3 * k + 2))) := rfl
theorem wT_1 (N : Nat → Int32) (s k : Nat) : wT N s (k + 1) = wT N s k + (if N (s + 3 * k + 2) = 0 then 0 else 1) := rfl
theorem wT_le (N : Nat → Int32) (s : Nat) : ∀ k, wT N s k ≤ k := by
  intro k
  induction k with
  | zero => exact Nat.le_refl _
  | succ k ih =>
    rw [wT_1]
    split <;> omega
/-- digits that can be, n of them -/
def dgs (N : Nat → Int32) (s n : Nat) : Prop := ∀ k, k < n → 0 ≤ (N (s + 3 * k)).toInt ∧ 0 ≤ (N (s + 3 * k + 1)).toInt ∧ (N (s + 3 * k + 2) = 0 ∨ N (s + 3 * k + 2) = 1)
theorem q_nx_c9 {g h : Nat → Int64} (e : ∀ i, i < 9 → g i = h i) (B : Bool) (a b : Int64) (t : Bool) : ∀ j, j < 9 → q_nx B g a b t j = q_nx B h a b t j := fun j hj => by
  unfold q_nx q_a q_b q_c q_b q_a
  rw [e 0 (by decide), e 1 (by decide), e 2 (by decide), e 3 (by decide), e 4 (by decide), e 5 (by decide), e 6 (by decide), e 7 (by decide), e 8 (by decide)]
theorem wS_nn {N : Nat → Int32} {s n : Nat} (h : dgs N s n) : ∀ k, k ≤ n → ∀ j, j < 9 → 0 ≤ ((wS N s k).1 j).toInt := by
  intro k
  induction k with
  | zero =>
    intro _ j _
    show 0 ≤ (if j % 4 = 0 then (1 : Int64) else 0).toInt
    split <;> decide
  | succ k ih =>
    intro hk j hj
    rw [wS_1]
    have d := h k (by omega)
    exact q_nx_nn (ih (by omega)) (by rw [Int32.toInt_toInt64]; exact d.1) (by rw [Int32.toInt_toInt64]; exact d.2.1) j hj
theorem k_bn_iff (g : Nat → Int64) : ∀ (n k : Nat), (k_bn g n k = true) ↔ ∃ j, k ≤ j ∧ j < k + n ∧ g j = -1 := by
  intro n
  induction n with
  | zero =>
    intro k
    refine ⟨fun h => absurd h Bool.false_ne_true, fun ⟨j, h1, h2, _⟩ => by omega⟩
  | succ n ih =>
    intro k
    have e : k_bn g (n + 1) k = (decide (g k = -1) || k_bn g n (k + 1)) := rfl
    rw [e, Bool.or_eq_true, decide_eq_true_eq, ih (k + 1)]
    refine ⟨fun h => ?_, fun ⟨j, h1, h2, h3⟩ => ?_⟩
    · rcases h with h | ⟨j, h1, h2, h3⟩
      · exact ⟨k, Nat.le_refl _, by omega, h⟩
      · exact ⟨j, by omega, by omega, h3⟩
    · by_cases q : j = k
      · subst q
        exact Or.inl h3
      · exact Or.inr ⟨j, by omega, by omega, h3⟩
theorem k_pl_1 (y : Int64) : k_pl (-1) y = -1 := if_pos (Or.inl rfl)
/-- what is beyond stays so -/
theorem k_bn_nx {g : Nat → Int64} (a b : Int32) (t : Bool) (h : k_bn g 9 0 = true) : k_bn (k_nx g a b t) 9 0 = true := by
  rw [k_bn_iff] at h ⊢
  obtain ⟨j, -, hj, e⟩ := h
  have hc : j = 0 ∨ j = 1 ∨ j = 2 ∨ j = 3 ∨ j = 4 ∨ j = 5 ∨ j = 6 ∨ j = 7 ∨ j = 8 := by omega
  have r : ∀ y z : Int64, k_r3 (-1) y z a b = -1 := fun y z => k_pl_1 _
  rcases hc with rfl | rfl | rfl | rfl | rfl | rfl | rfl | rfl | rfl
  · exact ⟨2, by decide, by decide, by show k_r3 (g 0) (g 1) (g 2) a b = -1; rw [e]; exact r _ _⟩
  · cases t
    · exact ⟨0, by decide, by decide, e⟩
    · exact ⟨1, by decide, by decide, e⟩
  · cases t
    · exact ⟨1, by decide, by decide, e⟩
    · exact ⟨0, by decide, by decide, e⟩
  · exact ⟨5, by decide, by decide, by show k_r3 (g 3) (g 4) (g 5) a b = -1; rw [e]; exact r _ _⟩
  · cases t
    · exact ⟨3, by decide, by decide, e⟩
    · exact ⟨4, by decide, by decide, e⟩
  · cases t
    · exact ⟨4, by decide, by decide, e⟩
    · exact ⟨3, by decide, by decide, e⟩
  · exact ⟨8, by decide, by decide, by show k_r3 (g 6) (g 7) (g 8) a b = -1; rw [e]; exact r _ _⟩
  · cases t
    · exact ⟨6, by decide, by decide, e⟩
    · exact ⟨7, by decide, by decide, e⟩
  · cases t
    · exact ⟨7, by decide, by decide, e⟩
    · exact ⟨6, by decide, by decide, e⟩
/-- class and reference: beyond alike; if not, the same numbers -/
theorem kS_wS {N : Nat → Int32} {s n : Nat} (h : dgs N s n) : ∀ k, k ≤ n → k_bn (kS N s k) 9 0 = (wS N s k).2 ∧ ((wS N s k).2 = false → ∀ j, j < 9 → kS N s k j = (wS N s k).1 j) := by
  intro k
  induction k with
  | zero =>
    intro _
    refine ⟨?_, fun _ _ _ => rfl⟩
    show k_bn (fun i => if i % 4 = 0 then (1 : Int64) else 0) 9 0 = false
    decide
  | succ k ih =>
    intro hk
    obtain ⟨i1, i2⟩ := ih (by omega)
    have d := h k (by omega)
    have nn := wS_nn h k (by omega)
    rw [kS_1, wS_1]
    dsimp only
    cases hB : (wS N s k).2
    · have ee := i2 hB
      have q := kq_nx (g := (wS N s k).1) nn (a := N (s + 3 * k)) (b := N (s + 3 * k + 1)) d.1 d.2.1 (b1 (N (s + 3 * k + 2)))
      have cc := k_nx_c ee (N (s + 3 * k)) (N (s + 3 * k + 1)) (b1 (N (s + 3 * k + 2)))
      refine ⟨(k_bn_c cc).trans q.1, fun hz j hj => (cc j hj).trans (q.2 hz j hj)⟩
    · rw [hB] at i1
      have e : (q_c true (wS N s k).1 (N (s + 3 * k)).toInt64 (N (s + 3 * k + 1)).toInt64).2 = true := q_row_t _ _ _ _ _
      rw [e]
      exact ⟨k_bn_nx _ _ _ i1, fun q => absurd q (by decide)⟩
-- THE DETERMINANT, by longs that wrap
def dt9 (g : Nat → Int64) : Int64 := g 0 * (g 4 * g 8 - g 5 * g 7) + g 1 * (g 5 * g 6 - g 3 * g 8) + g 2 * (g 3 * g 7 - g 4 * g 6)
theorem q_pl_f {B : Bool} {a b : Int64} (h : (q_pl B a b).2 = false) : B = false ∧ (q_pl B a b).1 = a + b := by
  have h' : (B || decide (9223372036854775807 - b < a)) = false := h
  refine ⟨(Bool.or_eq_false_iff.mp h').1, ?_⟩
  unfold q_pl
  rw [h']
  rfl
theorem q_ti_f {B : Bool} {a b : Int64} (h : (q_ti B a b).2 = false) : B = false ∧ (q_ti B a b).1 = a * b := by
  have h' : (B || (!decide (b = 0) && decide (9223372036854775807 / b < a))) = false := h
  refine ⟨(Bool.or_eq_false_iff.mp h').1, ?_⟩
  unfold q_ti
  rw [h']
  rfl
theorem q_row_f {B : Bool} {x y z a b : Int64} (h : (q_row B x y z a b).2 = false) : B = false ∧ (q_row B x y z a b).1 = x + (y * a + z * b) := by
  unfold q_row at h ⊢
  obtain ⟨h1, e1⟩ := q_pl_f h
  obtain ⟨h2, e2⟩ := q_pl_f h1
  obtain ⟨h3, e3⟩ := q_ti_f h2
  obtain ⟨h4, e4⟩ := q_ti_f h3
  exact ⟨h4, by rw [e1, e2, e3, e4]⟩
theorem dt9_nx {g : Nat → Int64} {a b : Int64} {t : Bool} (h : (q_c false g a b).2 = false) : dt9 (q_nx false g a b t) = if t = true then -dt9 g else dt9 g := by
  obtain ⟨h1, e1⟩ := q_row_f (show (q_row (q_b false g a b).2 (g 6) (g 7) (g 8) a b).2 = false from h)
  obtain ⟨h2, e2⟩ := q_row_f (show (q_row (q_a false g a b).2 (g 3) (g 4) (g 5) a b).2 = false from h1)
  obtain ⟨h3, e3⟩ := q_row_f (show (q_row false (g 0) (g 1) (g 2) a b).2 = false from h2)
  have c2 : q_nx false g a b t 2 = g 0 + (g 1 * a + g 2 * b) := e3
  have c5 : q_nx false g a b t 5 = g 3 + (g 4 * a + g 5 * b) := e2
  have c8 : q_nx false g a b t 8 = g 6 + (g 7 * a + g 8 * b) := e1
  unfold dt9
  rw [c2, c5, c8]
  cases t
  · rw [show q_nx false g a b false 0 = g 1 from rfl, show q_nx false g a b false 1 = g 2 from rfl, show q_nx false g a b false 3 = g 4 from rfl, show q_nx false g a b false 4 = g 5 from rfl, show q_nx false g a b false 6 = g 7 from rfl, show q_nx false g a b false 7 = g 8 from rfl, if_neg (by decide)]
    generalize g 0 = g0, g 1 = g1, g 2 = g2, g 3 = g3, g 4 = g4, g 5 = g5, g 6 = g6, g 7 = g7, g 8 = g8
    grind
  · rw [show q_nx false g a b true 0 = g 2 from rfl, show q_nx false g a b true 1 = g 1 from rfl, show q_nx false g a b true 3 = g 5 from rfl, show q_nx false g a b true 4 = g 4 from rfl, show q_nx false g a b true 6 = g 8 from rfl, show q_nx false g a b true 7 = g 7 from rfl, if_pos rfl]
    generalize g 0 = g0, g 1 = g1, g 2 = g2, g 3 = g3, g 4 = g4, g 5 = g5, g 6 = g6, g 7 = g7, g 8 = g8
    grind
/-- 1 or -1, by whether n is even -/
def evo (n : Nat) : Int64 := if n % 2 = 0 then 1 else -1
theorem evo_1 (n : Nat) : evo (n + 1) = -evo n := by
  unfold evo
  by_cases h : n % 2 = 0
  · rw [if_pos h, if_neg (by omega)]
  · rw [if_neg h, if_pos (by omega)]
    rfl
theorem wS_f {N : Nat → Int32} {s k : Nat} (h : (wS N s (k + 1)).2 = false) : (wS N s k).2 = false := by
  rw [wS_1] at h
  cases e : (wS N s k).2
  · rfl
  · rw [e] at h
    dsimp only at h
    have e2 : (q_c true (wS N s k).1 (N (s + 3 * k)).toInt64 (N (s + 3 * k + 1)).toInt64).2 = true := q_row_t _ _ _ _ _
    rw [e2] at h
    exact h
theorem wS_det {N : Nat → Int32} {s n : Nat} (h : dgs N s n) : ∀ k, k ≤ n → (wS N s k).2 = false → dt9 (wS N s k).1 = evo (wT N s k) := by
  intro k
  induction k with
  | zero =>
    intro _ _
    show dt9 (fun i => if i % 4 = 0 then (1 : Int64) else 0) = evo 0
    decide
  | succ k ih =>
    intro hk hB
    have b0 := wS_f hB
    have i0 := ih (by omega) b0
    have d := (h k (by omega)).2.2
    rw [wS_1, b0] at hB ⊢
    dsimp only at hB ⊢
    rw [dt9_nx hB, i0, wT_1]
    rcases d with d | d
    · rw [d, if_pos rfl, show b1 (0 : Int32) = false from rfl, if_neg (by decide)]
      rfl
    · rw [d, show b1 (1 : Int32) = true from rfl, if_pos rfl, if_neg (by decide), evo_1]
-- TRIPLES
def tm (p q r : Int) (x y : Int × Int × Int) : Int × Int × Int := (zA p q r x.1 x.2.1 x.2.2 y.1 y.2.1 y.2.2, zB p q r x.1 x.2.1 x.2.2 y.1 y.2.1 y.2.2, zC p q r x.1 x.2.1 x.2.2 y.1 y.2.1 y.2.2)
theorem tm_c (p q r : Int) (x y : Int × Int × Int) : tm p q r x y = tm p q r y x := by
  obtain ⟨a, b, c⟩ := x
  obtain ⟨f, g, h⟩ := y
  unfold tm zA zB zC
  dsimp only
  refine Prod.ext ?_ (Prod.ext ?_ ?_)
  · dsimp only; grind
  · dsimp only; grind
  · dsimp only; grind
theorem tm_a (p q r : Int) (x y z : Int × Int × Int) : tm p q r (tm p q r x y) z = tm p q r x (tm p q r y z) := by
  obtain ⟨a, b, c⟩ := x
  obtain ⟨f, g, h⟩ := y
  obtain ⟨k, l, m⟩ := z
  unfold tm zA zB zC
  dsimp only
  refine Prod.ext ?_ (Prod.ext ?_ ?_)
  · dsimp only; grind
  · dsimp only; grind
  · dsimp only; grind
theorem tm_n (p q r n : Int) (y : Int × Int × Int) : tm p q r (n, 0, 0) y = (n * y.1, n * y.2.1, n * y.2.2) := by
  obtain ⟨f, g, h⟩ := y
  unfold tm zA zB zC
  dsimp only
  refine Prod.ext ?_ (Prod.ext ?_ ?_)
  · dsimp only; grind
  · dsimp only; grind
  · dsimp only; grind
def tj (p q r : Int) (f : Int × Int × Int) : Int × Int × Int := (zU p q r f.1 f.2.1 f.2.2, zV p q r f.1 f.2.1 f.2.2, zW p q r f.1 f.2.1 f.2.2)
theorem tm_j (p q r : Int) (f : Int × Int × Int) : tm p q r f (tj p q r f) = (zN p q r f.1 f.2.1 f.2.2, 0, 0) := by
  obtain ⟨f, g, h⟩ := f
  unfold tm tj zA zB zC zU zV zW zT zS zN
  dsimp only
  refine Prod.ext ?_ (Prod.ext ?_ ?_)
  · dsimp only; grind
  · dsimp only; grind
  · dsimp only; grind
/-- quotients by crosswise products -/
theorem zQ4_x {p q r : Int} {g1 f1 g2 f2 : Int × Int × Int} (hF : zF p q r = true) (n1 : ¬ (f1.1 = 0 ∧ f1.2.1 = 0 ∧ f1.2.2 = 0)) (n2 : ¬ (f2.1 = 0 ∧ f2.2.1 = 0 ∧ f2.2.2 = 0)) (h : tm p q r g1 f2 = tm p q r g2 f1) : zQ4 p q r (g1.1, g1.2.1, g1.2.2, 1) (f1.1, f1.2.1, f1.2.2, 1) = zQ4 p q r (g2.1, g2.2.1, g2.2.2, 1) (f2.1, f2.2.1, f2.2.2, 1) := by
  have N1 := zN_ne hF n1
  have N2 := zN_ne hF n2
  have key : tm p q r (zN p q r f2.1 f2.2.1 f2.2.2, 0, 0) (tm p q r g1 (tj p q r f1)) = tm p q r (zN p q r f1.1 f1.2.1 f1.2.2, 0, 0) (tm p q r g2 (tj p q r f2)) := by
    rw [← tm_j p q r f2, ← tm_j p q r f1]
    generalize tj p q r f1 = A1
    generalize tj p q r f2 = A2
    have l : tm p q r (tm p q r f2 A2) (tm p q r g1 A1) = tm p q r (tm p q r g1 f2) (tm p q r A1 A2) := by
      rw [tm_c p q r (tm p q r f2 A2) (tm p q r g1 A1), tm_a, tm_a, ← tm_a p q r A1 f2 A2, tm_c p q r A1 f2, tm_a p q r f2 A1 A2]
    have rr : tm p q r (tm p q r f1 A1) (tm p q r g2 A2) = tm p q r (tm p q r g2 f1) (tm p q r A1 A2) := by
      rw [tm_c p q r (tm p q r f1 A1) (tm p q r g2 A2), tm_a, tm_a, ← tm_a p q r A2 f1 A1, tm_c p q r A2 f1, tm_a p q r f1 A2 A1, tm_c p q r A2 A1]
    rw [l, rr, h]
  rw [tm_n, tm_n] at key
  rw [← kQ_Q4 (v := (g1.1, g1.2.1, g1.2.2, 1)) (w := (f1.1, f1.2.1, f1.2.2, 1)) hF n1 (show (1 : Int) ≠ 0 by decide) (show (1 : Int) ≠ 0 by decide), ← kQ_Q4 (v := (g2.1, g2.2.1, g2.2.2, 1)) (w := (f2.1, f2.2.1, f2.2.2, 1)) hF n2 (show (1 : Int) ≠ 0 by decide) (show (1 : Int) ≠ 0 by decide)]
  unfold kQ
  dsimp only
  unfold tm tj at key
  dsimp only at key
  generalize zU p q r f1.1 f1.2.1 f1.2.2 = U1 at *
  generalize zV p q r f1.1 f1.2.1 f1.2.2 = V1 at *
  generalize zW p q r f1.1 f1.2.1 f1.2.2 = W1 at *
  generalize zU p q r f2.1 f2.2.1 f2.2.2 = U2 at *
  generalize zV p q r f2.1 f2.2.1 f2.2.2 = V2 at *
  generalize zW p q r f2.1 f2.2.1 f2.2.2 = W2 at *
  generalize zN p q r f1.1 f1.2.1 f1.2.2 = M1 at *
  generalize zN p q r f2.1 f2.2.1 f2.2.2 = M2 at *
  have k1 := congrArg Prod.fst key
  have k2 := congrArg (fun x => x.2.1) key
  have k3 := congrArg (fun x => x.2.2) key
  dsimp only at k1 k2 k3
  rw [Int.one_mul, Int.one_mul, Int.one_mul, Int.one_mul, Int.one_mul, Int.one_mul, Int.one_mul, Int.one_mul]
  rw [← zl_mul M2 _ _ _ M1 N2 N1, ← zl_mul M1 _ _ _ M2 N1 N2, k1, k2, k3, Int.mul_comm M2 M1]
-- THE TWO VALUES OF A WORD
def e_T (R : Nat → Int) : Int := R 0 + R 4 + R 8
def e_U (R : Nat → Int) : Int := R 0 * R 4 - R 1 * R 3 + (R 0 * R 8 - R 2 * R 6) + (R 4 * R 8 - R 5 * R 7)
def e_D (R : Nat → Int) : Int := R 0 * (R 4 * R 8 - R 5 * R 7) + R 1 * (R 5 * R 6 - R 3 * R 8) + R 2 * (R 3 * R 7 - R 4 * R 6)
/-- across two rows of M less ROOT: the class's -/
def e_k0 (R : Nat → Int) : Int × Int × Int := (R 1 * R 5 - R 2 * R 4, R 2, 0)
def e_k1 (R : Nat → Int) : Int × Int × Int := (R 2 * R 3 - R 0 * R 5, R 5, 0)
def e_k2 (R : Nat → Int) : Int × Int × Int := (R 0 * R 4 - R 1 * R 3, -R 0 - R 4, 1)
theorem e_nz0 {R : Nat → Int} (hF : zF (e_T R) (-e_U R) (e_D R) = true) : ¬ ((e_k0 R).1 = 0 ∧ (e_k0 R).2.1 = 0 ∧ (e_k0 R).2.2 = 0) := by
  rintro ⟨h1, h2, -⟩
  unfold e_k0 at h1 h2
  dsimp only at h1 h2
  rw [h2, Int.zero_mul, Int.sub_zero] at h1
  rcases Int.mul_eq_zero.mp h1 with h3 | h3
  · refine absurd ?_ (zN_ne (a := -R 0) (b := 1) (c := 0) hF (fun h => absurd h.2.1 (show ¬ (1 : Int) = 0 by decide)))
    unfold zN e_T e_U e_D
    rw [h2, h3]
    generalize R 0 = r0, R 3 = r3, R 4 = r4, R 5 = r5, R 6 = r6, R 7 = r7, R 8 = r8
    grind
  · refine absurd ?_ (zN_ne (a := -R 8) (b := 1) (c := 0) hF (fun h => absurd h.2.1 (show ¬ (1 : Int) = 0 by decide)))
    unfold zN e_T e_U e_D
    rw [h2, h3]
    generalize R 0 = r0, R 1 = r1, R 3 = r3, R 4 = r4, R 6 = r6, R 7 = r7, R 8 = r8
    grind
theorem e_x1 (R : Nat → Int) : tm (e_T R) (-e_U R) (e_D R) (e_k1 R) (e_f R, e_g R, 1) = tm (e_T R) (-e_U R) (e_D R) (e_1 R, R 3, 0) (e_k0 R) := by
  unfold tm zA zB zC e_T e_U e_D e_k0 e_k1 e_f e_g e_1
  dsimp only
  generalize R 0 = r0, R 1 = r1, R 2 = r2, R 3 = r3, R 4 = r4, R 5 = r5, R 6 = r6, R 7 = r7, R 8 = r8
  refine Prod.ext ?_ (Prod.ext ?_ ?_)
  · dsimp only; grind
  · dsimp only; grind
  · dsimp only; grind
theorem e_x2 (R : Nat → Int) : tm (e_T R) (-e_U R) (e_D R) (e_k2 R) (e_f R, e_g R, 1) = tm (e_T R) (-e_U R) (e_D R) (e_2 R, R 6, 0) (e_k0 R) := by
  unfold tm zA zB zC e_T e_U e_D e_k0 e_k2 e_f e_g e_2
  dsimp only
  generalize R 0 = r0, R 1 = r1, R 2 = r2, R 3 = r3, R 4 = r4, R 5 = r5, R 6 = r6, R 7 = r7, R 8 = r8
  refine Prod.ext ?_ (Prod.ext ?_ ?_)
  · dsimp only; grind
  · dsimp only; grind
  · dsimp only; grind
/-- both ways of telling the two VALUES come to the same -/
theorem e_zz {R : Nat → Int} (hF : zF (e_T R) (-e_U R) (e_D R) = true) : zQ4 (e_T R) (-e_U R) (e_D R) ((e_k1 R).1, (e_k1 R).2.1, (e_k1 R).2.2, 1) ((e_k0 R).1, (e_k0 R).2.1, (e_k0 R).2.2, 1) = e_z1 (e_T R) (-e_U R) (e_D R) R ∧ zQ4 (e_T R) (-e_U R) (e_D R) ((e_k2 R).1, (e_k2 R).2.1, (e_k2 R).2.2, 1) ((e_k0 R).1, (e_k0 R).2.1, (e_k0 R).2.2, 1) = e_z2 (e_T R) (-e_U R) (e_D R) R := by
  have n2 : ¬ ((e_f R, e_g R, (1 : Int)).1 = 0 ∧ (e_f R, e_g R, (1 : Int)).2.1 = 0 ∧ (e_f R, e_g R, (1 : Int)).2.2 = 0) := fun h => absurd h.2.2 (show ¬ (1 : Int) = 0 by decide)
  exact ⟨zQ4_x (g1 := e_k1 R) (f1 := e_k0 R) (g2 := (e_1 R, R 3, 0)) (f2 := (e_f R, e_g R, 1)) hF (e_nz0 hF) n2 (e_x1 R), zQ4_x (g1 := e_k2 R) (f1 := e_k0 R) (g2 := (e_2 R, R 6, 0)) (f2 := (e_f R, e_g R, 1)) hF (e_nz0 hF) n2 (e_x2 R)⟩
theorem zl_1 (a b c : Int) : zl (a, b, c, 1) = (a, b, c, 1) := by
  have e : zg a b c 1 = 1 := by
    unfold zg
    rw [if_neg (by decide), show Int.gcd c 1 = 1 from Int.gcd_one_right c]
    rw [show ((1 : Nat) : Int) = 1 from rfl, Int.gcd_one_right]
    rfl
  unfold zl
  dsimp only
  rw [e, Int.tdiv_one, Int.tdiv_one, Int.tdiv_one, Int.tdiv_one]
