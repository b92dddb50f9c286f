noncomputable section
-- PART 60.math
-- NUMBERS: norms as whole numbers, never 0 in a field, floors' bounds, common divisors
def zN (p q r a b c : Int) : Int := a * a * a + a * a * b * p + a * a * c * (p * p + 2 * q) - a * b * b * q + a * b * c * (-(p * q) - 3 * r) + a * c * c * (q * q - 2 * p * r) + r * (b * b * b + b * b * c * p - b * c * c * q + c * c * c * r)
def zT (p q _r a b c : Int) : Int := 3 * a + b * p + c * (p * p + 2 * q)
def zS (p q r a b c : Int) : Int := 3 * a * a + 2 * a * b * p + 2 * a * c * (p * p + 2 * q) - b * b * q + b * c * (-(p * q) - 3 * r) + c * c * (q * q - 2 * p * r)
def zD (p q r : Int) : Int := p * p * q * q + 4 * q * q * q - 4 * p * p * p * r - 27 * r * r - 18 * p * q * r
def z7 : List Int := [-3, -2, -1, 0, 1, 2, 3]
/-- a field can be told by p, q, r -/
def zF (p q r : Int) : Bool := decide (-3 ≤ p) && (decide (p ≤ 3) && (decide (-3 ≤ q) && (decide (q ≤ 3) && (decide (-3 ≤ r) && (decide (r ≤ 3) && (decide (zD p q r < 0) && z7.all fun x => decide (x * x * x ≠ p * x * x + q * x + r)))))))
/-- no norm is 0 by l but that of 0 -/
def zI (p q r : Int) (l : Nat) : Bool := (List.range l).all fun a => (List.range l).all fun b => (List.range l).all fun c => (a == 0 && (b == 0 && c == 0)) || (zN p q r a b c % l != 0)
set_option maxRecDepth 1000000 in
theorem zI_ok : (z7.all fun p => z7.all fun q => z7.all fun r => !zF p q r || [2, 3, 5, 7, 11, 17].any fun l => zI p q r l) = true := by decide +kernel
theorem z7m {x : Int} (h1 : -3 ≤ x) (h2 : x ≤ 3) : x ∈ z7 := by
  have h : x = -3 ∨ x = -2 ∨ x = -1 ∨ x = 0 ∨ x = 1 ∨ x = 2 ∨ x = 3 := by omega
  rcases h with h | h | h | h | h | h | h <;> rw [h] <;> decide
theorem zF_b {p q r : Int} (h : zF p q r = true) : (-3 ≤ p ∧ p ≤ 3) ∧ (-3 ≤ q ∧ q ≤ 3) ∧ (-3 ≤ r ∧ r ≤ 3) := by
  simp only [zF, Bool.and_eq_true, decide_eq_true_eq] at h
  omega
theorem zF_l {p q r : Int} (h : zF p q r = true) : ∃ l : Nat, 1 < l ∧ zI p q r l = true := by
  obtain ⟨⟨a1, a2⟩, ⟨b1, b2⟩, ⟨c1, c2⟩⟩ := zF_b h
  have h1 := List.all_eq_true.mp zI_ok p (z7m a1 a2)
  have h2 := List.all_eq_true.mp h1 q (z7m b1 b2)
  have h3 := List.all_eq_true.mp h2 r (z7m c1 c2)
  rw [h, Bool.not_true, Bool.false_or] at h3
  obtain ⟨l, hl, h4⟩ := List.any_eq_true.mp h3
  refine ⟨l, ?_, h4⟩
  simp only [List.mem_cons, List.not_mem_nil, or_false] at hl
  omega
/-- alike but for multiples of l -/
def zc (l a b : Int) : Prop := ∃ k, a = b + l * k
theorem zc_r (l a : Int) : zc l a a := ⟨0, by omega⟩
theorem zc_add {l a b c d : Int} (h : zc l a b) (g : zc l c d) : zc l (a + c) (b + d) := by
  obtain ⟨k, rfl⟩ := h
  obtain ⟨m, rfl⟩ := g
  exact ⟨k + m, by rw [Int.mul_add]; omega⟩
theorem zc_sub {l a b c d : Int} (h : zc l a b) (g : zc l c d) : zc l (a - c) (b - d) := by
  obtain ⟨k, rfl⟩ := h
  obtain ⟨m, rfl⟩ := g
  exact ⟨k - m, by rw [Int.mul_sub]; omega⟩
theorem zc_mul {l a b c d : Int} (h : zc l a b) (g : zc l c d) : zc l (a * c) (b * d) := by
  obtain ⟨k, rfl⟩ := h
  obtain ⟨m, rfl⟩ := g
  exact ⟨k * d + b * m + k * l * m, by grind⟩
theorem zc_mod (l a : Int) : zc l a (a % l) := ⟨a / l, (Int.emod_add_mul_ediv a l).symm⟩
theorem zc_0 {l a : Int} (h : zc l 0 a) : a % l = 0 := by
  obtain ⟨k, h⟩ := h
  have : a = l * (-k) := by rw [Int.mul_neg]; omega
  rw [this]
  exact Int.mul_emod_right l (-k)
theorem zN_c (p q r : Int) {l a b c a' b' c' : Int} (ha : zc l a a') (hb : zc l b b') (hc : zc l c c') : zc l (zN p q r a b c) (zN p q r a' b' c') := by
  unfold zN
  exact zc_add (zc_add (zc_add (zc_sub (zc_add (zc_add (zc_mul (zc_mul ha ha) ha) (zc_mul (zc_mul (zc_mul ha ha) hb) (zc_r l p))) (zc_mul (zc_mul (zc_mul ha ha) hc) (zc_r l _))) (zc_mul (zc_mul (zc_mul ha hb) hb) (zc_r l q))) (zc_mul (zc_mul (zc_mul ha hb) hc) (zc_r l _))) (zc_mul (zc_mul (zc_mul ha hc) hc) (zc_r l _))) (zc_mul (zc_r l r) (zc_add (zc_sub (zc_add (zc_mul (zc_mul hb hb) hb) (zc_mul (zc_mul (zc_mul hb hb) hc) (zc_r l p))) (zc_mul (zc_mul (zc_mul hb hc) hc) (zc_r l q))) (zc_mul (zc_mul (zc_mul hc hc) hc) (zc_r l r))))
theorem zN_s (p q r l a b c : Int) : zN p q r (l * a) (l * b) (l * c) = l * (l * (l * zN p q r a b c)) := by
  unfold zN
  grind
theorem zI_use {p q r : Int} {l : Nat} (h : zI p q r l = true) {a b c : Int} (hl : 1 < l) (h0 : zN p q r a b c = 0) : a % l = 0 ∧ b % l = 0 ∧ c % l = 0 := by
  have hp : (0 : Int) < l := by omega
  have key : ∀ x : Int, ((x % l).toNat : Int) = x % l ∧ (x % l).toNat < l := by
    intro x
    have h1 := Int.emod_nonneg x (show (l : Int) ≠ 0 by omega)
    have h2 := Int.emod_lt_of_pos x hp
    omega
  have h1 := List.all_eq_true.mp h _ (List.mem_range.mpr (key a).2)
  have h2 := List.all_eq_true.mp h1 _ (List.mem_range.mpr (key b).2)
  have h3 := List.all_eq_true.mp h2 _ (List.mem_range.mpr (key c).2)
  have hz := zN_c p q r (zc_mod l a) (zc_mod l b) (zc_mod l c)
  rw [h0] at hz
  have hz := zc_0 hz
  rw [(key a).1, (key b).1, (key c).1, hz] at h3
  simp only [Bool.or_eq_true, Bool.and_eq_true, beq_iff_eq, bne_self_eq_false, Bool.false_eq_true, or_false] at h3
  have e1 := (key a).1
  have e2 := (key b).1
  have e3 := (key c).1
  omega
theorem zN_0 {p q r : Int} (hF : zF p q r = true) : ∀ (n : Nat) (a b c : Int), a.natAbs + b.natAbs + c.natAbs < n → zN p q r a b c = 0 → a = 0 ∧ b = 0 ∧ c = 0 := by
  obtain ⟨l, hl, hI⟩ := zF_l hF
  intro n
  induction n with
  | zero => intro a b c h; omega
  | succ n ih =>
    intro a b c h h0
    obtain ⟨h1, h2, h3⟩ := zI_use hI hl h0
    have ea := Int.emod_add_mul_ediv a l
    have eb := Int.emod_add_mul_ediv b l
    have ec := Int.emod_add_mul_ediv c l
    rw [h1, Int.zero_add] at ea
    rw [h2, Int.zero_add] at eb
    rw [h3, Int.zero_add] at ec
    generalize a / (l : Int) = a' at ea
    generalize b / (l : Int) = b' at eb
    generalize c / (l : Int) = c' at ec
    subst ea eb ec
    rw [zN_s] at h0
    have hl0 : (l : Int) ≠ 0 := by omega
    have h0' : zN p q r a' b' c' = 0 := by
      rcases Int.mul_eq_zero.mp h0 with g | g
      · exact absurd g hl0
      · rcases Int.mul_eq_zero.mp g with g | g
        · exact absurd g hl0
        · rcases Int.mul_eq_zero.mp g with g | g
          · exact absurd g hl0
          · exact g
    by_cases hz : a'.natAbs + b'.natAbs + c'.natAbs = 0
    · have e1 : a' = 0 := by omega
      have e2 : b' = 0 := by omega
      have e3 : c' = 0 := by omega
      rw [e1, e2, e3, Int.mul_zero]
      exact ⟨rfl, rfl, rfl⟩
    · have hm : ∀ x : Int, (l * x).natAbs = l * x.natAbs := fun x => by rw [Int.natAbs_mul, Int.natAbs_natCast]
      rw [hm, hm, hm, ← Nat.mul_add, ← Nat.mul_add] at h
      have : 2 * (a'.natAbs + b'.natAbs + c'.natAbs) ≤ l * (a'.natAbs + b'.natAbs + c'.natAbs) := Nat.mul_le_mul_right _ hl
      obtain ⟨g1, g2, g3⟩ := ih a' b' c' (by omega) h0'
      rw [g1, g2, g3, Int.mul_zero]
      exact ⟨rfl, rfl, rfl⟩
theorem zN_ne {p q r a b c : Int} (hF : zF p q r = true) (h : ¬ (a = 0 ∧ b = 0 ∧ c = 0)) : zN p q r a b c ≠ 0 := fun h0 => h (zN_0 hF _ a b c (Nat.lt_succ_self _) h0)
-- products within bounds
theorem z_mb {x y A B : Int} (h1 : -A ≤ x) (h2 : x ≤ A) (h3 : -B ≤ y) (h4 : y ≤ B) : -(A * B) ≤ x * y ∧ x * y ≤ A * B := by
  have hA : (0 : Int) ≤ A := by omega
  have hB : (0 : Int) ≤ B := by omega
  have hx : x.natAbs ≤ A.toNat := by omega
  have hy : y.natAbs ≤ B.toNat := by omega
  have hm := Nat.mul_le_mul hx hy
  rw [← Int.natAbs_mul] at hm
  have e : ((A.toNat * B.toNat : Nat) : Int) = A * B := by rw [Int.natCast_mul, Int.toNat_of_nonneg hA, Int.toNat_of_nonneg hB]
  omega
/-- within -n .. n -/
def zb (n x : Int) : Prop := -n ≤ x ∧ x ≤ n
theorem zb_m {x y A B C : Int} (h : zb A x) (g : zb B y) (e : A * B ≤ C) : zb C (x * y) := by
  have := z_mb h.1 h.2 g.1 g.2
  unfold zb
  omega
theorem zb_a {x y A B C : Int} (h : zb A x) (g : zb B y) (e : A + B ≤ C) : zb C (x + y) := by unfold zb at *; omega
theorem zb_s {x y A B C : Int} (h : zb A x) (g : zb B y) (e : A + B ≤ C) : zb C (x - y) := by unfold zb at *; omega
theorem zb_n {x A : Int} (h : zb A x) : zb A (-x) := by unfold zb at *; omega
theorem zb_w {x A B : Int} (h : zb A x) (e : A ≤ B) : zb B x := by unfold zb at *; omega
theorem zb_c (n x : Int) (h : -n ≤ x) (g : x ≤ n) : zb n x := ⟨h, g⟩
theorem z_sq {p q : Int} (hp : zb 3 p) (hq : zb 3 q) : zb 15 (p * p + 2 * q) := zb_a (zb_m hp hp (Int.le_refl _)) (zb_m (zb_c 2 2 (by decide) (by decide)) hq (Int.le_refl _)) (by decide)
theorem z_mx {p q r : Int} (hp : zb 3 p) (hq : zb 3 q) (hr : zb 3 r) : zb 18 (-(p * q) - 3 * r) := zb_s (zb_n (zb_m hp hq (Int.le_refl _))) (zb_m (zb_c 3 3 (by decide) (by decide)) hr (Int.le_refl _)) (by decide)
theorem z_pr {p q r : Int} (hp : zb 3 p) (hq : zb 3 q) (hr : zb 3 r) : zb 27 (q * q - 2 * p * r) := zb_s (zb_m hq hq (Int.le_refl _)) (zb_m (zb_m (zb_c 2 2 (by decide) (by decide)) hp (Int.le_refl _)) hr (Int.le_refl _)) (by decide)
/-- the norm by powers of a -/
theorem zN_a (p q r a b c : Int) : zN p q r a b c = a * (a * (a + (b * p + c * (p * p + 2 * q))) + (b * b * (-q) + b * c * (-(p * q) - 3 * r) + c * c * (q * q - 2 * p * r))) + r * (b * b * b + b * b * c * p - b * c * c * q + c * c * c * r) := by
  unfold zN
  grind
theorem zN_parts {p q r b c : Int} (hp : zb 3 p) (hq : zb 3 q) (hr : zb 3 r) (hb : zb 150 b) (hc : zb 150 c) : zb 2700 (b * p + c * (p * p + 2 * q)) ∧ zb 1080000 (b * b * (-q) + b * c * (-(p * q) - 3 * r) + c * c * (q * q - 2 * p * r)) ∧ zb 101250000 (r * (b * b * b + b * b * c * p - b * c * c * q + c * c * c * r)) := by
  have bb : zb 22500 (b * b) := zb_m hb hb (by decide)
  have bc : zb 22500 (b * c) := zb_m hb hc (by decide)
  have cc : zb 22500 (c * c) := zb_m hc hc (by decide)
  refine ⟨zb_a (zb_m hb hp (Int.le_refl _)) (zb_m hc (z_sq hp hq) (Int.le_refl _)) (by decide), ?_, ?_⟩
  · exact zb_a (zb_a (zb_m bb (zb_n hq) (Int.le_refl _)) (zb_m bc (z_mx hp hq hr) (Int.le_refl _)) (Int.le_refl _)) (zb_m cc (z_pr hp hq hr) (Int.le_refl _)) (by decide)
  · refine zb_m hr (B := 33750000) (zb_a (zb_s (zb_a (zb_m bb hb (Int.le_refl _)) (zb_m (zb_m bb hc (Int.le_refl _)) hp (Int.le_refl _)) (Int.le_refl _)) (zb_m (zb_m bc hc (Int.le_refl _)) hq (Int.le_refl _)) (Int.le_refl _)) (zb_m (zb_m cc hc (Int.le_refl _)) hr (Int.le_refl _)) (by decide)) (by decide)
theorem zN_pos {p q r a b c : Int} (hp : zb 3 p) (hq : zb 3 q) (hr : zb 3 r) (hb : zb 150 b) (hc : zb 150 c) (ha : 4000 ≤ a) : 0 < zN p q r a b c := by
  obtain ⟨h1, h2, h3⟩ := zN_parts hp hq hr hb hc
  rw [zN_a]
  generalize b * p + c * (p * p + 2 * q) = T at h1
  generalize b * b * (-q) + b * c * (-(p * q) - 3 * r) + c * c * (q * q - 2 * p * r) = S at h2
  generalize r * (b * b * b + b * b * c * p - b * c * c * q + c * c * c * r) = N at h3
  unfold zb at *
  have g1 : 4000 * 1300 ≤ a * (a + T) := Int.mul_le_mul ha (by omega) (by decide) (by omega)
  have g2 : 4000 * 4000000 ≤ a * (a * (a + T) + S) := Int.mul_le_mul ha (by omega) (by decide) (by omega)
  omega
theorem zN_neg {p q r a b c : Int} (hp : zb 3 p) (hq : zb 3 q) (hr : zb 3 r) (hb : zb 150 b) (hc : zb 150 c) (ha : a ≤ -4000) : zN p q r a b c < 0 := by
  have e : zN p q r a b c = -zN p q r (-a) (-b) (-c) := by unfold zN; grind
  have := zN_pos hp hq hr (zb_n hb) (zb_n hc) (show 4000 ≤ -a by omega)
  omega
/-- a bound of a norm: a within 700000, b, c within 20000 when a is; few are wanted -/
theorem zN_bnd {p q r a b c A B : Int} (hp : zb 3 p) (hq : zb 3 q) (hr : zb 3 r) (ha : zb A a) (hb : zb B b) (hc : zb B c) (C : Int) (h : A * A * A + A * A * B * 18 + A * B * B * 48 + B * B * B * 30 ≤ C) (hA : 0 ≤ A) (hB : 0 ≤ B) : zb C (zN p q r a b c) := by
  have aa := zb_m ha ha (Int.le_refl _)
  have aaa := zb_m aa ha (Int.le_refl _)
  have aab := zb_m (zb_m aa hb (Int.le_refl _)) hp (Int.le_refl _)
  have aac := zb_m (zb_m aa hc (Int.le_refl _)) (z_sq hp hq) (Int.le_refl _)
  have abb := zb_m (zb_m (zb_m ha hb (Int.le_refl _)) hb (Int.le_refl _)) hq (Int.le_refl _)
  have abc := zb_m (zb_m (zb_m ha hb (Int.le_refl _)) hc (Int.le_refl _)) (z_mx hp hq hr) (Int.le_refl _)
  have acc := zb_m (zb_m (zb_m ha hc (Int.le_refl _)) hc (Int.le_refl _)) (z_pr hp hq hr) (Int.le_refl _)
  have bb := zb_m hb hb (Int.le_refl _)
  have bbb := zb_m bb hb (Int.le_refl _)
  have bbc := zb_m (zb_m bb hc (Int.le_refl _)) hp (Int.le_refl _)
  have bcc := zb_m (zb_m (zb_m hb hc (Int.le_refl _)) hc (Int.le_refl _)) hq (Int.le_refl _)
  have ccc := zb_m (zb_m (zb_m hc hc (Int.le_refl _)) hc (Int.le_refl _)) hr (Int.le_refl _)
  have rr : zb (3 * (B * B * B + B * B * B * 3 + B * B * B * 3 + B * B * B * 3)) (r * (b * b * b + b * b * c * p - b * c * c * q + c * c * c * r)) := zb_m hr (zb_a (zb_s (zb_a bbb bbc (Int.le_refl _)) bcc (Int.le_refl _)) ccc (Int.le_refl _)) (Int.le_refl _)
  unfold zN
  refine zb_w (zb_a (zb_a (zb_a (zb_s (zb_a (zb_a aaa aab (Int.le_refl _)) aac (Int.le_refl _)) abb (Int.le_refl _)) abc (Int.le_refl _)) acc (Int.le_refl _)) rr (Int.le_refl _)) ?_
  refine Int.le_trans (Int.le_of_eq ?_) h
  grind
-- longs of whole numbers
theorem z_t {z : Int} (h1 : -9223372036854775808 ≤ z) (h2 : z ≤ 9223372036854775807) : (Int64.ofInt z).toInt = z := Int64.toInt_ofInt_of_le (by omega) (by omega)
theorem z_tb {n z : Int} (h : zb n z) (hn : n ≤ 9223372036854775807) : (Int64.ofInt z).toInt = z := by unfold zb at h; exact z_t (by omega) (by omega)
theorem z_ne {n z : Int} (h : zb n z) (hn : n ≤ 9223372036854775807) (h0 : z ≠ 0) : ¬ Int64.ofInt z = 0 := by
  intro e
  have := congrArg Int64.toInt e
  rw [z_tb h hn] at this
  exact h0 this
theorem z_w (x : Int32) : x.toInt64 = Int64.ofInt x.toInt := (Int64.ofInt_int32ToInt x).symm
theorem z_div {a b : Int} (ha : zb 9223372036854775807 a) (hb : zb 9223372036854775807 b) : Int64.ofInt a / Int64.ofInt b = Int64.ofInt (a.tdiv b) := by
  apply Int64.toInt_inj.mp
  unfold zb at *
  by_cases h0 : b = 0
  · subst h0
    rw [Int.tdiv_zero]
    have e : Int64.ofInt (0 : Int) = 0 := rfl
    rw [e, Int64.div_zero]
  rw [Int64.toInt_div, z_t (by omega) (by omega), z_t (by omega) (by omega)]
  have h1 : (a.tdiv b).natAbs ≤ a.natAbs := by rw [Int.natAbs_tdiv]; exact Nat.div_le_self _ _
  rw [z_t (by omega) (by omega)]
  exact Int.bmod_eq_of_le_mul_two (by omega) (by omega)
theorem z_lt {a b : Int} (ha : zb 9223372036854775807 a) (hb : zb 9223372036854775807 b) : (Int64.ofInt a < Int64.ofInt b) = (a < b) := by
  unfold zb at *
  rw [Int64.lt_iff_toInt_lt, z_t (by omega) (by omega), z_t (by omega) (by omega)]
-- Euclid's turns
def l_ab (x : Int64) : Int64 := if x < 0 then -x else x
theorem l_rem (x y : Int64) : x - x / y * y = x % y := by
  apply Int64.toInt_inj.mp
  have h1 := Int64.le_toInt (x % y)
  have h2 := Int64.toInt_lt (x % y)
  rw [Int64.toInt_sub, Int64.toInt_mul, Int64.toInt_div, Int.bmod_mul_bmod, Int.sub_bmod_bmod, Int.mul_comm (x.toInt.tdiv y.toInt), ← Int.tmod_def, ← Int64.toInt_mod]
  exact Int.bmod_eq_of_le_mul_two (by omega) (by omega)
theorem l_remz {x y : Nat} (hx : x < 9223372036854775808) (hy : y < 9223372036854775808) : Int64.ofInt (x : Int) - Int64.ofInt (x : Int) / Int64.ofInt (y : Int) * Int64.ofInt (y : Int) = Int64.ofInt ((x % y : Nat) : Int) := by
  rw [l_rem]
  apply Int64.toInt_inj.mp
  have h3 : x % y ≤ x := Nat.mod_le x y
  rw [Int64.toInt_mod, z_t (by omega) (by omega), z_t (by omega) (by omega), z_t (by omega) (by omega), Int.tmod_eq_emod_of_nonneg (by omega), Int.natCast_emod]
theorem l_ab_z {x : Int} (h : zb 9223372036854775807 x) : l_ab (Int64.ofInt x) = Int64.ofInt (x.natAbs : Int) := by
  unfold l_ab
  have hz : (Int64.ofInt x < 0) = (x < 0) := z_lt (b := 0) h ⟨by decide, by decide⟩
  by_cases hx : x < 0
  · rw [if_pos (by rw [hz]; exact hx), ← Int64.ofInt_neg]
    congr 1
    omega
  · rw [if_neg (by rw [hz]; exact hx)]
    congr 1
    omega
end
