-- AN ABSTRACT RUN over the interpreter: along every path, what each int and long is between
abbrev ai_L : Type := Option Nat × Int
abbrev ai_A : Type := (ai_L ⊕ ai_L) ⊕ ((ai_L × ai_L) ⊕ Option Nat)
abbrev ai_A.i (x : ai_L) : ai_A := .inl (.inl x)
abbrev ai_A.l (x : ai_L) : ai_A := .inl (.inr x)
abbrev ai_A.c (x y : ai_L) : ai_A := .inr (.inl (x, y))
abbrev ai_A.r (k : Nat) : ai_A := .inr (.inr (some k))
abbrev ai_A.u : ai_A := .inr (.inr none)
theorem ai_Ac {motive : ai_A → Prop} (i : ∀ x, motive (.i x)) (l : ∀ x, motive (.l x)) (c : ∀ x y, motive (.c x y)) (r : ∀ k, motive (.r k)) (u : motive .u) : ∀ a, motive a
  | .inl (.inl x) => i x
  | .inl (.inr x) => l x
  | .inr (.inl (x, y)) => c x y
  | .inr (.inr (some k)) => r k
  | .inr (.inr none) => u
abbrev ai_V : Type := List (Int × Int)
abbrev ai_F : Type := List (Nat × Nat × ai_L)
abbrev ai_S : Type := Nat × List ai_A × List ai_A × ai_V × ai_F
/-- x is z, where the unknowns are rho -/
def ai_val (ρ : List Int) (x : ai_L) (z : Int) : Prop := match x.1 with
  | none => z = x.2
  | some n => ∃ p, ρ[n]? = some p ∧ z = p + x.2
def ai_okA (ρ : List Int) : ai_A → Value → Prop
  | .inl (.inl x), v => ∃ q : Int32, v = .int q ∧ ai_val ρ x q.toInt
  | .inl (.inr x), v => ∃ q : Int64, v = .long q ∧ ai_val ρ x q.toInt
  | .inr (.inl (x, y)), v => ∃ p q : Int64, v = .int (lg_cmp p q) ∧ ai_val ρ x p.toInt ∧ ai_val ρ y q.toInt
  | .inr (.inr (some k)), v => v = .ref k
  | .inr (.inr none), _ => True
def ai_two2 {α β : Type} (R : α → β → Prop) : List α → List β → Prop
  | [], [] => True
  | a :: as, b :: bs => R a b ∧ ai_two2 R as bs
  | _, _ => False
def ai_okV (ρ : List Int) (E : ai_V) : Prop := ai_two2 (fun (z : Int) (p : Int × Int) => p.1 ≤ z ∧ z ≤ p.2) ρ E
def ai_okF (ρ : List Int) (F : ai_F) (M : ip_H) : Prop := ∀ f ∈ F, ai_val ρ f.2.2 (M.2.1 f.1 f.2.1).toInt
def ai_okL (ρ : List Int) (a : List ai_A) (v : List Value) : Prop := ai_two2 (ai_okA ρ) a v
/-- between -/
def ai_iv (E : ai_V) (x : ai_L) : Int × Int := match x.1 with
  | none => (x.2, x.2)
  | some n => ((E.getD n (0, 0)).1 + x.2, (E.getD n (0, 0)).2 + x.2)
def ai_mn (w : Bool) : Int := if w then -9223372036854775808 else -2147483648
def ai_mx (w : Bool) : Int := if w then 9223372036854775807 else 2147483647
def ai_nw (E : ai_V) (lo hi : Int) : ai_L × ai_V := if lo = hi then ((none, lo), E) else ((some E.length, 0), E ++ [(lo, hi)])
def ai_ft (w : Bool) (lo hi : Int) : Bool := decide (ai_mn w ≤ lo) && decide (hi ≤ ai_mx w)
def ai_fl (w : Bool) (E : ai_V) : ai_L × ai_V := ai_nw E (ai_mn w) (ai_mx w)
def ai_nf (w : Bool) (E : ai_V) (lo hi : Int) : ai_L × ai_V := if ai_ft w lo hi then ai_nw E lo hi else ai_fl w E
def ai_add (w : Bool) (E : ai_V) (x y : ai_L) : ai_L × ai_V :=
  if ai_ft w ((ai_iv E x).1 + (ai_iv E y).1) ((ai_iv E x).2 + (ai_iv E y).2) then
    match y.1 with
    | none => ((x.1, x.2 + y.2), E)
    | some _ => match x.1 with
      | none => ((y.1, x.2 + y.2), E)
      | some _ => ai_nw E ((ai_iv E x).1 + (ai_iv E y).1) ((ai_iv E x).2 + (ai_iv E y).2)
  else ai_fl w E
def ai_sub (w : Bool) (E : ai_V) (x y : ai_L) : ai_L × ai_V :=
  if ai_ft w ((ai_iv E x).1 - (ai_iv E y).2) ((ai_iv E x).2 - (ai_iv E y).1) then
    match y.1 with
    | none => ((x.1, x.2 - y.2), E)
    | some _ => ai_nw E ((ai_iv E x).1 - (ai_iv E y).2) ((ai_iv E x).2 - (ai_iv E y).1)
  else ai_fl w E
def ai_mul (w : Bool) (E : ai_V) (x y : ai_L) : ai_L × ai_V := match x.1, y.1 with
  | none, none => if ai_ft w (x.2 * y.2) (x.2 * y.2) then ((none, x.2 * y.2), E) else ai_fl w E
  | none, some _ => if 0 ≤ x.2 then ai_nf w E (x.2 * (ai_iv E y).1) (x.2 * (ai_iv E y).2) else ai_fl w E
  | some _, none => if 0 ≤ y.2 then ai_nf w E (y.2 * (ai_iv E x).1) (y.2 * (ai_iv E x).2) else ai_fl w E
  | some _, some _ => if 0 ≤ (ai_iv E x).1 ∧ 0 ≤ (ai_iv E y).1 then ai_nf w E ((ai_iv E x).1 * (ai_iv E y).1) ((ai_iv E x).2 * (ai_iv E y).2) else ai_fl w E
def ai_neg (w : Bool) (E : ai_V) (x : ai_L) : ai_L × ai_V := match x.1 with
  | none => if ai_ft w (-x.2) (-x.2) then ((none, -x.2), E) else ai_fl w E
  | some _ => ai_nf w E (-(ai_iv E x).2) (-(ai_iv E x).1)
/-- not 0 -/
def ai_n0 (E : ai_V) (y : ai_L) : Bool := decide (0 < (ai_iv E y).1) || decide ((ai_iv E y).2 < 0)
def ai_div (w : Bool) (E : ai_V) (x y : ai_L) : ai_L × ai_V :=
  if 0 ≤ (ai_iv E x).1 ∧ 0 < (ai_iv E y).1 then ai_nf w E 0 (ai_iv E x).2 else ai_fl w E
def ai_rem (w : Bool) (E : ai_V) (x y : ai_L) : ai_L × ai_V := match y.1 with
  | none => if 0 < y.2 then (if 0 ≤ (ai_iv E x).1 then ai_nf w E 0 (min (ai_iv E x).2 (y.2 - 1)) else ai_nf w E (1 - y.2) (y.2 - 1)) else ai_fl w E
  | some _ => if 0 ≤ (ai_iv E x).1 ∧ 0 < (ai_iv E y).1 then ai_nf w E 0 (min (ai_iv E x).2 ((ai_iv E y).2 - 1)) else ai_fl w E
def ai_and (w : Bool) (E : ai_V) (x y : ai_L) : ai_L × ai_V := match y.1 with
  | none => if 0 ≤ y.2 then ai_nf w E 0 y.2 else ai_fl w E
  | some _ => ai_fl w E
-- what a condition tells
def ai_cut (E : ai_V) (x : ai_L) (lo hi : Int) : Option ai_V := match x.1 with
  | none => if lo ≤ x.2 ∧ x.2 ≤ hi then some E else none
  | some n => if max (E.getD n (0, 0)).1 (lo - x.2) ≤ min (E.getD n (0, 0)).2 (hi - x.2) then some (E.set n (max (E.getD n (0, 0)).1 (lo - x.2), min (E.getD n (0, 0)).2 (hi - x.2))) else none
def ai_le (E : ai_V) (x y : ai_L) : Option ai_V := match ai_cut E x (ai_iv E x).1 (ai_iv E y).2 with
  | none => none
  | some E1 => ai_cut E1 y (ai_iv E1 x).1 (ai_iv E1 y).2
def ai_eq (E : ai_V) (x y : ai_L) : Option ai_V := match ai_le E x y with
  | none => none
  | some E1 => ai_le E1 y x
def ai_ol : Option ai_V → List ai_V
  | none => []
  | some E => [E]
def ai_ne1 (E : ai_V) (x : ai_L) (d : Int) : List ai_V := ai_ol (ai_cut E x (ai_iv E x).1 (d - 1)) ++ ai_ol (ai_cut E x (d + 1) (ai_iv E x).2)
def ai_ne (E : ai_V) (x y : ai_L) : List ai_V :=
  if (ai_iv E y).1 = (ai_iv E y).2 then ai_ne1 E x (ai_iv E y).1 else if (ai_iv E x).1 = (ai_iv E x).2 then ai_ne1 E y (ai_iv E x).1 else [E]
def ai_lt (E : ai_V) (x y : ai_L) : Option ai_V := ai_le E x (y.1, y.2 - 1)
/-- where the condition holds, and where it doesn't -/
def ai_cd (c : ClassFile.Cond) (E : ai_V) (x y : ai_L) : List ai_V × List ai_V := match c with
  | .eq => (ai_ol (ai_eq E x y), ai_ne E x y)
  | .ne => (ai_ne E x y, ai_ol (ai_eq E x y))
  | .lt => (ai_ol (ai_lt E x y), ai_ol (ai_le E y x))
  | .ge => (ai_ol (ai_le E y x), ai_ol (ai_lt E x y))
  | .gt => (ai_ol (ai_lt E y x), ai_ol (ai_le E x y))
  | .le => (ai_ol (ai_le E x y), ai_ol (ai_lt E y x))
def ai_two (c : ClassFile.Cond) (E : ai_V) (x y : ai_L) (a nx : Nat) (ls st : List ai_A) (F : ai_F) : List ai_S :=
  ((ai_cd c E x y).1.map fun E1 => (a, ls, st, E1, F)) ++ ((ai_cd c E x y).2.map fun E1 => (nx, ls, st, E1, F))
-- locals
def ai_get (ls : List ai_A) (i : Nat) : ai_A := ls.getD i .u
def ai_clr (ls : List ai_A) : Nat → List ai_A
  | 0 => ls
  | j + 1 => match ai_get ls j with
    | .inl (.inr _) => ls.set j .u
    | _ => ls
def ai_set1 (ls : List ai_A) (i : Nat) (v : ai_A) : List ai_A := (ai_clr ls i).set i v
def ai_set2 (ls : List ai_A) (i : Nat) (v : ai_A) : List ai_A := ((ai_clr ls i).set i v).set (i + 1) .u
def ai_pad : List ai_A → Option (List ai_A)
  | [] => some []
  | .inr (.inr none) :: _ => none
  | .inl (.inr x) :: t => (ai_pad t).map fun q => .l x :: .u :: q
  | a :: t => (ai_pad t).map fun q => a :: q
def ai_ent (n : Nat) (vs : List ai_A) : Option (List ai_A) := match ai_pad vs with
  | none => none
  | some q => if q.length ≤ n then some (q ++ List.replicate (n - q.length) .u) else none
