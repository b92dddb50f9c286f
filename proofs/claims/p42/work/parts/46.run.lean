-- A RUN from a cut point to cut points, calls in line or by what they are known to do
abbrev ai_P : Type := ((Int × Int) ⊕ (Int × Int)) ⊕ Option Nat
abbrev ai_P.i (lo hi : Int) : ai_P := .inl (.inl (lo, hi))
abbrev ai_P.l (lo hi : Int) : ai_P := .inl (.inr (lo, hi))
abbrev ai_P.r (k : Nat) : ai_P := .inr (some k)
abbrev ai_P.u : ai_P := .inr none
theorem ai_Pc {motive : ai_P → Prop} (i : ∀ lo hi, motive (.i lo hi)) (l : ∀ lo hi, motive (.l lo hi)) (r : ∀ k, motive (.r k)) (u : motive .u) : ∀ a, motive a
  | .inl (.inl (x, y)) => i x y
  | .inl (.inr (x, y)) => l x y
  | .inr (some k) => r k
  | .inr none => u
def ai_sat : ai_P → Value → Prop
  | .inl (.inl (lo, hi)), v => ∃ q : Int32, v = .int q ∧ lo ≤ q.toInt ∧ q.toInt ≤ hi
  | .inl (.inr (lo, hi)), v => ∃ q : Int64, v = .long q ∧ lo ≤ q.toInt ∧ q.toInt ≤ hi
  | .inr (some k), v => v = .ref k
  | .inr none, _ => True
def ai_mk : List ai_P → ai_V → List ai_A × ai_V
  | [], E => ([], E)
  | .inl (.inl (lo, hi)) :: t, E => (.i (some E.length, 0) :: (ai_mk t (E ++ [(lo, hi)])).1, (ai_mk t (E ++ [(lo, hi)])).2)
  | .inl (.inr (lo, hi)) :: t, E => (.l (some E.length, 0) :: (ai_mk t (E ++ [(lo, hi)])).1, (ai_mk t (E ++ [(lo, hi)])).2)
  | .inr (some k) :: t, E => (.r k :: (ai_mk t E).1, (ai_mk t E).2)
  | .inr none :: t, E => (.u :: (ai_mk t E).1, (ai_mk t E).2)
def ai_mkF : List (Nat × Nat × Int × Int) → ai_V → ai_F × ai_V
  | [], E => ([], E)
  | (k, j, lo, hi) :: t, E => ((k, j, (some E.length, 0)) :: (ai_mkF t (E ++ [(lo, hi)])).1, (ai_mkF t (E ++ [(lo, hi)])).2)
def ai_satF (fs : List (Nat × Nat × Int × Int)) (M : ip_H) : Prop := ∀ f ∈ fs, f.2.2.1 ≤ (M.2.1 f.1 f.2.1).toInt ∧ (M.2.1 f.1 f.2.1).toInt ≤ f.2.2.2
/-- a rank: a constant, a bound less a number, a number less a bound -/
abbrev ai_R : Type := Int ⊕ ((Nat × Int) ⊕ (Nat × Int))
abbrev ai_R.n (c : Int) : ai_R := .inl c
abbrev ai_R.v (i : Nat) (hi : Int) : ai_R := .inr (.inl (i, hi))
abbrev ai_R.w (i : Nat) (lo : Int) : ai_R := .inr (.inr (i, lo))
theorem ai_Rc {motive : ai_R → Prop} (n : ∀ c, motive (.n c)) (v : ∀ i hi, motive (.v i hi)) (w : ∀ i lo, motive (.w i lo)) : ∀ a, motive a
  | .inl c => n c
  | .inr (.inl (i, x)) => v i x
  | .inr (.inr (i, x)) => w i x
abbrev ai_R3 : Type := ai_R × ai_R × ai_R
abbrev ai_K : Type := Nat × List ai_P × List (Nat × Nat × Int × Int) × ai_R3
/-- a method at work: its number, what it gets, its cut points, what it gives, what it may write -/
abbrev ai_C : Type := Nat × List ai_P × List ai_K × Option (List ai_P) × ai_W
def ai_ti : Value → Int
  | .int q => q.toInt
  | _ => 0
def ai_rv (vls : List Value) : ai_R → Int
  | .inl c => c
  | .inr (.inl (i, hi)) => hi - ai_ti (ip_get vls i)
  | .inr (.inr (i, lo)) => ai_ti (ip_get vls i) - lo
/-- a rank along a run: c + s times an unknown -/
abbrev ai_Q : Type := Int × Option (Bool × Nat)
def ai_rq (ls : List ai_A) : ai_R → Option ai_Q
  | .inl c => some (c, none)
  | .inr (.inl (i, hi)) => match ai_get ls i with
    | .inl (.inl (none, d)) => some (hi - d, none)
    | .inl (.inl (some m, d)) => some (hi - d, some (false, m))
    | _ => none
  | .inr (.inr (i, lo)) => match ai_get ls i with
    | .inl (.inl (none, d)) => some (d - lo, none)
    | .inl (.inl (some m, d)) => some (d - lo, some (true, m))
    | _ => none
def ai_qi (E : ai_V) (q : ai_Q) : Int × Int := match q.2 with
  | none => (q.1, q.1)
  | some (true, m) => (q.1 + (E.getD m (0, 0)).1, q.1 + (E.getD m (0, 0)).2)
  | some (false, m) => (q.1 - (E.getD m (0, 0)).2, q.1 - (E.getD m (0, 0)).1)
def ai_qlt (E : ai_V) (p q : ai_Q) : Bool := (decide (p.2 = q.2) && decide (p.1 < q.1)) || decide ((ai_qi E p).2 < (ai_qi E q).1)
def ai_qeq (p q : ai_Q) : Bool := decide (p.2 = q.2) && decide (p.1 = q.1)
def ai_qin (E : ai_V) (p : ai_Q) : Bool := decide (0 ≤ (ai_qi E p).1) && decide ((ai_qi E p).2 < 8589934592)
abbrev ai_Q3 : Type := ai_Q × ai_Q × ai_Q
def ai_rq3 (ls : List ai_A) (r : ai_R3) : Option ai_Q3 := match ai_rq ls r.1, ai_rq ls r.2.1, ai_rq ls r.2.2 with
  | some a, some b, some c => some (a, b, c)
  | _, _, _ => none
def ai_q3lt (E : ai_V) (p q : ai_Q3) : Bool := ai_qlt E p.1 q.1 || (ai_qeq p.1 q.1 && (ai_qlt E p.2.1 q.2.1 || (ai_qeq p.2.1 q.2.1 && ai_qlt E p.2.2 q.2.2)))
def ai_q3in (E : ai_V) (p : ai_Q3) : Bool := ai_qin E p.1 && (ai_qin E p.2.1 && ai_qin E p.2.2)
def ai_leP (E : ai_V) : ai_A → ai_P → Bool
  | _, .inr none => true
  | .inl (.inl x), .inl (.inl (lo, hi)) => ai_in E x lo hi
  | .inl (.inr x), .inl (.inr (lo, hi)) => ai_in E x lo hi
  | .inr (.inr (some k)), .inr (some k1) => k == k1
  | _, _ => false
def ai_leL (E : ai_V) : List ai_A → List ai_P → Bool
  | [], [] => true
  | a :: t, p :: q => ai_leP E a p && ai_leL E t q
  | _, _ => false
def ai_leF (T : ai_T) (E : ai_V) (F : ai_F) (fs : List (Nat × Nat × Int × Int)) : Bool := fs.all fun f => (match ai_look F f.1 f.2.1 with
  | some x => ai_in E x f.2.2.1 f.2.2.2
  | none => decide (f.2.2.1 ≤ (ai_TT T f.1 f.2.1).1) && decide ((ai_TT T f.1 f.2.1).2 ≤ f.2.2.2))
def ai_leW (W V : ai_W) : Bool := (W.1.all fun p => ai_may V p.1 p.2) && W.2.all fun k => ai_e1 k V.2
def ai_cw : List ai_A → Nat
  | [] => 0
  | .inl (.inr _) :: t => 2 + ai_cw t
  | .inr (.inr none) :: t => 2 + ai_cw t
  | _ :: t => 1 + ai_cw t
def ai_ent1 (y : Nat) (as : List ai_A) : Option (List ai_A) := ai_ent (ip_ml y) as
/-- what a method gives back, abstractly: an unknown more -/
def ai_give (E : ai_V) : ai_P → Option (List ai_A × ai_V)
  | .inl (.inl (lo, hi)) => some ([.i (ai_nw E lo hi).1], (ai_nw E lo hi).2)
  | .inl (.inr (lo, hi)) => some ([.l (ai_nw E lo hi).1], (ai_nw E lo hi).2)
  | .inr (some k) => some ([.r k], E)
  | .inr none => none
/-- nothing, or a value of one of these kinds -/
def ai_ret (p : Option (List ai_P)) (r : Option Value) : Prop := match p, r with
  | none, none => True
  | some ps, some v => ∃ p ∈ ps, ai_sat p v
  | _, _ => False
/-- the value of a return -/
def ai_rvl (e : ip_E) (st : List ai_A) (E : ai_V) : Option (Option ai_A) := match e.1, st with
  | .ireturn, [.inl (.inl x)] => if e.2.2.2.2.1 = 0 ∨ ai_in E x 0 1 = true then some (some (.i x)) else none
  | .lreturn, [.inl (.inr x)] => some (some (.l x))
  | .areturn, [.inr (.inr (some k))] => some (some (.r k))
  | .return_, [] => some none
  | _, _ => none
def ai_rci (e : ip_E) (as : List ai_A) : Bool := match e.2.2.2.2.1, as with
  | 0, _ => true
  | 3, _ => true
  | _, .inr (.inr (some k)) :: _ => decide ((ai_sh k).1 = 0 ∧ (ai_sh k).2.1 = ip_oc e.2.2.1)
  | _, _ => false
abbrev ai_Fr : Type := Nat × Nat × List ai_A × List ai_A
def ai_find (E : ai_V) (D : List ai_C) (y : Nat) (as : List ai_A) : Option ai_C := D.find? fun d => Nat.beq d.1 y && ai_leL E as d.2.1
def ai_run (T : ai_T) (D : List ai_C) (c : ai_C) (q0 : Option ai_Q3) : Nat → Bool → List ai_Fr → Nat → Nat → List ai_A → List ai_A → ai_V → ai_F → Bool
  | 0, _, _, _, _, _, _, _, _ => false
  | n + 1, first, fr, y, pc, ls, st, E, F =>
    match (if first then none else c.2.2.1.find? fun k => fr.isEmpty && (Nat.beq y c.1 && Nat.beq k.1 pc)) with
    | some k => st.isEmpty && (ai_leL E ls k.2.1 && (ai_leF T E F k.2.2.1 && (match ai_rq3 ls k.2.2.2 with
      | none => false
      | some q => ai_q3in E q && (match q0 with
        | none => true
        | some p => ai_q3lt E q p))))
    | none => match ai_at y pc with
      | none => false
      | some e =>
        if ip_ic e = true then
          decide (e.2.2.2.1 ≤ st.length) && (decide (ai_cw (st.drop e.2.2.2.1) ≤ 8) && (ai_rci e (st.take e.2.2.2.1).reverse && (match ai_ent1 e.2.2.1 (st.take e.2.2.2.1).reverse with
            | none => false
            | some l1 => match ai_find E D e.2.2.1 (st.take e.2.2.2.1).reverse with
              | some d => ai_leW d.2.2.2.2 c.2.2.2.2 && (match d.2.2.2.1 with
                | none => ai_run T D c q0 n false fr y e.2.1 ls (st.drop e.2.2.2.1) E (F.filter fun f => !ai_may d.2.2.2.2 f.1 f.2.1)
                | some ps => ps.all fun p => (match ai_give E p with
                  | none => false
                  | some g => ai_run T D c q0 n false fr y e.2.1 ls (g.1 ++ st.drop e.2.2.2.1) g.2 (F.filter fun f => !ai_may d.2.2.2.2 f.1 f.2.1)))
              | none => ai_run T D c q0 n false ((y, e.2.1, ls, st.drop e.2.2.2.1) :: fr) e.2.2.1 0 l1 [] E F)))
        else match ai_rvl e st E with
          | some a => (match fr with
            | [] => (match a, c.2.2.2.1 with
              | none, none => true
              | some a, some ps => ps.any fun p => ai_leP E a p
              | _, _ => false)
            | f :: fs => ai_run T D c q0 n false fs f.1 f.2.1 f.2.2.1 (a.toList ++ f.2.2.2) E F)
          | none => match ai_step T c.2.2.2.2 e ls st E F with
            | none => false
            | some L => L.all fun s => ai_run T D c q0 n false fr y s.1 s.2.1 s.2.2.1 s.2.2.2.1 s.2.2.2.2
def ai_from (T : ai_T) (D : List ai_C) (c : ai_C) (n : Nat) (k : ai_K) : Bool :=
  match ai_rq3 (ai_mk k.2.1 []).1 k.2.2.2 with
  | none => false
  | some q => ai_run T D c (some q) n true [] c.1 k.1 (ai_mk k.2.1 []).1 [] (ai_mkF k.2.2.1 (ai_mk k.2.1 []).2).2 (ai_mkF k.2.2.1 (ai_mk k.2.1 []).2).1
def ai_chk (T : ai_T) (D : List ai_C) (c : ai_C) (n : Nat) : Bool :=
  (match ai_ent1 c.1 (ai_mk c.2.1 []).1 with
    | none => false
    | some l => ai_run T D c none n true [] c.1 0 l [] (ai_mk c.2.1 []).2 []) && c.2.2.1.all fun k => ai_from T D c n k
/-- what a context says -/
def ai_valid (T : ai_T) (c : ai_C) : Prop := ∀ (X : ip_X) (M : ip_H) (vs : List Value) (K : Option Value → ip_H → Prop), ai_two2 ai_sat c.2.1 vs → ip_G M → ai_inv T M → (∀ r M1, ai_ret c.2.2.2.1 r → ip_G M1 → ai_inv T M1 → ai_fr c.2.2.2.2 M M1 → K r M1) → ip_wp X c.1 0 (ip_ent (ip_ml c.1) vs) [] M K
