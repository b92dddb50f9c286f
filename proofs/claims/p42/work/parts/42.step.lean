-- ONE INSTRUCTION, abstractly
theorem ai_beq (a b : Nat) : Nat.beq a b = (a == b) := by rw [Bool.eq_iff_iff, Nat.beq_eq, beq_iff_eq]
/-- the first of these two places (Nat.beq: the kernel's own) -/
def ai_f2 {β : Type} (k j : Nat) : List (Nat × Nat × β) → Option (Nat × Nat × β)
  | [] => none
  | q :: t => bif Nat.beq q.1 k && Nat.beq q.2.1 j then some q else ai_f2 k j t
theorem ai_f2_eq {β : Type} (k j : Nat) : ∀ l : List (Nat × Nat × β), ai_f2 k j l = l.find? fun q => q.1 == k && q.2.1 == j
  | [] => rfl
  | q :: t => by
    rw [ai_f2, List.find?_cons, ai_f2_eq k j t]
    have e1 := ai_beq q.1 k
    have e2 := ai_beq q.2.1 j
    rw [e1, e2]
    cases (q.1 == k && q.2.1 == j) <;> rfl
def ai_rf (k j : Nat) : Option Nat := (ai_f2 k j ip_rfl).map fun q => q.2.2
theorem ai_rf_eq (k j : Nat) : ai_rf k j = ip_rf0 k j := by unfold ai_rf ip_rf0; rw [ai_f2_eq]
def ai_l1k {β : Type} (k : Nat) : List (Nat × β) → Option β
  | [] => none
  | q :: t => bif Nat.beq k q.1 then some q.2 else ai_l1k k t
theorem ai_l1k_eq {β : Type} (k : Nat) : ∀ l : List (Nat × β), ai_l1k k l = l.lookup k
  | [] => rfl
  | (p, q) :: t => by
    rw [ai_l1k, List.lookup, ai_l1k_eq k t]
    have e1 := ai_beq k p
    simp only
    rw [e1]
    cases (k == p) <;> rfl
def ai_at (y pc : Nat) : Option ip_E := ai_l1k pc (ip_cs.getD y [])
theorem ai_at_eq (y pc : Nat) : ai_at y pc = ip_at y pc := ai_l1k_eq pc _
abbrev ai_T : Type := List (Nat × Nat × Int × Int) × List (Nat × Int × Int)
def ai_TA (T : ai_T) (k : Nat) : Int × Int := match ai_l1k k T.2 with
  | some p => p
  | none => (-2147483648, 2147483647)
def ai_TT (T : ai_T) (k j : Nat) : Int × Int := match ai_f2 k j T.1 with
  | some q => q.2.2
  | none => ai_TA T k
/-- within the bounds of every place of a cell -/
def ai_TI (T : ai_T) (k : Nat) (lo hi : Int) : Bool := decide ((ai_TA T k).1 ≤ lo) && (decide (hi ≤ (ai_TA T k).2) && T.1.all fun q => !Nat.beq q.1 k || (decide (q.2.2.1 ≤ lo) && decide (hi ≤ q.2.2.2)))
/-- within the bounds of the places a .. b of a cell -/
def ai_TJ (T : ai_T) (k : Nat) (a b lo hi : Int) : Bool := decide ((ai_TA T k).1 ≤ lo) && (decide (hi ≤ (ai_TA T k).2) && T.1.all fun q => !Nat.beq q.1 k || (decide ((q.2.1 : Int) < a) || (decide (b < (q.2.1 : Int)) || (decide (q.2.2.1 ≤ lo) && decide (hi ≤ q.2.2.2)))))
def ai_TK (T : ai_T) : Bool := T.1.all fun q => decide ((ai_TA T q.1).1 ≤ q.2.2.1) && decide (q.2.2.2 ≤ (ai_TA T q.1).2)
/-- the ints of the memory are within their bounds -/
def ai_inv (T : ai_T) (M : ip_H) : Prop := ∀ k j, (ai_TT T k j).1 ≤ (M.2.1 k j).toInt ∧ (M.2.1 k j).toInt ≤ (ai_TT T k j).2
def ai_sh (k : Nat) : Nat × Nat × Nat := ip_SH.getD k (2, 0, 0)
def ai_look (F : ai_F) (k j : Nat) : Option ai_L := (ai_f2 k j F).map fun f => f.2.2
def ai_drop (F : ai_F) (k j : Nat) : ai_F := F.filter fun f => !(Nat.beq f.1 k && Nat.beq f.2.1 j)
def ai_dropc (F : ai_F) (k : Nat) : ai_F := F.filter fun f => !Nat.beq f.1 k
abbrev ai_W : Type := List (Nat × Nat) × List Nat
def ai_e1 (k : Nat) : List Nat → Bool
  | [] => false
  | a :: t => bif Nat.beq a k then true else ai_e1 k t
def ai_e2 (k j : Nat) : List (Nat × Nat) → Bool
  | [] => false
  | a :: t => bif Nat.beq a.1 k && Nat.beq a.2 j then true else ai_e2 k j t
theorem ai_bt {a b : Nat} : Nat.beq a b = true ↔ a = b := by rw [ai_beq]; exact beq_iff_eq
theorem ai_bf {a b : Nat} (h : ¬ a = b) : Nat.beq a b = false := by
  cases q : Nat.beq a b with
  | false => rfl
  | true => exact absurd (ai_bt.mp q) h
theorem ai_e1_m (k : Nat) : ∀ l : List Nat, ai_e1 k l = true ↔ k ∈ l
  | [] => ⟨fun h => absurd h Bool.false_ne_true, fun h => by cases h⟩
  | a :: t => by
    show (bif Nat.beq a k then true else ai_e1 k t) = true ↔ k ∈ a :: t
    rw [List.mem_cons, ← ai_e1_m k t]
    by_cases e : a = k
    · rw [ai_bt.mpr e]
      exact ⟨fun _ => Or.inl e.symm, fun _ => rfl⟩
    · rw [ai_bf e]
      exact ⟨fun q => Or.inr q, fun q => q.elim (fun z => absurd z.symm e) id⟩
theorem ai_e2_m (k j : Nat) : ∀ l : List (Nat × Nat), ai_e2 k j l = true ↔ (k, j) ∈ l
  | [] => ⟨fun h => absurd h Bool.false_ne_true, fun h => by cases h⟩
  | (a, b) :: t => by
    show (bif Nat.beq a k && Nat.beq b j then true else ai_e2 k j t) = true ↔ (k, j) ∈ (a, b) :: t
    rw [List.mem_cons, ← ai_e2_m k j t]
    by_cases e : a = k
    · by_cases e2 : b = j
      · rw [ai_bt.mpr e, ai_bt.mpr e2]
        exact ⟨fun _ => Or.inl (by rw [e, e2]), fun _ => rfl⟩
      · rw [ai_bt.mpr e, ai_bf e2]
        exact ⟨fun q => Or.inr q, fun q => q.elim (fun z => absurd (Prod.mk.inj z).2.symm e2) id⟩
    · rw [ai_bf e]
      exact ⟨fun q => Or.inr q, fun q => q.elim (fun z => absurd (Prod.mk.inj z).1.symm e) id⟩
theorem ai_e1_e (k : Nat) (l : List Nat) : ai_e1 k l = l.elem k := Bool.eq_iff_iff.mpr ((ai_e1_m k l).trans List.elem_iff.symm)
theorem ai_e2_e (k j : Nat) (l : List (Nat × Nat)) : ai_e2 k j l = l.elem (k, j) := Bool.eq_iff_iff.mpr ((ai_e2_m k j l).trans List.elem_iff.symm)
def ai_may (W : ai_W) (k j : Nat) : Bool := ai_e2 k j W.1 || ai_e1 k W.2
theorem ai_may_e (W : ai_W) (k j : Nat) : ai_may W k j = (W.1.elem (k, j) || W.2.elem k) := by unfold ai_may; rw [ai_e2_e, ai_e1_e]
def ai_in (E : ai_V) (x : ai_L) (lo hi : Int) : Bool := decide (lo ≤ (ai_iv E x).1) && decide ((ai_iv E x).2 ≤ hi)
def ai_push (nx : Nat) (ls st : List ai_A) (F : ai_F) (w : Bool) (R : ai_L × ai_V) : Option (List ai_S) := some [(nx, ls, (if w then .l R.1 else .i R.1) :: st, R.2, F)]
def ai_ii (st : List ai_A) (f : ai_L → ai_L → List ai_A → Option (List ai_S)) : Option (List ai_S) := match st with
  | .inl (.inl y) :: .inl (.inl x) :: r => f x y r
  | _ => none
def ai_ll (st : List ai_A) (f : ai_L → ai_L → List ai_A → Option (List ai_S)) : Option (List ai_S) := match st with
  | .inl (.inr y) :: .inl (.inr x) :: r => f x y r
  | _ => none
def ai_li (st : List ai_A) (f : ai_L → ai_L → List ai_A → Option (List ai_S)) : Option (List ai_S) := match st with
  | .inl (.inl y) :: .inl (.inr x) :: r => f x y r
  | _ => none
def ai_i1 (st : List ai_A) (f : ai_L → List ai_A → Option (List ai_S)) : Option (List ai_S) := match st with
  | .inl (.inl x) :: r => f x r
  | _ => none
def ai_l1 (st : List ai_A) (f : ai_L → List ai_A → Option (List ai_S)) : Option (List ai_S) := match st with
  | .inl (.inr x) :: r => f x r
  | _ => none
def ai_r1 (st : List ai_A) (f : Nat → List ai_A → Option (List ai_S)) : Option (List ai_S) := match st with
  | .inr (.inr (some k)) :: r => f k r
  | _ => none
def ai_opt (o : Option ai_V) (f : ai_V → ai_S) : List ai_S := match o with
  | none => []
  | some E => [f E]
/-- each number that x can be -/
def ai_fk (E : ai_V) (x : ai_L) (f : Int → ai_V → ai_S) : List ai_S := (List.range ((ai_iv E x).2 - (ai_iv E x).1 + 1).toNat).flatMap fun (j : Nat) => ai_opt (ai_eq E x (none, (ai_iv E x).1 + (j : Int))) fun E1 => f ((ai_iv E x).1 + (j : Int)) E1
def ai_const (v : Value) : Option ai_A := match v with
  | .int q => some (.i (none, q.toInt))
  | .long q => some (.l (none, q.toInt))
  | _ => none
def ai_step (T : ai_T) (W : ai_W) (e : ip_E) (ls st : List ai_A) (E : ai_V) (F : ai_F) : Option (List ai_S) :=
  let nx := e.2.1
  let a := e.2.2.1
  let b := e.2.2.2.1
  let t := e.2.2.2.2.1
  let v := e.2.2.2.2.2.2.1
  let ts := e.2.2.2.2.2.2.2
  let cst : Option (List ai_S) := (ai_const v).map fun c => [(nx, ls, c :: st, E, F)]
  let iload : Option (List ai_S) := match ai_get ls a with
    | .inl (.inl x) => some [(nx, ls, .i x :: st, E, F)]
    | _ => none
  let lload : Option (List ai_S) := match ai_get ls a with
    | .inl (.inr x) => some [(nx, ls, .l x :: st, E, F)]
    | _ => none
  let aload : Option (List ai_S) := match ai_get ls a with
    | .inr (.inr (some x)) => some [(nx, ls, .r x :: st, E, F)]
    | _ => none
  let istore := ai_i1 st fun x r => some [(nx, ai_set1 ls a (.i x), r, E, F)]
  let lstore := ai_l1 st fun x r => some [(nx, ai_set2 ls a (.l x), r, E, F)]
  let astore := ai_r1 st fun x r => some [(nx, ai_set1 ls a (.r x), r, E, F)]
  match e.1 with
  | .iconst _ => cst
  | .bipush _ => cst
  | .sipush _ => cst
  | .lconst _ => cst
  | .ldc _ => cst
  | .ldc_w _ => cst
  | .ldc2_w _ => cst
  | .iload _ => iload
  | .iload_n _ => iload
  | .lload _ => lload
  | .lload_n _ => lload
  | .aload _ => aload
  | .aload_n _ => aload
  | .istore _ => istore
  | .istore_n _ => istore
  | .lstore _ => lstore
  | .lstore_n _ => lstore
  | .astore _ => astore
  | .astore_n _ => astore
  | .iinc _ _ => match ai_get ls a, v with
    | .inl (.inl x), .int c => some [(nx, ai_set1 ls a (.i (ai_add false E x (none, c.toInt)).1), st, (ai_add false E x (none, c.toInt)).2, F)]
    | _, _ => none
  | .iadd => ai_ii st fun x y r => ai_push nx ls r F false (ai_add false E x y)
  | .isub => ai_ii st fun x y r => ai_push nx ls r F false (ai_sub false E x y)
  | .imul => ai_ii st fun x y r => match x.1, y.1 with
    | some _, none => if (ai_iv E x).2 - (ai_iv E x).1 ≤ 7 then some (ai_fk E x fun j E1 => (nx, ls, .i (ai_mul false E1 (none, j) y).1 :: r, (ai_mul false E1 (none, j) y).2, F)) else ai_push nx ls r F false (ai_mul false E x y)
    | none, some _ => if (ai_iv E y).2 - (ai_iv E y).1 ≤ 7 then some (ai_fk E y fun j E1 => (nx, ls, .i (ai_mul false E1 x (none, j)).1 :: r, (ai_mul false E1 x (none, j)).2, F)) else ai_push nx ls r F false (ai_mul false E x y)
    | _, _ => ai_push nx ls r F false (ai_mul false E x y)
  | .idiv => ai_ii st fun x y r => if ai_n0 E y then ai_push nx ls r F false (ai_div false E x y) else none
  | .irem => ai_ii st fun x y r => if ai_n0 E y then ai_push nx ls r F false (ai_rem false E x y) else none
  | .ineg => ai_i1 st fun x r => ai_push nx ls r F false (ai_neg false E x)
  | .iand => ai_ii st fun x y r => ai_push nx ls r F false (ai_and false E x y)
  | .ior => ai_ii st fun x y r => ai_push nx ls r F false (ai_fl false E)
  | .ixor => ai_ii st fun x y r => ai_push nx ls r F false (ai_fl false E)
  | .ishl => ai_ii st fun x y r => ai_push nx ls r F false (ai_fl false E)
  | .ishr => ai_ii st fun x y r => ai_push nx ls r F false (ai_fl false E)
  | .ladd => ai_ll st fun x y r => ai_push nx ls r F true (ai_add true E x y)
  | .lsub => ai_ll st fun x y r => ai_push nx ls r F true (ai_sub true E x y)
  | .lmul => ai_ll st fun x y r => ai_push nx ls r F true (ai_mul true E x y)
  | .ldiv => ai_ll st fun x y r => if ai_n0 E y then ai_push nx ls r F true (ai_div true E x y) else none
  | .lrem => ai_ll st fun x y r => if ai_n0 E y then ai_push nx ls r F true (ai_rem true E x y) else none
  | .lneg => ai_l1 st fun x r => ai_push nx ls r F true (ai_neg true E x)
  | .land => ai_ll st fun x y r => ai_push nx ls r F true (ai_and true E x y)
  | .lor => ai_ll st fun x y r => ai_push nx ls r F true (ai_fl true E)
  | .lxor => ai_ll st fun x y r => ai_push nx ls r F true (ai_fl true E)
  | .lshl => ai_li st fun x y r => ai_push nx ls r F true (ai_fl true E)
  | .lshr => ai_li st fun x y r => ai_push nx ls r F true (ai_fl true E)
  | .lushr => ai_li st fun x y r => ai_push nx ls r F true (ai_fl true E)
  | .lcmp => ai_ll st fun x y r => some [(nx, ls, .c x y :: r, E, F)]
  | .i2l => ai_i1 st fun x r => some [(nx, ls, .l x :: r, E, F)]
  | .l2i => ai_l1 st fun x r => if ai_in E x (-2147483648) 2147483647 then some [(nx, ls, .i x :: r, E, F)] else ai_push nx ls r F false (ai_fl false E)
  | .i2b => ai_i1 st fun x r => if ai_in E x (-128) 127 then some [(nx, ls, .i x :: r, E, F)] else ai_push nx ls r F false (ai_nw E (-128) 127)
  | .goto _ => some [(a, ls, st, E, F)]
  | .ifCond c _ => match st with
    | .inl (.inl x) :: r => some (ai_two c E x (none, 0) a nx ls r F)
    | .inr (.inl (x, y)) :: r => some (ai_two c E x y a nx ls r F)
    | _ => none
  | .if_icmp c _ => ai_ii st fun x y r => some (ai_two c E x y a nx ls r F)
  | .tableswitch _ lo hi _ => ai_i1 st fun x r => some (ai_opt (ai_lt E x (none, lo)) (fun E1 => (a, ls, r, E1, F)) ++ (ai_opt (ai_lt E (none, hi) x) (fun E1 => (a, ls, r, E1, F)) ++ (List.range (hi - lo + 1).toNat).flatMap fun (j : Nat) => ai_opt (ai_eq E x (none, lo + (j : Int))) fun E1 => (ts.getD j a, ls, r, E1, F)))
  | .dup => match st with
    | .inr (.inr (some k)) :: r => some [(nx, ls, .r k :: .r k :: r, E, F)]
    | .inl (.inl k) :: r => some [(nx, ls, .i k :: .i k :: r, E, F)]
    | _ => none
  | .dup2 => match st with
    | .inl (.inl i) :: .inr (.inr (some k)) :: r => some [(nx, ls, .i i :: .r k :: .i i :: .r k :: r, E, F)]
    | _ => none
  | .pop => match st with
    | .inl (.inl _) :: r => some [(nx, ls, r, E, F)]
    | .inr (.inl (_, _)) :: r => some [(nx, ls, r, E, F)]
    | _ => none
  | .getfield _ => ai_r1 st fun k r => if (ai_sh k).1 = 0 ∧ (ai_sh k).2.1 = a then
      (if t = 1 then ai_push nx ls r F true (ai_fl true E)
       else if t = 2 then (if k < 128 ∧ b < 48 then (match ai_rf k b with | some q => some [(nx, ls, .r q :: r, E, F)] | none => none) else none)
       else match ai_look F k b with
         | some x => some [(nx, ls, .i x :: r, E, F)]
         | none => ai_push nx ls r ((k, b, (ai_nw E (ai_TT T k b).1 (ai_TT T k b).2).1) :: F) false (ai_nw E (ai_TT T k b).1 (ai_TT T k b).2)) else none
  | .putfield _ => match st with
    | .inl (.inl x) :: .inr (.inr (some k)) :: r => if (ai_sh k).1 = 0 ∧ (ai_sh k).2.1 = a ∧ (t = 0 ∨ t = 3 ∧ ai_in E x 0 1 = true) ∧ ai_in E x (ai_TT T k b).1 (ai_TT T k b).2 = true ∧ ai_may W k b = true then some [(nx, ls, r, E, (k, b, x) :: ai_drop F k b)] else none
    | .inl (.inr x) :: .inr (.inr (some k)) :: r => if (ai_sh k).1 = 0 ∧ (ai_sh k).2.1 = a ∧ t = 1 ∧ ai_may W (k + 1000) b = true then some [(nx, ls, r, E, F)] else none
    | _ => none
  | .arraylength => ai_r1 st fun k r => if (ai_sh k).1 = 1 ∧ (ai_sh k).2.2 < 2147483648 then some [(nx, ls, .i (none, (ai_sh k).2.2) :: r, E, F)] else none
  | .iaload => match st with
    | .inl (.inl x) :: .inr (.inr (some k)) :: r => if (ai_sh k).1 = 1 ∧ (ai_sh k).2.1 = 0 ∧ ai_in E x 0 ((ai_sh k).2.2 - 1) = true then (match x.1 with
      | none => (match ai_look F k x.2.toNat with
        | some q => some [(nx, ls, .i q :: r, E, F)]
        | none => ai_push nx ls r ((k, x.2.toNat, (ai_nw E (ai_TT T k x.2.toNat).1 (ai_TT T k x.2.toNat).2).1) :: F) false (ai_nw E (ai_TT T k x.2.toNat).1 (ai_TT T k x.2.toNat).2))
      | some _ => ai_push nx ls r F false (ai_nw E (ai_TA T k).1 (ai_TA T k).2)) else none
    | _ => none
  | .baload => match st with
    | .inl (.inl x) :: .inr (.inr (some k)) :: r => if (ai_sh k).1 = 1 ∧ ((ai_sh k).2.1 = 2 ∨ (ai_sh k).2.1 = 3) ∧ ai_in E x 0 ((ai_sh k).2.2 - 1) = true then ai_push nx ls r F false (ai_nw E (ai_TA T k).1 (ai_TA T k).2) else none
    | _ => none
  | .laload => match st with
    | .inl (.inl x) :: .inr (.inr (some k)) :: r => if (ai_sh k).1 = 1 ∧ (ai_sh k).2.1 = 1 ∧ ai_in E x 0 ((ai_sh k).2.2 - 1) = true then ai_push nx ls r F true (ai_fl true E) else none
    | _ => none
  | .aaload => match st with
    | .inl (.inl x) :: .inr (.inr (some k)) :: r => if (ai_sh k).1 = 1 ∧ 4 ≤ (ai_sh k).2.1 ∧ ai_in E x 0 ((ai_sh k).2.2 - 1) = true ∧ k < 128 ∧ (ai_sh k).2.2 ≤ 48 ∧ ((List.range (ai_sh k).2.2).all fun j => (ai_rf k j).isSome) = true then
      some ((List.range (ai_sh k).2.2).flatMap fun (j : Nat) => ai_opt (ai_eq E x (none, (j : Int))) fun E1 => (nx, ls, .r ((ai_rf k j).getD 0) :: r, E1, F)) else none
    | _ => none
  | .iastore => match st with
    | .inl (.inl v) :: .inl (.inl x) :: .inr (.inr (some k)) :: r => if (ai_sh k).1 = 1 ∧ (ai_sh k).2.1 = 0 ∧ ai_in E x 0 ((ai_sh k).2.2 - 1) = true then (match x.1 with
      | none => if ai_in E v (ai_TT T k x.2.toNat).1 (ai_TT T k x.2.toNat).2 = true ∧ ai_may W k x.2.toNat = true then some [(nx, ls, r, E, (k, x.2.toNat, v) :: ai_drop F k x.2.toNat)] else none
      | some _ => if ai_TJ T k (ai_iv E x).1 (ai_iv E x).2 (ai_iv E v).1 (ai_iv E v).2 = true ∧ W.2.elem k = true then some [(nx, ls, r, E, ai_dropc F k)] else none) else none
    | _ => none
  | .lastore => match st with
    | .inl (.inr _) :: .inl (.inl x) :: .inr (.inr (some k)) :: r => if (ai_sh k).1 = 1 ∧ (ai_sh k).2.1 = 1 ∧ ai_in E x 0 ((ai_sh k).2.2 - 1) = true ∧ W.2.elem (k + 1000) = true then some [(nx, ls, r, E, F)] else none
    | _ => none
  | .bastore => match st with
    | .inl (.inl _) :: .inl (.inl x) :: .inr (.inr (some k)) :: r => if (ai_sh k).1 = 1 ∧ ai_in E x 0 ((ai_sh k).2.2 - 1) = true ∧ ((ai_sh k).2.1 = 2 ∧ ai_TI T k (-128) 127 = true ∨ (ai_sh k).2.1 = 3 ∧ ai_TI T k 0 1 = true) ∧ W.2.elem k = true then some [(nx, ls, r, E, ai_dropc F k)] else none
    | _ => none
  | .invokestatic _ => match st with
    | .inl (.inl n) :: .inl (.inl dp) :: .inr (.inr (some k1)) :: .inl (.inl sp) :: .inr (.inr (some k0)) :: r => if t = 7 ∧ r.length ≤ 4 ∧ (ai_sh k0).1 = 1 ∧ (ai_sh k1).1 = 1 ∧ (ai_sh k0).2.1 = (ai_sh k1).2.1 ∧ (ai_sh k0).2.1 < 3 ∧ n.1 = none ∧ dp.1 = none ∧ sp.1 = none ∧ 0 ≤ n.2 ∧ 0 ≤ dp.2 ∧ 0 ≤ sp.2 ∧ sp.2.toNat + n.2.toNat ≤ (ai_sh k0).2.2 ∧ dp.2.toNat + n.2.toNat ≤ (ai_sh k1).2.2 ∧ ((ai_sh k0).2.1 = 1 ∧ W.2.elem (k1 + 1000) = true ∨ ¬ (ai_sh k0).2.1 = 1 ∧ ((ai_sh k0).2.1 = 0 ∨ -128 ≤ (ai_TA T k0).1 ∧ (ai_TA T k0).2 ≤ 127) ∧ ai_TI T k1 (ai_TA T k0).1 (ai_TA T k0).2 = true ∧ W.2.elem k1 = true) then some [(nx, ls, r, E, ai_dropc F k1)] else none
    | _ => none
  | _ => none
