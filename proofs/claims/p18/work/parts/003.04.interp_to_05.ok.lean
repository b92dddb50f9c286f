noncomputable section
-- PART 04.interp
-- THE INTERPRETER: values are the kit's, a reference is the number of a cell (in the order of making), .retAddr 0 the script, .retAddr 1 nothing
abbrev ip_H : Type := List (Nat × Nat × Nat) × (Nat → Nat → Int32) × (Nat → Nat → Int64) × (Nat → Nat → Option Nat)
abbrev ip_X : Type := Nat × (Nat → Int32)
abbrev ip_Z : Type := Nat × List Value × List Value × ip_H
def ip_at (y pc : Nat) : Option ip_E := (ip_cs.getD y []).lookup pc
def ip_me (y : Nat) : ip_MT := (ip_mss.getD (y / 16) []).getD (y % 16) ip_m0
def ip_nm (y : Nat) : MethodName := (ip_me y).1
def ip_by (y : Nat) : ByteArray := (ip_me y).2.1
def ip_ml (y : Nat) : Nat := (ip_me y).2.2.1
def ip_rt (y : Nat) : Option FieldType := (ip_me y).2.2.2.1
def ip_oc (y : Nat) : Nat := (ip_me y).2.2.2.2.1
def ip_fr (y : Nat) : Nat := (ip_me y).2.2.2.2.2.1
def ip_lw (y : Nat) : Nat := (ip_me y).2.2.2.2.2.2.2.2
def ip_get (ls : List Value) (i : Nat) : Value := ls.getD i (.retAddr 1)
def ip_clr (ls : List Value) : Nat → List Value
  | 0 => ls
  | j + 1 => if (ip_get ls j).category = 2 then ls.set j (.retAddr 1) else ls
def ip_set1 (ls : List Value) (i : Nat) (v : Value) : List Value := (ip_clr ls i).set i v
def ip_set2 (ls : List Value) (i : Nat) (v : Value) : List Value := ((ip_clr ls i).set i v).set (i + 1) (.retAddr 1)
/-- the locals with which a method begins -/
def ip_pad (vs : List Value) : List Value := vs.flatMap fun v => if v.category = 2 then [v, .retAddr 1] else [v]
def ip_ent (n : Nat) (vs : List Value) : List Value := ip_pad vs ++ List.replicate (n - (ip_pad vs).length) (.retAddr 1)
-- memory
def ip_uI (M : ip_H) (k j : Nat) (v : Int32) : ip_H := (M.1, (fun a b => if a = k ∧ b = j then v else M.2.1 a b), M.2.2.1, M.2.2.2)
def ip_uL (M : ip_H) (k j : Nat) (v : Int64) : ip_H := (M.1, M.2.1, (fun a b => if a = k ∧ b = j then v else M.2.2.1 a b), M.2.2.2)
def ip_uR (M : ip_H) (k j : Nat) (v : Option Nat) : ip_H := (M.1, M.2.1, M.2.2.1, (fun a b => if a = k ∧ b = j then v else M.2.2.2 a b))
def ip_nw (M : ip_H) (s : Nat × Nat × Nat) : ip_H := (M.1 ++ [s], (fun a b => if a = M.1.length then 0 else M.2.1 a b), (fun a b => if a = M.1.length then 0 else M.2.2.1 a b), (fun a b => if a = M.1.length then none else M.2.2.2 a b))
def ip_sh (M : ip_H) (k : Nat) : Nat × Nat × Nat := M.1.getD k (2, 0, 0)
def ip_cpI (M : ip_H) (k0 k1 sp dp n : Nat) : ip_H := (M.1, (fun a => if a = k1 then va_cpy (M.2.1 k0) (M.2.1 k1) sp dp n else M.2.1 a), M.2.2.1, M.2.2.2)
def ip_cpL (M : ip_H) (k0 k1 sp dp n : Nat) : ip_H := (M.1, M.2.1, (fun a => if a = k1 then va_cpy (M.2.2.1 k0) (M.2.2.1 k1) sp dp n else M.2.2.1 a), M.2.2.2)
def ip_ty : Nat → FieldType
  | 0 => .int
  | 1 => .long
  | 2 => .byte
  | 3 => .boolean
  | 4 => .object RX8
  | _ => .object RX5
def ip_oi : Nat → Nat
  | 4 => 8
  | _ => 5
/-- the script's method -/
def ip_LAW : Nat := 295
def ip_i1 (st : List Value) (f : Int32 → List Value → Option ip_Z) : Option ip_Z := match st with
  | .int x :: r => f x r
  | _ => none
def ip_i2 (st : List Value) (f : Int32 → Int32 → List Value → Option ip_Z) : Option ip_Z := match st with
  | .int y :: .int x :: r => f x y r
  | _ => none
def ip_l1 (st : List Value) (f : Int64 → List Value → Option ip_Z) : Option ip_Z := match st with
  | .long x :: r => f x r
  | _ => none
def ip_l2 (st : List Value) (f : Int64 → Int64 → List Value → Option ip_Z) : Option ip_Z := match st with
  | .long y :: .long x :: r => f x y r
  | _ => none
def ip_li (st : List Value) (f : Int64 → Int32 → List Value → Option ip_Z) : Option ip_Z := match st with
  | .int y :: .long x :: r => f x y r
  | _ => none
def ip_r1 (st : List Value) (f : Nat → List Value → Option ip_Z) : Option ip_Z := match st with
  | .ref k :: r => f k r
  | _ => none
def ip_cd : ClassFile.Cond → Int32 → Int32 → Bool
  | .eq, x, y => decide (x = y)
  | .ne, x, y => !decide (x = y)
  | .lt, x, y => decide (x < y)
  | .ge, x, y => decide (y ≤ x)
  | .gt, x, y => decide (y < x)
  | .le, x, y => decide (x ≤ y)
/-- the value of a reference -/
def ip_vr (o : Option Nat) : Value := match o with
  | none => .null
  | some k => .ref k
/-- an index within -/
def ip_ix (i : Int32) (n : Nat) : Bool := decide (¬ i < 0) && decide (i.toNatClampNeg < n)
def ip_step (y : Nat) (X : ip_X) (e : ip_E) (ls st : List Value) (M : ip_H) : Option ip_Z :=
  let nx := e.2.1
  let a := e.2.2.1
  let b := e.2.2.2.1
  let t := e.2.2.2.2.1
  let v := e.2.2.2.2.2.2.1
  let ts := e.2.2.2.2.2.2.2
  match e.1 with
  | .iconst _ => some (nx, ls, v :: st, M)
  | .bipush _ => some (nx, ls, v :: st, M)
  | .sipush _ => some (nx, ls, v :: st, M)
  | .lconst _ => some (nx, ls, v :: st, M)
  | .ldc _ => some (nx, ls, v :: st, M)
  | .ldc_w _ => some (nx, ls, v :: st, M)
  | .ldc2_w _ => some (nx, ls, v :: st, M)
  | .iload _ => match ip_get ls a with
    | .int x => some (nx, ls, .int x :: st, M)
    | _ => none
  | .iload_n _ => match ip_get ls a with
    | .int x => some (nx, ls, .int x :: st, M)
    | _ => none
  | .lload _ => match ip_get ls a with
    | .long x => some (nx, ls, .long x :: st, M)
    | _ => none
  | .lload_n _ => match ip_get ls a with
    | .long x => some (nx, ls, .long x :: st, M)
    | _ => none
  | .aload _ => match ip_get ls a with
    | .ref x => some (nx, ls, .ref x :: st, M)
    | .retAddr 0 => some (nx, ls, .retAddr 0 :: st, M)
    | _ => none
  | .aload_n _ => match ip_get ls a with
    | .ref x => some (nx, ls, .ref x :: st, M)
    | .retAddr 0 => some (nx, ls, .retAddr 0 :: st, M)
    | _ => none
  | .istore _ => ip_i1 st fun x r => some (nx, ip_set1 ls a (.int x), r, M)
  | .istore_n _ => ip_i1 st fun x r => some (nx, ip_set1 ls a (.int x), r, M)
  | .lstore _ => ip_l1 st fun x r => some (nx, ip_set2 ls a (.long x), r, M)
  | .lstore_n _ => ip_l1 st fun x r => some (nx, ip_set2 ls a (.long x), r, M)
  | .astore _ => ip_r1 st fun x r => some (nx, ip_set1 ls a (.ref x), r, M)
  | .astore_n _ => ip_r1 st fun x r => some (nx, ip_set1 ls a (.ref x), r, M)
  | .iinc _ _ => match ip_get ls a, v with
    | .int x, .int c => some (nx, ip_set1 ls a (.int (x + c)), st, M)
    | _, _ => none
  | .iadd => ip_i2 st fun x y r => some (nx, ls, .int (x + y) :: r, M)
  | .isub => ip_i2 st fun x y r => some (nx, ls, .int (x - y) :: r, M)
  | .imul => ip_i2 st fun x y r => some (nx, ls, .int (x * y) :: r, M)
  | .idiv => ip_i2 st fun x y r => if y = 0 then none else some (nx, ls, .int (x / y) :: r, M)
  | .irem => ip_i2 st fun x y r => if y = 0 then none else some (nx, ls, .int (x - x / y * y) :: r, M)
  | .ineg => ip_i1 st fun x r => some (nx, ls, .int (-x) :: r, M)
  | .iand => ip_i2 st fun x y r => some (nx, ls, .int (x &&& y) :: r, M)
  | .ior => ip_i2 st fun x y r => some (nx, ls, .int (x ||| y) :: r, M)
  | .ixor => ip_i2 st fun x y r => some (nx, ls, .int (x ^^^ y) :: r, M)
  | .ishl => ip_i2 st fun x y r => some (nx, ls, .int (x <<< (y &&& 31)) :: r, M)
  | .ishr => ip_i2 st fun x y r => some (nx, ls, .int (x >>> (y &&& 31)) :: r, M)
  | .ladd => ip_l2 st fun x y r => some (nx, ls, .long (x + y) :: r, M)
  | .lsub => ip_l2 st fun x y r => some (nx, ls, .long (x - y) :: r, M)
  | .lmul => ip_l2 st fun x y r => some (nx, ls, .long (x * y) :: r, M)
  | .ldiv => ip_l2 st fun x y r => if y = 0 then none else some (nx, ls, .long (x / y) :: r, M)
  | .lrem => ip_l2 st fun x y r => if y = 0 then none else some (nx, ls, .long (x - x / y * y) :: r, M)
  | .lneg => ip_l1 st fun x r => some (nx, ls, .long (-x) :: r, M)
  | .land => ip_l2 st fun x y r => some (nx, ls, .long (x &&& y) :: r, M)
  | .lor => ip_l2 st fun x y r => some (nx, ls, .long (x ||| y) :: r, M)
  | .lxor => ip_l2 st fun x y r => some (nx, ls, .long (x ^^^ y) :: r, M)
  | .lshl => ip_li st fun x y r => some (nx, ls, .long (x <<< (y.toInt64 &&& 63)) :: r, M)
  | .lshr => ip_li st fun x y r => some (nx, ls, .long (x >>> (y.toInt64 &&& 63)) :: r, M)
  | .lushr => ip_li st fun x y r => some (nx, ls, .long ((x.toUInt64 >>> (y.toInt64.toUInt64 &&& Int64.toUInt64 63)).toInt64) :: r, M)
  | .lcmp => ip_l2 st fun x y r => some (nx, ls, .int (lg_cmp x y) :: r, M)
  | .i2l => ip_i1 st fun x r => some (nx, ls, .long x.toInt64 :: r, M)
  | .l2i => ip_l1 st fun x r => some (nx, ls, .int x.toInt32 :: r, M)
  | .i2b => ip_i1 st fun x r => some (nx, ls, .int x.toInt8.toInt32 :: r, M)
  | .goto _ => some (a, ls, st, M)
  | .ifCond c _ => ip_i1 st fun x r => some (if ip_cd c x 0 then a else nx, ls, r, M)
  | .if_icmp c _ => ip_i2 st fun x y r => some (if ip_cd c x y then a else nx, ls, r, M)
  | .tableswitch _ lo hi _ => ip_i1 st fun x r => some (if x.toInt < lo ∨ hi < x.toInt then a else ts.getD (x.toInt - lo).toNat a, ls, r, M)
  | .dup => match st with
    | .ref k :: r => some (nx, ls, .ref k :: .ref k :: r, M)
    | .int k :: r => some (nx, ls, .int k :: .int k :: r, M)
    | _ => none
  | .dup2 => match st with
    | .int i :: .ref k :: r => some (nx, ls, .int i :: .ref k :: .int i :: .ref k :: r, M)
    | _ => none
  | .pop => match st with
    | .int _ :: r => some (nx, ls, r, M)
    | _ => none
  | .pop2 => match st with
    | .long _ :: r => some (nx, ls, r, M)
    | _ => none
  | .getfield _ => ip_r1 st fun k r => if (ip_sh M k).1 = 0 ∧ (ip_sh M k).2.1 = a then
      some (nx, ls, (if t = 1 then .long (M.2.2.1 k b) else if t = 2 then ip_vr (M.2.2.2 k b) else .int (M.2.1 k b)) :: r, M) else none
  | .putfield _ => match st with
    | .int x :: .ref k :: r => if (ip_sh M k).1 = 0 ∧ (ip_sh M k).2.1 = a ∧ (t = 0 ∨ t = 3 ∧ (x = 0 ∨ x = 1)) then some (nx, ls, r, ip_uI M k b x) else none
    | .long x :: .ref k :: r => if (ip_sh M k).1 = 0 ∧ (ip_sh M k).2.1 = a ∧ t = 1 then some (nx, ls, r, ip_uL M k b x) else none
    | .ref x :: .ref k :: r => if (ip_sh M k).1 = 0 ∧ (ip_sh M k).2.1 = a ∧ t = 2 then some (nx, ls, r, ip_uR M k b (some x)) else none
    | _ => none
  | .arraylength => match st with
    | .ref k :: r => if (ip_sh M k).1 = 1 then some (nx, ls, .int (Int32.ofNat (ip_sh M k).2.2) :: r, M) else none
    | .retAddr 0 :: r => if y = ip_LAW then some (nx, ls, .int (Int32.ofNat X.1) :: r, M) else none
    | _ => none
  | .iaload => match st with
    | .int i :: .ref k :: r => if (ip_sh M k).1 = 1 ∧ (ip_sh M k).2.1 = 0 ∧ ip_ix i (ip_sh M k).2.2 = true then some (nx, ls, .int (M.2.1 k i.toNatClampNeg) :: r, M) else none
    | .int i :: .retAddr 0 :: r => if y = ip_LAW ∧ ip_ix i X.1 = true then some (nx, ls, .int (X.2 i.toNatClampNeg) :: r, M) else none
    | _ => none
  | .laload => match st with
    | .int i :: .ref k :: r => if (ip_sh M k).1 = 1 ∧ (ip_sh M k).2.1 = 1 ∧ ip_ix i (ip_sh M k).2.2 = true then some (nx, ls, .long (M.2.2.1 k i.toNatClampNeg) :: r, M) else none
    | _ => none
  | .baload => match st with
    | .int i :: .ref k :: r => if (ip_sh M k).1 = 1 ∧ ((ip_sh M k).2.1 = 2 ∨ (ip_sh M k).2.1 = 3) ∧ ip_ix i (ip_sh M k).2.2 = true then some (nx, ls, .int (M.2.1 k i.toNatClampNeg) :: r, M) else none
    | _ => none
  | .aaload => match st with
    | .int i :: .ref k :: r => if (ip_sh M k).1 = 1 ∧ 4 ≤ (ip_sh M k).2.1 ∧ ip_ix i (ip_sh M k).2.2 = true then some (nx, ls, ip_vr (M.2.2.2 k i.toNatClampNeg) :: r, M) else none
    | _ => none
  | .iastore => match st with
    | .int x :: .int i :: .ref k :: r => if (ip_sh M k).1 = 1 ∧ (ip_sh M k).2.1 = 0 ∧ ip_ix i (ip_sh M k).2.2 = true then some (nx, ls, r, ip_uI M k i.toNatClampNeg x) else none
    | _ => none
  | .lastore => match st with
    | .long x :: .int i :: .ref k :: r => if (ip_sh M k).1 = 1 ∧ (ip_sh M k).2.1 = 1 ∧ ip_ix i (ip_sh M k).2.2 = true then some (nx, ls, r, ip_uL M k i.toNatClampNeg x) else none
    | _ => none
  | .bastore => match st with
    | .int x :: .int i :: .ref k :: r => if (ip_sh M k).1 = 1 ∧ ((ip_sh M k).2.1 = 2 ∨ (ip_sh M k).2.1 = 3) ∧ ip_ix i (ip_sh M k).2.2 = true then
        some (nx, ls, r, ip_uI M k i.toNatClampNeg (if (ip_sh M k).2.1 = 2 then x.toInt8.toInt32 else x &&& 1)) else none
    | _ => none
  | .aastore => match st with
    | .ref x :: .int i :: .ref k :: r => if (ip_sh M k).1 = 1 ∧ 4 ≤ (ip_sh M k).2.1 ∧ (ip_sh M x).1 = 0 ∧ (ip_sh M x).2.1 = ip_oi (ip_sh M k).2.1 ∧ ip_ix i (ip_sh M k).2.2 = true then some (nx, ls, r, ip_uR M k i.toNatClampNeg (some x)) else none
    | _ => none
  | .new _ => some (nx, ls, .ref M.1.length :: st, ip_nw M (0, a, b))
  | .newarray _ => ip_i1 st fun n r => if ¬ n < 0 ∧ n.toNatClampNeg ≤ 10000 then some (nx, ls, .ref M.1.length :: r, ip_nw M (1, a, n.toNatClampNeg)) else none
  | .anewarray _ => ip_i1 st fun n r => if ¬ n < 0 ∧ n.toNatClampNeg ≤ 10000 then some (nx, ls, .ref M.1.length :: r, ip_nw M (1, a, n.toNatClampNeg)) else none
  | .invokespecial _ => ip_r1 st fun _ r => if t = 6 ∧ r.length ≤ 4 then some (nx, ls, r, M) else none
  | .invokestatic _ => match st with
    | .int n :: .int dp :: .ref k1 :: .int sp :: .ref k0 :: r =>
      if t = 7 ∧ r.length ≤ 4 ∧ (ip_sh M k0).1 = 1 ∧ (ip_sh M k1).1 = 1 ∧ (ip_sh M k0).2.1 = (ip_sh M k1).2.1 ∧ (ip_sh M k0).2.1 < 3 ∧ ¬ sp < 0 ∧ ¬ dp < 0 ∧ ¬ n < 0 ∧ sp.toNatClampNeg + n.toNatClampNeg ≤ (ip_sh M k0).2.2 ∧ dp.toNatClampNeg + n.toNatClampNeg ≤ (ip_sh M k1).2.2 then
        if (ip_sh M k0).2.1 = 1 then some (nx, ls, r, ip_cpL M k0 k1 sp.toNatClampNeg dp.toNatClampNeg n.toNatClampNeg)
        else if (ip_sh M k0).2.1 = 0 ∨ ∀ i ∈ List.range n.toNatClampNeg, fits .byte (.int (M.2.1 k0 (sp.toNatClampNeg + i))) = true then some (nx, ls, r, ip_cpI M k0 k1 sp.toNatClampNeg dp.toNatClampNeg n.toNatClampNeg)
        else none
      else none
    | _ => none
  | _ => none
/-- is it a call of a method of the tables? -/
def ip_ic (e : ip_E) : Bool := match e.1 with
  | .invokestatic _ => decide (e.2.2.2.2.1 < 6)
  | .invokevirtual _ => true
  | .invokespecial _ => decide (e.2.2.2.2.1 < 6)
  | _ => false
def ip_rv (e : ip_E) (st : List Value) : Option (Option Value) := match e.1, st with
  | .ireturn, [.int x] => if e.2.2.2.2.1 = 0 ∨ x = 0 ∨ x = 1 then some (some (.int x)) else none
  | .lreturn, [.long x] => some (some (.long x))
  | .areturn, [.ref x] => some (some (.ref x))
  | .return_, [] => some none
  | _, _ => none
def ip_size (l : List (Nat × Nat × Nat)) : Nat := (l.map fun s => s.2.2).sum
/-- the receiver of a call; its arguments fit its locals -/
def ip_rc (e : ip_E) (args : List Value) (M : ip_H) : Bool := decide ((ip_pad args).length ≤ ip_ml e.2.2.1) && match e.2.2.2.2.1, args with
  | 0, _ => true
  | 3, _ => true
  | _, .ref k :: _ => decide ((ip_sh M k).1 = 0 ∧ (ip_sh M k).2.1 = ip_oc e.2.2.1)
  | _, _ => false
/-- the words of a stack -/
def ip_cw (st : List Value) : Nat := (st.map fun v => v.category).sum
def ip_exec (X : ip_X) : Nat → Nat → Nat → List Value → List Value → ip_H → Option (Option Value × ip_H)
  | 0, _, _, _, _, _ => none
  | n + 1, y, pc, ls, st, M => match ip_at y pc with
    | none => none
    | some e =>
      if ip_ic e = true then
        if e.2.2.2.1 ≤ st.length ∧ ip_cw (st.drop e.2.2.2.1) ≤ 8 ∧ ip_rc e (st.take e.2.2.2.1).reverse M = true then
          match ip_exec X n e.2.2.1 0 (ip_ent (ip_ml e.2.2.1) (st.take e.2.2.2.1).reverse) [] M with
          | none => none
          | some (r, M1) => ip_exec X n y e.2.1 ls (r.toList ++ st.drop e.2.2.2.1) M1
        else none
      else match ip_rv e st with
        | some r => some (r, M)
        | none => match ip_step y X e ls st M with
          | none => none
          | some z => ip_exec X n y z.1 z.2.1 z.2.2.1 z.2.2.2
theorem ip_mono (X : ip_X) : ∀ (n y pc : Nat) (ls st : List Value) (M : ip_H) (z : Option Value × ip_H), ip_exec X n y pc ls st M = some z → ip_exec X (n + 1) y pc ls st M = some z := by
  intro n
  induction n with
  | zero => intro y pc ls st M z h; cases h
  | succ n ih =>
    intro y pc ls st M z h
    rw [ip_exec] at h ⊢
    split at h
    · cases h
    · rename_i e he
      split at h
      · rename_i hc
        rw [if_pos hc]
        split at h
        · rename_i hg
          rw [if_pos hg]
          split at h
          · cases h
          · rename_i r M1 hx
            rw [ih _ _ _ _ _ _ hx]
            exact ih _ _ _ _ _ _ h
        · cases h
      · rename_i hc
        rw [if_neg hc]
        split at h
        · exact h
        · split at h
          · cases h
          · rename_i w hw
            exact ih _ _ _ _ _ _ h
theorem ip_mono_le (X : ip_X) {n m y pc : Nat} {ls st : List Value} {M : ip_H} {z : Option Value × ip_H} (hnm : n ≤ m) (h : ip_exec X n y pc ls st M = some z) : ip_exec X m y pc ls st M = some z := by
  induction hnm with
  | refl => exact h
  | step _ ih => exact ip_mono X _ _ _ _ _ _ _ ih
end
noncomputable section
-- PART 05.ok
-- WHAT IS CHECKED OF AN ENTRY, by program; the world of the cells
def ip_os (y : Nat) : String := ip_own.getD (ip_oc y) ""
def ip_dc (y pc : Nat) (i : Instr) (len nx : Nat) : Bool := decide (decode (ip_by y) pc = .ok (i, len)) && decide (nx = pc + len)
def ip_tg (pc : Nat) (off : Int) (a : Nat) : Bool := decide ((pc : Int) + off = (a : Int))
def ip_fty (ci j : Nat) : FieldType := (ip_tys.getD ci (fun _ => .int)) j
def ip_kd : FieldType → Nat
  | .int => 0
  | .long => 1
  | .boolean => 3
  | _ => 2
def ip_fin (ci j : Nat) : Bool := match ip_cl[ci]? with
  | some q => (q.2.1 j).2.2.2
  | none => false
def ip_ok (y pc : Nat) (e : ip_E) : Bool :=
  let nx := e.2.1
  let a := e.2.2.1
  let b := e.2.2.2.1
  let t := e.2.2.2.2.1
  let w := e.2.2.2.2.2.1
  let v := e.2.2.2.2.2.2.1
  let ts := e.2.2.2.2.2.2.2
  match e.1 with
  | .iconst n => ip_dc y pc (.iconst n) 1 nx && decide (v = .int (Int32.ofInt n))
  | .bipush n => ip_dc y pc (.bipush n) 2 nx && decide (v = .int (Int8.ofInt n).toInt32)
  | .sipush n => ip_dc y pc (.sipush n) 3 nx && decide (v = .int (Int16.ofInt n).toInt32)
  | .lconst n => ip_dc y pc (.lconst n) 1 nx && decide (v = .long (Int64.ofNat (n : Nat)))
  | .ldc n => ip_dc y pc (.ldc n) 2 nx && (match v with | .int x => decide (lw_tbl[w]? = some (.constant (ip_os y) n x)) | _ => false)
  | .ldc_w n => ip_dc y pc (.ldc_w n) 3 nx && (match v with | .int x => decide (lw_tbl[w]? = some (.constant (ip_os y) n x)) | _ => false)
  | .ldc2_w n => ip_dc y pc (.ldc2_w n) 3 nx && (match v with | .long x => decide (lw_tbl[w]? = some (.constantLong (ip_os y) n x)) | _ => false)
  | .iload n => ip_dc y pc (.iload n) 2 nx && decide (n = a)
  | .lload n => ip_dc y pc (.lload n) 2 nx && decide (n = a)
  | .aload n => ip_dc y pc (.aload n) 2 nx && decide (n = a)
  | .iload_n n => ip_dc y pc (.iload_n n) 1 nx && decide ((n : Nat) = a)
  | .lload_n n => ip_dc y pc (.lload_n n) 1 nx && decide ((n : Nat) = a)
  | .aload_n n => ip_dc y pc (.aload_n n) 1 nx && decide ((n : Nat) = a)
  | .istore n => ip_dc y pc (.istore n) 2 nx && (decide (n = a) && decide (a < ip_ml y))
  | .lstore n => ip_dc y pc (.lstore n) 2 nx && (decide (n = a) && decide (a + 1 < ip_ml y))
  | .astore n => ip_dc y pc (.astore n) 2 nx && (decide (n = a) && decide (a < ip_ml y))
  | .istore_n n => ip_dc y pc (.istore_n n) 1 nx && (decide ((n : Nat) = a) && decide (a < ip_ml y))
  | .lstore_n n => ip_dc y pc (.lstore_n n) 1 nx && (decide ((n : Nat) = a) && decide (a + 1 < ip_ml y))
  | .astore_n n => ip_dc y pc (.astore_n n) 1 nx && (decide ((n : Nat) = a) && decide (a < ip_ml y))
  | .iinc n k => (ip_dc y pc (.iinc n k) 3 nx || ip_dc y pc (.iinc n k) 6 nx) && (decide (n = a) && (decide (a < ip_ml y) && decide (v = .int (Int32.ofInt k))))
  | .goto off => decide (decode (ip_by y) pc = .ok (.goto off, 3)) && ip_tg pc off a
  | .ifCond c off => ip_dc y pc (.ifCond c off) 3 nx && ip_tg pc off a
  | .if_icmp c off => ip_dc y pc (.if_icmp c off) 3 nx && ip_tg pc off a
  | .tableswitch d lo hi offs => decide (decode (ip_by y) pc = .ok (.tableswitch d lo hi offs, t)) && (ip_tg pc d a && (decide (offs.size = ts.length) && (decide ((hi - lo).toNat < ts.length) && (List.range ts.length).all fun i => decide ((pc : Int) + offs.getD i 0 = ((ts.getD i a : Nat) : Int)))))
  | .getfield n => ip_dc y pc (.getfield n) 3 nx && (decide (ip_F[w]? = some (ip_oc y, n, a, b, false) ∨ ip_F[w]? = some (ip_oc y, n, a, b, true)) && (decide (t = ip_kd (ip_fty a b)) && (match ip_cl[a]? with | some q => decide (b < q.2.2) | none => false)))
  | .putfield n => ip_dc y pc (.putfield n) 3 nx && (decide (ip_F[w]? = some (ip_oc y, n, a, b, false) ∨ ip_F[w]? = some (ip_oc y, n, a, b, true)) && (decide (t = ip_kd (ip_fty a b)) && ((match ip_cl[a]? with | some q => decide (b < q.2.2) | none => false) &&
      (!(ip_fin a b) || (decide ((ip_nm y).name = "<init>") && (decide (ip_oc y = a) && decide (ip_F[w]? = some (ip_oc y, n, a, b, false))))))))
  | .new n => ip_dc y pc (.new n) 3 nx && (match ip_cl[a]? with | some q => decide (q.2.2 = b) && (decide (.classLink (ip_os y) n q.1 ∈ lw_tbl) && (decide (.instantiable q.1 q.2.2 ∈ lw_tbl) && decide (.initialized q.1 ∈ lw_tbl))) | none => false)
  | .newarray n => ip_dc y pc (.newarray n) 2 nx && (decide (newarray.typeOf n = ip_ty a) && (decide (a < 4) && decide (.arrayClass (ip_ty a) ∈ lw_tbl)))
  | .anewarray n => ip_dc y pc (.anewarray n) 3 nx && ((decide (a = 4) || decide (a = 5)) && decide (.classLink (ip_os y) n (if a = 4 then RX8 else RX5) ∈ lw_tbl))
  | .invokestatic n => ip_dc y pc (.invokestatic n) 3 nx && (if t = 7 then decide (.methodLink (ip_os y) n arraycopyName ∈ lw_tbl) && (decide (1 ≤ ip_fr y) && decide (8 + (nativeFrameWords "java/lang/System" "arraycopy" 5 + 11) ≤ ip_lw y)) else
      (decide (t = 0 ∨ t = 3) && (decide (ip_K[w]? = some (ip_oc y, n, a, t)) && (decide ((parseMethodDescriptor (ip_nm a).desc).map (fun d => d.parameters.length) = some b) && (decide (ip_fr a + 1 ≤ ip_fr y) && decide (8 + (ip_ml a + 11) + ip_lw a ≤ ip_lw y))))))
  | .invokevirtual n => ip_dc y pc (.invokevirtual n) 3 nx && (decide (t = 1 ∨ t = 4) && (decide (ip_K[w]? = some (ip_oc y, n, a, t)) && (decide ((parseMethodDescriptor (ip_nm a).desc).map (fun d => d.parameters.length + 1) = some b) && (decide (ip_fr a + 1 ≤ ip_fr y) && decide (8 + (ip_ml a + 11) + ip_lw a ≤ ip_lw y)))))
  | .invokespecial n => ip_dc y pc (.invokespecial n) 3 nx && (if t = 6 then decide (.methodLink (ip_os y) n Lib.objectInit ∈ lw_tbl) && (decide (1 ≤ ip_fr y) && decide (20 ≤ ip_lw y)) else
      (decide (t = 2 ∨ t = 5) && (decide (ip_K[w]? = some (ip_oc y, n, a, t)) && (decide ((parseMethodDescriptor (ip_nm a).desc).map (fun d => d.parameters.length + 1) = some b) && (decide (ip_fr a + 1 ≤ ip_fr y) && (decide (8 + (ip_ml a + 11) + ip_lw a ≤ ip_lw y) && (decide ((ip_nm a).name = "<init>") && decide (ip_rt a = none))))))))
  | .ireturn => ip_dc y pc .ireturn 1 nx && decide ((t = 0 ∧ ip_rt y = some .int) ∨ (t = 3 ∧ ip_rt y = some .boolean))
  | .lreturn => ip_dc y pc .lreturn 1 nx && decide (ip_rt y = some .long)
  | .areturn => ip_dc y pc .areturn 1 nx && (match ip_rt y with | some (.object _) => true | _ => false)
  | .return_ => ip_dc y pc .return_ 1 nx && decide (ip_rt y = none)
  | i => ip_dc y pc i 1 nx
def ip_isN : Cond → Bool
  | .fieldLinkNest .. => true
  | .methodLinkNest .. => true
  | _ => false
def ip_gw (w : Cond) : Bool := goodWord w || ip_isN w
end
