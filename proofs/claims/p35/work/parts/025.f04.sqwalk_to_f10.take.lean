noncomputable section
-- PART c13yf04.sqwalk
-- equations of the instructions, by program counter
theorem ip_a64 (pc : Nat) : ip_at 64 pc = ip_c64.lookup pc := rfl
theorem w64_0 (X : ip_X) (ls st : List Value) (M : ip_H) (K : Option Value → ip_H → Prop) : ip_wp X 64 0 ls st M K = ip_ka (ip_get ls 0) (fun x => ip_wp X 64 1 ls (x :: st) M K) := wp_aload_n ((ip_a64 0).trans rfl)
theorem w64_1 (X : ip_X) (ls st : List Value) (M : ip_H) (K : Option Value → ip_H → Prop) : ip_wp X 64 1 ls st M K = ip_wp X 64 2 ls (.int 0 :: st) M K := wp_iconst ((ip_a64 1).trans rfl)
theorem w64_2 (X : ip_X) (ls st : List Value) (M : ip_H) (K : Option Value → ip_H → Prop) : ip_wp X 64 2 ls st M K = ip_wp X 64 3 ls (.long 1 :: st) M K := wp_lconst ((ip_a64 2).trans rfl)
theorem w64_3 (X : ip_X) (ls st : List Value) (M : ip_H) (K : Option Value → ip_H → Prop) : ip_wp X 64 3 ls st M K = ip_wp X 64 4 ls (.long 0 :: st) M K := wp_lconst ((ip_a64 3).trans rfl)
theorem w64_4 (X : ip_X) (ls st : List Value) (M : ip_H) (K : Option Value → ip_H → Prop) : ip_wp X 64 4 ls st M K = ip_wp X 64 5 ls (.long 0 :: st) M K := wp_lconst ((ip_a64 4).trans rfl)
theorem w64_5 (X : ip_X) (ls st : List Value) (M : ip_H) (K : Option Value → ip_H → Prop) (k : Nat) (x0 : Int32) (x1 : Int64) (x2 : Int64) (x3 : Int64) (h0 : st.length ≤ 4) (h1 : (ip_sh M k).1 = 0) (h2 : (ip_sh M k).2.1 = 4) : ip_wp X 64 5 ls (.long x3 :: .long x2 :: .long x1 :: .int x0 :: .ref k :: st) M K = ip_wp X 63 0 [.ref k, .int x0, .long x1, .retAddr 1, .long x2, .retAddr 1, .long x3, .retAddr 1] [] M (fun r M1 => ip_wp X 64 8 ls (r.toList ++ st) M1 K) := (wp_callV1_5 ((ip_a64 5).trans rfl) ⟨h0, by exact Nat.le_of_ble_eq_true rfl, h1, h2⟩)
theorem w64_8 (X : ip_X) (ls st : List Value) (M : ip_H) (K : Option Value → ip_H → Prop) : ip_wp X 64 8 ls st M K = ip_ka (ip_get ls 0) (fun x => ip_wp X 64 9 ls (x :: st) M K) := wp_aload_n ((ip_a64 8).trans rfl)
theorem w64_9 (X : ip_X) (ls st : List Value) (M : ip_H) (K : Option Value → ip_H → Prop) : ip_wp X 64 9 ls st M K = ip_wp X 64 10 ls (.int 1 :: st) M K := wp_iconst ((ip_a64 9).trans rfl)
theorem w64_10 (X : ip_X) (ls st : List Value) (M : ip_H) (K : Option Value → ip_H → Prop) : ip_wp X 64 10 ls st M K = ip_wp X 64 11 ls (.long 0 :: st) M K := wp_lconst ((ip_a64 10).trans rfl)
theorem w64_11 (X : ip_X) (ls st : List Value) (M : ip_H) (K : Option Value → ip_H → Prop) : ip_wp X 64 11 ls st M K = ip_wp X 64 12 ls (.long 1 :: st) M K := wp_lconst ((ip_a64 11).trans rfl)
theorem w64_12 (X : ip_X) (ls st : List Value) (M : ip_H) (K : Option Value → ip_H → Prop) : ip_wp X 64 12 ls st M K = ip_wp X 64 13 ls (.long 0 :: st) M K := wp_lconst ((ip_a64 12).trans rfl)
theorem w64_13 (X : ip_X) (ls st : List Value) (M : ip_H) (K : Option Value → ip_H → Prop) (k : Nat) (x0 : Int32) (x1 : Int64) (x2 : Int64) (x3 : Int64) (h0 : st.length ≤ 4) (h1 : (ip_sh M k).1 = 0) (h2 : (ip_sh M k).2.1 = 4) : ip_wp X 64 13 ls (.long x3 :: .long x2 :: .long x1 :: .int x0 :: .ref k :: st) M K = ip_wp X 63 0 [.ref k, .int x0, .long x1, .retAddr 1, .long x2, .retAddr 1, .long x3, .retAddr 1] [] M (fun r M1 => ip_wp X 64 16 ls (r.toList ++ st) M1 K) := (wp_callV1_5 ((ip_a64 13).trans rfl) ⟨h0, by exact Nat.le_of_ble_eq_true rfl, h1, h2⟩)
theorem w64_16 (X : ip_X) (ls st : List Value) (M : ip_H) (K : Option Value → ip_H → Prop) : ip_wp X 64 16 ls st M K = ip_ka (ip_get ls 0) (fun x => ip_wp X 64 17 ls (x :: st) M K) := wp_aload_n ((ip_a64 16).trans rfl)
theorem w64_17 (X : ip_X) (ls st : List Value) (M : ip_H) (K : Option Value → ip_H → Prop) : ip_wp X 64 17 ls st M K = ip_wp X 64 18 ls (.int 2 :: st) M K := wp_iconst ((ip_a64 17).trans rfl)
theorem w64_18 (X : ip_X) (ls st : List Value) (M : ip_H) (K : Option Value → ip_H → Prop) : ip_wp X 64 18 ls st M K = ip_wp X 64 19 ls (.long 0 :: st) M K := wp_lconst ((ip_a64 18).trans rfl)
theorem w64_19 (X : ip_X) (ls st : List Value) (M : ip_H) (K : Option Value → ip_H → Prop) : ip_wp X 64 19 ls st M K = ip_wp X 64 20 ls (.long 0 :: st) M K := wp_lconst ((ip_a64 19).trans rfl)
theorem w64_20 (X : ip_X) (ls st : List Value) (M : ip_H) (K : Option Value → ip_H → Prop) : ip_wp X 64 20 ls st M K = ip_wp X 64 21 ls (.long 1 :: st) M K := wp_lconst ((ip_a64 20).trans rfl)
theorem w64_21 (X : ip_X) (ls st : List Value) (M : ip_H) (K : Option Value → ip_H → Prop) (k : Nat) (x0 : Int32) (x1 : Int64) (x2 : Int64) (x3 : Int64) (h0 : st.length ≤ 4) (h1 : (ip_sh M k).1 = 0) (h2 : (ip_sh M k).2.1 = 4) : ip_wp X 64 21 ls (.long x3 :: .long x2 :: .long x1 :: .int x0 :: .ref k :: st) M K = ip_wp X 63 0 [.ref k, .int x0, .long x1, .retAddr 1, .long x2, .retAddr 1, .long x3, .retAddr 1] [] M (fun r M1 => ip_wp X 64 24 ls (r.toList ++ st) M1 K) := (wp_callV1_5 ((ip_a64 21).trans rfl) ⟨h0, by exact Nat.le_of_ble_eq_true rfl, h1, h2⟩)
theorem w64_24 (X : ip_X) (ls : List Value) (M : ip_H) (K : Option Value → ip_H → Prop) : ip_wp X 64 24 ls [] M K = K none M := wp_vret ((ip_a64 24).trans rfl)
theorem ip_a65 (pc : Nat) : ip_at 65 pc = ip_c65.lookup pc := rfl
theorem w65_0 (X : ip_X) (ls st : List Value) (M : ip_H) (K : Option Value → ip_H → Prop) : ip_wp X 65 0 ls st M K = ip_ka (ip_get ls 1) (fun x => ip_wp X 65 1 ls (x :: st) M K) := wp_aload_n ((ip_a65 0).trans rfl)
theorem w65_1 (X : ip_X) (ls st : List Value) (M : ip_H) (K : Option Value → ip_H → Prop) (k : Nat) (h0 : (ip_sh M k).1 = 0) (h1 : (ip_sh M k).2.1 = 4) : ip_wp X 65 1 ls (.ref k :: st) M K = ip_wp X 65 4 ls (ip_vr (M.2.2.2 k 0) :: st) M K := (wp_getR ((ip_a65 1).trans rfl)).trans (if_pos ⟨h0, h1⟩)
theorem w65_4 (X : ip_X) (ls st : List Value) (M : ip_H) (K : Option Value → ip_H → Prop) : ip_wp X 65 4 ls st M K = ip_wp X 65 5 ls (.int 0 :: st) M K := wp_iconst ((ip_a65 4).trans rfl)
theorem w65_5 (X : ip_X) (ls st : List Value) (M : ip_H) (K : Option Value → ip_H → Prop) : ip_wp X 65 5 ls st M K = ip_ka (ip_get ls 0) (fun x => ip_wp X 65 6 ls (x :: st) M K) := wp_aload_n ((ip_a65 5).trans rfl)
theorem w65_6 (X : ip_X) (ls st : List Value) (M : ip_H) (K : Option Value → ip_H → Prop) (k : Nat) (h0 : (ip_sh M k).1 = 0) (h1 : (ip_sh M k).2.1 = 4) : ip_wp X 65 6 ls (.ref k :: st) M K = ip_wp X 65 9 ls (ip_vr (M.2.2.2 k 0) :: st) M K := (wp_getR ((ip_a65 6).trans rfl)).trans (if_pos ⟨h0, h1⟩)
theorem w65_9 (X : ip_X) (ls st : List Value) (M : ip_H) (K : Option Value → ip_H → Prop) : ip_wp X 65 9 ls st M K = ip_wp X 65 10 ls (.int 0 :: st) M K := wp_iconst ((ip_a65 9).trans rfl)
theorem w65_10 (X : ip_X) (ls st : List Value) (M : ip_H) (K : Option Value → ip_H → Prop) : ip_wp X 65 10 ls st M K = ip_wp X 65 12 ls (.int 9 :: st) M K := wp_bipush ((ip_a65 10).trans rfl)
theorem w65_12 (X : ip_X) (ls st : List Value) (M : ip_H) (K : Option Value → ip_H → Prop) (n dp sp : Int32) (k0 k1 : Nat) (h0 : st.length ≤ 4) (h1 : (ip_sh M k0).1 = 1 ∧ (ip_sh M k1).1 = 1 ∧ (ip_sh M k0).2.1 = (ip_sh M k1).2.1 ∧ (ip_sh M k0).2.1 < 3) (h2 : ¬ sp < 0 ∧ ¬ dp < 0 ∧ ¬ n < 0 ∧ sp.toNatClampNeg + n.toNatClampNeg ≤ (ip_sh M k0).2.2 ∧ dp.toNatClampNeg + n.toNatClampNeg ≤ (ip_sh M k1).2.2) (h3 : (ip_sh M k0).2.1 < 2 ∨ ∀ i, i < n.toNatClampNeg → fits .byte (.int (M.2.1 k0 (sp.toNatClampNeg + i))) = true) : ip_wp X 65 12 ls (.int n :: .int dp :: .ref k1 :: .int sp :: .ref k0 :: st) M K = ip_wp X 65 15 ls st (if (ip_sh M k0).2.1 = 1 then ip_cpL M k0 k1 sp.toNatClampNeg dp.toNatClampNeg n.toNatClampNeg else ip_cpI M k0 k1 sp.toNatClampNeg dp.toNatClampNeg n.toNatClampNeg) K := wp_copy ((ip_a65 12).trans rfl) h0 h1 h2 h3
theorem w65_15 (X : ip_X) (ls : List Value) (M : ip_H) (K : Option Value → ip_H → Prop) : ip_wp X 65 15 ls [] M K = K none M := wp_vret ((ip_a65 15).trans rfl)
theorem ip_a66 (pc : Nat) : ip_at 66 pc = ip_c66.lookup pc := rfl
theorem ip_s66 : lk_s 0 ip_c66 = true := by decide +kernel
theorem ip_l66_0 : ip_d66_0.length = 24 := rfl
theorem ip_l66_1 : ip_d66_1.length = 24 := rfl
theorem ip_f66_0 {k pc : Nat} {e : ip_E} (h : ip_d66_0[k]? = some (pc, e)) : ip_c66.lookup pc = some e := lk_of ip_s66 (lk_apl h)
theorem ip_f66_1 {k pc : Nat} {e : ip_E} (h : ip_d66_1[k]? = some (pc, e)) : ip_c66.lookup pc = some e := lk_of ip_s66 (lk_app ip_l66_0 (lk_apl h))
theorem ip_f66_2 {k pc : Nat} {e : ip_E} (h : ip_d66_2[k]? = some (pc, e)) : ip_c66.lookup pc = some e := lk_of ip_s66 (lk_app ip_l66_0 (lk_app ip_l66_1 h))
theorem w66_0 (X : ip_X) (ls st : List Value) (M : ip_H) (K : Option Value → ip_H → Prop) : ip_wp X 66 0 ls st M K = ip_wp X 66 1 ls (.int 0 :: st) M K := wp_iconst ((ip_a66 0).trans (ip_f66_0 (k := 0) rfl))
theorem w66_1 (X : ip_X) (ls st : List Value) (M : ip_H) (K : Option Value → ip_H → Prop) (x : Int32) : ip_wp X 66 1 ls (.int x :: st) M K = ip_wp X 66 3 (ip_set1 ls 4 (.int x)) st M K := wp_istore ((ip_a66 1).trans (ip_f66_0 (k := 1) rfl))
theorem w66_3 (X : ip_X) (ls st : List Value) (M : ip_H) (K : Option Value → ip_H → Prop) : ip_wp X 66 3 ls st M K = ip_ki (ip_get ls 4) (fun x => ip_wp X 66 5 ls (.int x :: st) M K) := wp_iload ((ip_a66 3).trans (ip_f66_0 (k := 2) rfl))
theorem w66_5 (X : ip_X) (ls st : List Value) (M : ip_H) (K : Option Value → ip_H → Prop) : ip_wp X 66 5 ls st M K = ip_wp X 66 7 ls (.int 9 :: st) M K := wp_bipush ((ip_a66 5).trans (ip_f66_0 (k := 3) rfl))
theorem w66_7 (X : ip_X) (ls st : List Value) (M : ip_H) (K : Option Value → ip_H → Prop) (x q : Int32) : ip_wp X 66 7 ls (.int q :: .int x :: st) M K = if x < q then ip_wp X 66 10 ls st M K else ip_wp X 66 114 ls st M K := wp_if_icmp_ge ((ip_a66 7).trans (ip_f66_0 (k := 4) rfl))
theorem w66_10 (X : ip_X) (ls st : List Value) (M : ip_H) (K : Option Value → ip_H → Prop) : ip_wp X 66 10 ls st M K = ip_ka (ip_get ls 0) (fun x => ip_wp X 66 11 ls (x :: st) M K) := wp_aload_n ((ip_a66 10).trans (ip_f66_0 (k := 5) rfl))
theorem w66_11 (X : ip_X) (ls st : List Value) (M : ip_H) (K : Option Value → ip_H → Prop) (k : Nat) (h0 : (ip_sh M k).1 = 0) (h1 : (ip_sh M k).2.1 = 4) : ip_wp X 66 11 ls (.ref k :: st) M K = ip_wp X 66 14 ls (ip_vr (M.2.2.2 k 0) :: st) M K := (wp_getR ((ip_a66 11).trans (ip_f66_0 (k := 6) rfl))).trans (if_pos ⟨h0, h1⟩)
theorem w66_14 (X : ip_X) (ls st : List Value) (M : ip_H) (K : Option Value → ip_H → Prop) : ip_wp X 66 14 ls st M K = ip_ki (ip_get ls 4) (fun x => ip_wp X 66 16 ls (.int x :: st) M K) := wp_iload ((ip_a66 14).trans (ip_f66_0 (k := 7) rfl))
theorem w66_16 (X : ip_X) (ls st : List Value) (M : ip_H) (K : Option Value → ip_H → Prop) (i : Int32) (k : Nat) (h0 : (ip_sh M k).1 = 1) (h1 : (ip_sh M k).2.1 = 1) (h2 : ip_ix i (ip_sh M k).2.2 = true) : ip_wp X 66 16 ls (.int i :: .ref k :: st) M K = ip_wp X 66 17 ls (.long (M.2.2.1 k i.toNatClampNeg) :: st) M K := (wp_laload ((ip_a66 16).trans (ip_f66_0 (k := 8) rfl))).trans (if_pos ⟨h0, h1, h2⟩)
theorem w66_17 (X : ip_X) (ls st : List Value) (M : ip_H) (K : Option Value → ip_H → Prop) (x : Int64) : ip_wp X 66 17 ls (.long x :: st) M K = ip_wp X 66 19 (ip_set2 ls 5 (.long x)) st M K := wp_lstore ((ip_a66 17).trans (ip_f66_0 (k := 9) rfl))
theorem w66_19 (X : ip_X) (ls st : List Value) (M : ip_H) (K : Option Value → ip_H → Prop) : ip_wp X 66 19 ls st M K = ip_ka (ip_get ls 0) (fun x => ip_wp X 66 20 ls (x :: st) M K) := wp_aload_n ((ip_a66 19).trans (ip_f66_0 (k := 10) rfl))
theorem w66_20 (X : ip_X) (ls st : List Value) (M : ip_H) (K : Option Value → ip_H → Prop) (k : Nat) (h0 : (ip_sh M k).1 = 0) (h1 : (ip_sh M k).2.1 = 4) : ip_wp X 66 20 ls (.ref k :: st) M K = ip_wp X 66 23 ls (ip_vr (M.2.2.2 k 0) :: st) M K := (wp_getR ((ip_a66 20).trans (ip_f66_0 (k := 11) rfl))).trans (if_pos ⟨h0, h1⟩)
theorem w66_23 (X : ip_X) (ls st : List Value) (M : ip_H) (K : Option Value → ip_H → Prop) : ip_wp X 66 23 ls st M K = ip_ki (ip_get ls 4) (fun x => ip_wp X 66 25 ls (.int x :: st) M K) := wp_iload ((ip_a66 23).trans (ip_f66_0 (k := 12) rfl))
theorem w66_25 (X : ip_X) (ls st : List Value) (M : ip_H) (K : Option Value → ip_H → Prop) : ip_wp X 66 25 ls st M K = ip_wp X 66 26 ls (.int 1 :: st) M K := wp_iconst ((ip_a66 25).trans (ip_f66_0 (k := 13) rfl))
theorem w66_26 (X : ip_X) (ls st : List Value) (M : ip_H) (K : Option Value → ip_H → Prop) (x q : Int32) : ip_wp X 66 26 ls (.int q :: .int x :: st) M K = ip_wp X 66 27 ls (.int (x + q) :: st) M K := wp_iadd ((ip_a66 26).trans (ip_f66_0 (k := 14) rfl))
theorem w66_27 (X : ip_X) (ls st : List Value) (M : ip_H) (K : Option Value → ip_H → Prop) (i : Int32) (k : Nat) (h0 : (ip_sh M k).1 = 1) (h1 : (ip_sh M k).2.1 = 1) (h2 : ip_ix i (ip_sh M k).2.2 = true) : ip_wp X 66 27 ls (.int i :: .ref k :: st) M K = ip_wp X 66 28 ls (.long (M.2.2.1 k i.toNatClampNeg) :: st) M K := (wp_laload ((ip_a66 27).trans (ip_f66_0 (k := 15) rfl))).trans (if_pos ⟨h0, h1, h2⟩)
theorem w66_28 (X : ip_X) (ls st : List Value) (M : ip_H) (K : Option Value → ip_H → Prop) (x : Int64) : ip_wp X 66 28 ls (.long x :: st) M K = ip_wp X 66 30 (ip_set2 ls 7 (.long x)) st M K := wp_lstore ((ip_a66 28).trans (ip_f66_0 (k := 16) rfl))
theorem w66_30 (X : ip_X) (ls st : List Value) (M : ip_H) (K : Option Value → ip_H → Prop) : ip_wp X 66 30 ls st M K = ip_ka (ip_get ls 0) (fun x => ip_wp X 66 31 ls (x :: st) M K) := wp_aload_n ((ip_a66 30).trans (ip_f66_0 (k := 17) rfl))
theorem w66_31 (X : ip_X) (ls st : List Value) (M : ip_H) (K : Option Value → ip_H → Prop) (k : Nat) (h0 : (ip_sh M k).1 = 0) (h1 : (ip_sh M k).2.1 = 4) : ip_wp X 66 31 ls (.ref k :: st) M K = ip_wp X 66 34 ls (ip_vr (M.2.2.2 k 0) :: st) M K := (wp_getR ((ip_a66 31).trans (ip_f66_0 (k := 18) rfl))).trans (if_pos ⟨h0, h1⟩)
theorem w66_34 (X : ip_X) (ls st : List Value) (M : ip_H) (K : Option Value → ip_H → Prop) : ip_wp X 66 34 ls st M K = ip_ki (ip_get ls 4) (fun x => ip_wp X 66 36 ls (.int x :: st) M K) := wp_iload ((ip_a66 34).trans (ip_f66_0 (k := 19) rfl))
theorem w66_36 (X : ip_X) (ls st : List Value) (M : ip_H) (K : Option Value → ip_H → Prop) : ip_wp X 66 36 ls st M K = ip_wp X 66 37 ls (.int 2 :: st) M K := wp_iconst ((ip_a66 36).trans (ip_f66_0 (k := 20) rfl))
theorem w66_37 (X : ip_X) (ls st : List Value) (M : ip_H) (K : Option Value → ip_H → Prop) (x q : Int32) : ip_wp X 66 37 ls (.int q :: .int x :: st) M K = ip_wp X 66 38 ls (.int (x + q) :: st) M K := wp_iadd ((ip_a66 37).trans (ip_f66_0 (k := 21) rfl))
theorem w66_38 (X : ip_X) (ls st : List Value) (M : ip_H) (K : Option Value → ip_H → Prop) (i : Int32) (k : Nat) (h0 : (ip_sh M k).1 = 1) (h1 : (ip_sh M k).2.1 = 1) (h2 : ip_ix i (ip_sh M k).2.2 = true) : ip_wp X 66 38 ls (.int i :: .ref k :: st) M K = ip_wp X 66 39 ls (.long (M.2.2.1 k i.toNatClampNeg) :: st) M K := (wp_laload ((ip_a66 38).trans (ip_f66_0 (k := 22) rfl))).trans (if_pos ⟨h0, h1, h2⟩)
theorem w66_39 (X : ip_X) (ls st : List Value) (M : ip_H) (K : Option Value → ip_H → Prop) (x : Int64) : ip_wp X 66 39 ls (.long x :: st) M K = ip_wp X 66 41 (ip_set2 ls 9 (.long x)) st M K := wp_lstore ((ip_a66 39).trans (ip_f66_0 (k := 23) rfl))
theorem w66_41 (X : ip_X) (ls st : List Value) (M : ip_H) (K : Option Value → ip_H → Prop) : ip_wp X 66 41 ls st M K = ip_ka (ip_get ls 0) (fun x => ip_wp X 66 42 ls (x :: st) M K) := wp_aload_n ((ip_a66 41).trans (ip_f66_1 (k := 0) rfl))
theorem w66_42 (X : ip_X) (ls st : List Value) (M : ip_H) (K : Option Value → ip_H → Prop) (k : Nat) (h0 : (ip_sh M k).1 = 0) (h1 : (ip_sh M k).2.1 = 4) : ip_wp X 66 42 ls (.ref k :: st) M K = ip_wp X 66 45 ls (ip_vr (M.2.2.2 k 0) :: st) M K := (wp_getR ((ip_a66 42).trans (ip_f66_1 (k := 1) rfl))).trans (if_pos ⟨h0, h1⟩)
theorem w66_45 (X : ip_X) (ls st : List Value) (M : ip_H) (K : Option Value → ip_H → Prop) : ip_wp X 66 45 ls st M K = ip_ki (ip_get ls 4) (fun x => ip_wp X 66 47 ls (.int x :: st) M K) := wp_iload ((ip_a66 45).trans (ip_f66_1 (k := 2) rfl))
theorem w66_47 (X : ip_X) (ls st : List Value) (M : ip_H) (K : Option Value → ip_H → Prop) : ip_wp X 66 47 ls st M K = ip_ki (ip_get ls 3) (fun x => ip_wp X 66 48 ls (.int x :: st) M K) := wp_iload_n ((ip_a66 47).trans (ip_f66_1 (k := 3) rfl))
theorem w66_48 (X : ip_X) (ls st : List Value) (M : ip_H) (K : Option Value → ip_H → Prop) (x : Int32) : ip_wp X 66 48 ls (.int x :: st) M K = if x = 0 then ip_wp X 66 56 ls st M K else ip_wp X 66 51 ls st M K := wp_ifCond_eq ((ip_a66 48).trans (ip_f66_1 (k := 4) rfl))
theorem w66_51 (X : ip_X) (ls st : List Value) (M : ip_H) (K : Option Value → ip_H → Prop) : ip_wp X 66 51 ls st M K = ip_kl (ip_get ls 9) (fun x => ip_wp X 66 53 ls (.long x :: st) M K) := wp_lload ((ip_a66 51).trans (ip_f66_1 (k := 5) rfl))
theorem w66_53 (X : ip_X) (ls st : List Value) (M : ip_H) (K : Option Value → ip_H → Prop) : ip_wp X 66 53 ls st M K = ip_wp X 66 58 ls st M K := wp_goto ((ip_a66 53).trans (ip_f66_1 (k := 6) rfl))
theorem w66_56 (X : ip_X) (ls st : List Value) (M : ip_H) (K : Option Value → ip_H → Prop) : ip_wp X 66 56 ls st M K = ip_kl (ip_get ls 7) (fun x => ip_wp X 66 58 ls (.long x :: st) M K) := wp_lload ((ip_a66 56).trans (ip_f66_1 (k := 7) rfl))
theorem w66_58 (X : ip_X) (ls st : List Value) (M : ip_H) (K : Option Value → ip_H → Prop) (i : Int32) (x : Int64) (k : Nat) (h0 : (ip_sh M k).1 = 1) (h1 : (ip_sh M k).2.1 = 1) (h2 : ip_ix i (ip_sh M k).2.2 = true) : ip_wp X 66 58 ls (.long x :: .int i :: .ref k :: st) M K = ip_wp X 66 59 ls st (ip_uL M k i.toNatClampNeg x) K := (wp_lastore ((ip_a66 58).trans (ip_f66_1 (k := 8) rfl))).trans (if_pos ⟨h0, h1, h2⟩)
theorem w66_59 (X : ip_X) (ls st : List Value) (M : ip_H) (K : Option Value → ip_H → Prop) : ip_wp X 66 59 ls st M K = ip_ka (ip_get ls 0) (fun x => ip_wp X 66 60 ls (x :: st) M K) := wp_aload_n ((ip_a66 59).trans (ip_f66_1 (k := 9) rfl))
theorem w66_60 (X : ip_X) (ls st : List Value) (M : ip_H) (K : Option Value → ip_H → Prop) (k : Nat) (h0 : (ip_sh M k).1 = 0) (h1 : (ip_sh M k).2.1 = 4) : ip_wp X 66 60 ls (.ref k :: st) M K = ip_wp X 66 63 ls (ip_vr (M.2.2.2 k 0) :: st) M K := (wp_getR ((ip_a66 60).trans (ip_f66_1 (k := 10) rfl))).trans (if_pos ⟨h0, h1⟩)
theorem w66_63 (X : ip_X) (ls st : List Value) (M : ip_H) (K : Option Value → ip_H → Prop) : ip_wp X 66 63 ls st M K = ip_ki (ip_get ls 4) (fun x => ip_wp X 66 65 ls (.int x :: st) M K) := wp_iload ((ip_a66 63).trans (ip_f66_1 (k := 11) rfl))
theorem w66_65 (X : ip_X) (ls st : List Value) (M : ip_H) (K : Option Value → ip_H → Prop) : ip_wp X 66 65 ls st M K = ip_wp X 66 66 ls (.int 1 :: st) M K := wp_iconst ((ip_a66 65).trans (ip_f66_1 (k := 12) rfl))
theorem w66_66 (X : ip_X) (ls st : List Value) (M : ip_H) (K : Option Value → ip_H → Prop) (x q : Int32) : ip_wp X 66 66 ls (.int q :: .int x :: st) M K = ip_wp X 66 67 ls (.int (x + q) :: st) M K := wp_iadd ((ip_a66 66).trans (ip_f66_1 (k := 13) rfl))
theorem w66_67 (X : ip_X) (ls st : List Value) (M : ip_H) (K : Option Value → ip_H → Prop) : ip_wp X 66 67 ls st M K = ip_ki (ip_get ls 3) (fun x => ip_wp X 66 68 ls (.int x :: st) M K) := wp_iload_n ((ip_a66 67).trans (ip_f66_1 (k := 14) rfl))
theorem w66_68 (X : ip_X) (ls st : List Value) (M : ip_H) (K : Option Value → ip_H → Prop) (x : Int32) : ip_wp X 66 68 ls (.int x :: st) M K = if x = 0 then ip_wp X 66 76 ls st M K else ip_wp X 66 71 ls st M K := wp_ifCond_eq ((ip_a66 68).trans (ip_f66_1 (k := 15) rfl))
theorem w66_71 (X : ip_X) (ls st : List Value) (M : ip_H) (K : Option Value → ip_H → Prop) : ip_wp X 66 71 ls st M K = ip_kl (ip_get ls 7) (fun x => ip_wp X 66 73 ls (.long x :: st) M K) := wp_lload ((ip_a66 71).trans (ip_f66_1 (k := 16) rfl))
theorem w66_73 (X : ip_X) (ls st : List Value) (M : ip_H) (K : Option Value → ip_H → Prop) : ip_wp X 66 73 ls st M K = ip_wp X 66 78 ls st M K := wp_goto ((ip_a66 73).trans (ip_f66_1 (k := 17) rfl))
theorem w66_76 (X : ip_X) (ls st : List Value) (M : ip_H) (K : Option Value → ip_H → Prop) : ip_wp X 66 76 ls st M K = ip_kl (ip_get ls 9) (fun x => ip_wp X 66 78 ls (.long x :: st) M K) := wp_lload ((ip_a66 76).trans (ip_f66_1 (k := 18) rfl))
theorem w66_78 (X : ip_X) (ls st : List Value) (M : ip_H) (K : Option Value → ip_H → Prop) (i : Int32) (x : Int64) (k : Nat) (h0 : (ip_sh M k).1 = 1) (h1 : (ip_sh M k).2.1 = 1) (h2 : ip_ix i (ip_sh M k).2.2 = true) : ip_wp X 66 78 ls (.long x :: .int i :: .ref k :: st) M K = ip_wp X 66 79 ls st (ip_uL M k i.toNatClampNeg x) K := (wp_lastore ((ip_a66 78).trans (ip_f66_1 (k := 19) rfl))).trans (if_pos ⟨h0, h1, h2⟩)
theorem w66_79 (X : ip_X) (ls st : List Value) (M : ip_H) (K : Option Value → ip_H → Prop) : ip_wp X 66 79 ls st M K = ip_ka (ip_get ls 0) (fun x => ip_wp X 66 80 ls (x :: st) M K) := wp_aload_n ((ip_a66 79).trans (ip_f66_1 (k := 20) rfl))
theorem w66_80 (X : ip_X) (ls st : List Value) (M : ip_H) (K : Option Value → ip_H → Prop) (k : Nat) (h0 : (ip_sh M k).1 = 0) (h1 : (ip_sh M k).2.1 = 4) : ip_wp X 66 80 ls (.ref k :: st) M K = ip_wp X 66 83 ls (ip_vr (M.2.2.2 k 0) :: st) M K := (wp_getR ((ip_a66 80).trans (ip_f66_1 (k := 21) rfl))).trans (if_pos ⟨h0, h1⟩)
theorem w66_83 (X : ip_X) (ls st : List Value) (M : ip_H) (K : Option Value → ip_H → Prop) : ip_wp X 66 83 ls st M K = ip_ki (ip_get ls 4) (fun x => ip_wp X 66 85 ls (.int x :: st) M K) := wp_iload ((ip_a66 83).trans (ip_f66_1 (k := 22) rfl))
theorem w66_85 (X : ip_X) (ls st : List Value) (M : ip_H) (K : Option Value → ip_H → Prop) : ip_wp X 66 85 ls st M K = ip_wp X 66 86 ls (.int 2 :: st) M K := wp_iconst ((ip_a66 85).trans (ip_f66_1 (k := 23) rfl))
theorem w66_86 (X : ip_X) (ls st : List Value) (M : ip_H) (K : Option Value → ip_H → Prop) (x q : Int32) : ip_wp X 66 86 ls (.int q :: .int x :: st) M K = ip_wp X 66 87 ls (.int (x + q) :: st) M K := wp_iadd ((ip_a66 86).trans (ip_f66_2 (k := 0) rfl))
theorem w66_87 (X : ip_X) (ls st : List Value) (M : ip_H) (K : Option Value → ip_H → Prop) : ip_wp X 66 87 ls st M K = ip_kl (ip_get ls 5) (fun x => ip_wp X 66 89 ls (.long x :: st) M K) := wp_lload ((ip_a66 87).trans (ip_f66_2 (k := 1) rfl))
theorem w66_89 (X : ip_X) (ls st : List Value) (M : ip_H) (K : Option Value → ip_H → Prop) : ip_wp X 66 89 ls st M K = ip_ki (ip_get ls 1) (fun x => ip_wp X 66 90 ls (.int x :: st) M K) := wp_iload_n ((ip_a66 89).trans (ip_f66_2 (k := 2) rfl))
theorem w66_90 (X : ip_X) (ls st : List Value) (M : ip_H) (K : Option Value → ip_H → Prop) : ip_wp X 66 90 ls st M K = ip_kl (ip_get ls 7) (fun x => ip_wp X 66 92 ls (.long x :: st) M K) := wp_lload ((ip_a66 90).trans (ip_f66_2 (k := 3) rfl))
theorem w66_92 (X : ip_X) (ls st : List Value) (M : ip_H) (K : Option Value → ip_H → Prop) (x0 : Int32) (x1 : Int64) (h0 : st.length ≤ 4) : ip_wp X 66 92 ls (.long x1 :: .int x0 :: st) M K = ip_wp X 68 0 [.int x0, .long x1, .retAddr 1] [] M (fun r M1 => ip_wp X 66 95 ls (r.toList ++ st) M1 K) := (wp_callS0_2 ((ip_a66 92).trans (ip_f66_2 (k := 4) rfl)) ⟨h0, by exact Nat.le_of_ble_eq_true rfl⟩)
theorem w66_95 (X : ip_X) (ls st : List Value) (M : ip_H) (K : Option Value → ip_H → Prop) : ip_wp X 66 95 ls st M K = ip_ki (ip_get ls 2) (fun x => ip_wp X 66 96 ls (.int x :: st) M K) := wp_iload_n ((ip_a66 95).trans (ip_f66_2 (k := 5) rfl))
theorem w66_96 (X : ip_X) (ls st : List Value) (M : ip_H) (K : Option Value → ip_H → Prop) : ip_wp X 66 96 ls st M K = ip_kl (ip_get ls 9) (fun x => ip_wp X 66 98 ls (.long x :: st) M K) := wp_lload ((ip_a66 96).trans (ip_f66_2 (k := 6) rfl))
theorem w66_98 (X : ip_X) (ls st : List Value) (M : ip_H) (K : Option Value → ip_H → Prop) (x0 : Int32) (x1 : Int64) (h0 : st.length ≤ 4) : ip_wp X 66 98 ls (.long x1 :: .int x0 :: st) M K = ip_wp X 68 0 [.int x0, .long x1, .retAddr 1] [] M (fun r M1 => ip_wp X 66 101 ls (r.toList ++ st) M1 K) := (wp_callS0_2 ((ip_a66 98).trans (ip_f66_2 (k := 7) rfl)) ⟨h0, by exact Nat.le_of_ble_eq_true rfl⟩)
theorem w66_101 (X : ip_X) (ls st : List Value) (M : ip_H) (K : Option Value → ip_H → Prop) (x0 : Int64) (x1 : Int64) (h0 : st.length ≤ 4) : ip_wp X 66 101 ls (.long x1 :: .long x0 :: st) M K = ip_wp X 67 0 [.long x0, .retAddr 1, .long x1, .retAddr 1] [] M (fun r M1 => ip_wp X 66 104 ls (r.toList ++ st) M1 K) := (wp_callS0_2 ((ip_a66 101).trans (ip_f66_2 (k := 8) rfl)) ⟨h0, by exact Nat.le_of_ble_eq_true rfl⟩)
theorem w66_104 (X : ip_X) (ls st : List Value) (M : ip_H) (K : Option Value → ip_H → Prop) (x0 : Int64) (x1 : Int64) (h0 : st.length ≤ 4) : ip_wp X 66 104 ls (.long x1 :: .long x0 :: st) M K = ip_wp X 67 0 [.long x0, .retAddr 1, .long x1, .retAddr 1] [] M (fun r M1 => ip_wp X 66 107 ls (r.toList ++ st) M1 K) := (wp_callS0_2 ((ip_a66 104).trans (ip_f66_2 (k := 9) rfl)) ⟨h0, by exact Nat.le_of_ble_eq_true rfl⟩)
theorem w66_107 (X : ip_X) (ls st : List Value) (M : ip_H) (K : Option Value → ip_H → Prop) (i : Int32) (x : Int64) (k : Nat) (h0 : (ip_sh M k).1 = 1) (h1 : (ip_sh M k).2.1 = 1) (h2 : ip_ix i (ip_sh M k).2.2 = true) : ip_wp X 66 107 ls (.long x :: .int i :: .ref k :: st) M K = ip_wp X 66 108 ls st (ip_uL M k i.toNatClampNeg x) K := (wp_lastore ((ip_a66 107).trans (ip_f66_2 (k := 10) rfl))).trans (if_pos ⟨h0, h1, h2⟩)
theorem w66_108 (X : ip_X) (ls st : List Value) (M : ip_H) (K : Option Value → ip_H → Prop) : ip_wp X 66 108 ls st M K = ip_ki (ip_get ls 4) (fun x => ip_wp X 66 111 (ip_set1 ls 4 (.int (x + 3))) st M K) := wp_iinc ((ip_a66 108).trans (ip_f66_2 (k := 11) rfl))
theorem w66_111 (X : ip_X) (ls st : List Value) (M : ip_H) (K : Option Value → ip_H → Prop) : ip_wp X 66 111 ls st M K = ip_wp X 66 3 ls st M K := wp_goto ((ip_a66 111).trans (ip_f66_2 (k := 12) rfl))
theorem w66_114 (X : ip_X) (ls : List Value) (M : ip_H) (K : Option Value → ip_H → Prop) : ip_wp X 66 114 ls [] M K = K none M := wp_vret ((ip_a66 114).trans (ip_f66_2 (k := 13) rfl))
theorem ip_a67 (pc : Nat) : ip_at 67 pc = ip_c67.lookup pc := rfl
theorem w67_0 (X : ip_X) (ls st : List Value) (M : ip_H) (K : Option Value → ip_H → Prop) : ip_wp X 67 0 ls st M K = ip_kl (ip_get ls 0) (fun x => ip_wp X 67 1 ls (.long x :: st) M K) := wp_lload_n ((ip_a67 0).trans rfl)
theorem w67_1 (X : ip_X) (ls st : List Value) (M : ip_H) (K : Option Value → ip_H → Prop) : ip_wp X 67 1 ls st M K = ip_wp X 67 4 ls (.long (-1) :: st) M K := wp_ldc2_w ((ip_a67 1).trans rfl)
theorem w67_4 (X : ip_X) (ls st : List Value) (M : ip_H) (K : Option Value → ip_H → Prop) (x q : Int64) : ip_wp X 67 4 ls (.long q :: .long x :: st) M K = ip_wp X 67 5 ls (.int (lg_cmp x q) :: st) M K := wp_lcmp ((ip_a67 4).trans rfl)
theorem w67_5 (X : ip_X) (ls st : List Value) (M : ip_H) (K : Option Value → ip_H → Prop) (x : Int32) : ip_wp X 67 5 ls (.int x :: st) M K = if x = 0 then ip_wp X 67 26 ls st M K else ip_wp X 67 8 ls st M K := wp_ifCond_eq ((ip_a67 5).trans rfl)
theorem w67_8 (X : ip_X) (ls st : List Value) (M : ip_H) (K : Option Value → ip_H → Prop) : ip_wp X 67 8 ls st M K = ip_kl (ip_get ls 2) (fun x => ip_wp X 67 9 ls (.long x :: st) M K) := wp_lload_n ((ip_a67 8).trans rfl)
theorem w67_9 (X : ip_X) (ls st : List Value) (M : ip_H) (K : Option Value → ip_H → Prop) : ip_wp X 67 9 ls st M K = ip_wp X 67 12 ls (.long (-1) :: st) M K := wp_ldc2_w ((ip_a67 9).trans rfl)
theorem w67_12 (X : ip_X) (ls st : List Value) (M : ip_H) (K : Option Value → ip_H → Prop) (x q : Int64) : ip_wp X 67 12 ls (.long q :: .long x :: st) M K = ip_wp X 67 13 ls (.int (lg_cmp x q) :: st) M K := wp_lcmp ((ip_a67 12).trans rfl)
theorem w67_13 (X : ip_X) (ls st : List Value) (M : ip_H) (K : Option Value → ip_H → Prop) (x : Int32) : ip_wp X 67 13 ls (.int x :: st) M K = if x = 0 then ip_wp X 67 26 ls st M K else ip_wp X 67 16 ls st M K := wp_ifCond_eq ((ip_a67 13).trans rfl)
theorem w67_16 (X : ip_X) (ls st : List Value) (M : ip_H) (K : Option Value → ip_H → Prop) : ip_wp X 67 16 ls st M K = ip_kl (ip_get ls 0) (fun x => ip_wp X 67 17 ls (.long x :: st) M K) := wp_lload_n ((ip_a67 16).trans rfl)
theorem w67_17 (X : ip_X) (ls st : List Value) (M : ip_H) (K : Option Value → ip_H → Prop) : ip_wp X 67 17 ls st M K = ip_wp X 67 20 ls (.long 9223372036854775807 :: st) M K := wp_ldc2_w ((ip_a67 17).trans rfl)
theorem w67_20 (X : ip_X) (ls st : List Value) (M : ip_H) (K : Option Value → ip_H → Prop) : ip_wp X 67 20 ls st M K = ip_kl (ip_get ls 2) (fun x => ip_wp X 67 21 ls (.long x :: st) M K) := wp_lload_n ((ip_a67 20).trans rfl)
theorem w67_21 (X : ip_X) (ls st : List Value) (M : ip_H) (K : Option Value → ip_H → Prop) (x q : Int64) : ip_wp X 67 21 ls (.long q :: .long x :: st) M K = ip_wp X 67 22 ls (.long (x - q) :: st) M K := wp_lsub ((ip_a67 21).trans rfl)
theorem w67_22 (X : ip_X) (ls st : List Value) (M : ip_H) (K : Option Value → ip_H → Prop) (x q : Int64) : ip_wp X 67 22 ls (.long q :: .long x :: st) M K = ip_wp X 67 23 ls (.int (lg_cmp x q) :: st) M K := wp_lcmp ((ip_a67 22).trans rfl)
theorem w67_23 (X : ip_X) (ls st : List Value) (M : ip_H) (K : Option Value → ip_H → Prop) (x : Int32) : ip_wp X 67 23 ls (.int x :: st) M K = if 0 < x then ip_wp X 67 26 ls st M K else ip_wp X 67 30 ls st M K := wp_ifCond_le ((ip_a67 23).trans rfl)
theorem w67_26 (X : ip_X) (ls st : List Value) (M : ip_H) (K : Option Value → ip_H → Prop) : ip_wp X 67 26 ls st M K = ip_wp X 67 29 ls (.long (-1) :: st) M K := wp_ldc2_w ((ip_a67 26).trans rfl)
theorem w67_29 (X : ip_X) (ls : List Value) (M : ip_H) (K : Option Value → ip_H → Prop) (x : Int64) : ip_wp X 67 29 ls [.long x] M K = K (some (.long x)) M := wp_lret ((ip_a67 29).trans rfl)
theorem w67_30 (X : ip_X) (ls st : List Value) (M : ip_H) (K : Option Value → ip_H → Prop) : ip_wp X 67 30 ls st M K = ip_kl (ip_get ls 0) (fun x => ip_wp X 67 31 ls (.long x :: st) M K) := wp_lload_n ((ip_a67 30).trans rfl)
theorem w67_31 (X : ip_X) (ls st : List Value) (M : ip_H) (K : Option Value → ip_H → Prop) : ip_wp X 67 31 ls st M K = ip_kl (ip_get ls 2) (fun x => ip_wp X 67 32 ls (.long x :: st) M K) := wp_lload_n ((ip_a67 31).trans rfl)
theorem w67_32 (X : ip_X) (ls st : List Value) (M : ip_H) (K : Option Value → ip_H → Prop) (x q : Int64) : ip_wp X 67 32 ls (.long q :: .long x :: st) M K = ip_wp X 67 33 ls (.long (x + q) :: st) M K := wp_ladd ((ip_a67 32).trans rfl)
theorem w67_33 (X : ip_X) (ls : List Value) (M : ip_H) (K : Option Value → ip_H → Prop) (x : Int64) : ip_wp X 67 33 ls [.long x] M K = K (some (.long x)) M := wp_lret ((ip_a67 33).trans rfl)
theorem ip_a68 (pc : Nat) : ip_at 68 pc = ip_c68.lookup pc := rfl
theorem w68_0 (X : ip_X) (ls st : List Value) (M : ip_H) (K : Option Value → ip_H → Prop) : ip_wp X 68 0 ls st M K = ip_ki (ip_get ls 0) (fun x => ip_wp X 68 1 ls (.int x :: st) M K) := wp_iload_n ((ip_a68 0).trans rfl)
theorem w68_1 (X : ip_X) (ls st : List Value) (M : ip_H) (K : Option Value → ip_H → Prop) (x : Int32) : ip_wp X 68 1 ls (.int x :: st) M K = if x = 0 then ip_wp X 68 4 ls st M K else ip_wp X 68 6 ls st M K := wp_ifCond_ne ((ip_a68 1).trans rfl)
theorem w68_4 (X : ip_X) (ls st : List Value) (M : ip_H) (K : Option Value → ip_H → Prop) : ip_wp X 68 4 ls st M K = ip_wp X 68 5 ls (.long 0 :: st) M K := wp_lconst ((ip_a68 4).trans rfl)
theorem w68_5 (X : ip_X) (ls : List Value) (M : ip_H) (K : Option Value → ip_H → Prop) (x : Int64) : ip_wp X 68 5 ls [.long x] M K = K (some (.long x)) M := wp_lret ((ip_a68 5).trans rfl)
theorem w68_6 (X : ip_X) (ls st : List Value) (M : ip_H) (K : Option Value → ip_H → Prop) : ip_wp X 68 6 ls st M K = ip_kl (ip_get ls 1) (fun x => ip_wp X 68 7 ls (.long x :: st) M K) := wp_lload_n ((ip_a68 6).trans rfl)
theorem w68_7 (X : ip_X) (ls st : List Value) (M : ip_H) (K : Option Value → ip_H → Prop) : ip_wp X 68 7 ls st M K = ip_wp X 68 10 ls (.long (-1) :: st) M K := wp_ldc2_w ((ip_a68 7).trans rfl)
theorem w68_10 (X : ip_X) (ls st : List Value) (M : ip_H) (K : Option Value → ip_H → Prop) (x q : Int64) : ip_wp X 68 10 ls (.long q :: .long x :: st) M K = ip_wp X 68 11 ls (.int (lg_cmp x q) :: st) M K := wp_lcmp ((ip_a68 10).trans rfl)
theorem w68_11 (X : ip_X) (ls st : List Value) (M : ip_H) (K : Option Value → ip_H → Prop) (x : Int32) : ip_wp X 68 11 ls (.int x :: st) M K = if x = 0 then ip_wp X 68 25 ls st M K else ip_wp X 68 14 ls st M K := wp_ifCond_eq ((ip_a68 11).trans rfl)
theorem w68_14 (X : ip_X) (ls st : List Value) (M : ip_H) (K : Option Value → ip_H → Prop) : ip_wp X 68 14 ls st M K = ip_kl (ip_get ls 1) (fun x => ip_wp X 68 15 ls (.long x :: st) M K) := wp_lload_n ((ip_a68 14).trans rfl)
theorem w68_15 (X : ip_X) (ls st : List Value) (M : ip_H) (K : Option Value → ip_H → Prop) : ip_wp X 68 15 ls st M K = ip_wp X 68 18 ls (.long 9223372036854775807 :: st) M K := wp_ldc2_w ((ip_a68 15).trans rfl)
theorem w68_18 (X : ip_X) (ls st : List Value) (M : ip_H) (K : Option Value → ip_H → Prop) : ip_wp X 68 18 ls st M K = ip_ki (ip_get ls 0) (fun x => ip_wp X 68 19 ls (.int x :: st) M K) := wp_iload_n ((ip_a68 18).trans rfl)
theorem w68_19 (X : ip_X) (ls st : List Value) (M : ip_H) (K : Option Value → ip_H → Prop) (x : Int32) : ip_wp X 68 19 ls (.int x :: st) M K = ip_wp X 68 20 ls (.long (x.toInt64) :: st) M K := wp_i2l ((ip_a68 19).trans rfl)
theorem w68_20 (X : ip_X) (ls st : List Value) (M : ip_H) (K : Option Value → ip_H → Prop) (x q : Int64) (hq : ¬ q = 0) : ip_wp X 68 20 ls (.long q :: .long x :: st) M K = ip_wp X 68 21 ls (.long (x / q) :: st) M K := (wp_ldiv ((ip_a68 20).trans rfl)).trans (if_neg hq)
theorem w68_21 (X : ip_X) (ls st : List Value) (M : ip_H) (K : Option Value → ip_H → Prop) (x q : Int64) : ip_wp X 68 21 ls (.long q :: .long x :: st) M K = ip_wp X 68 22 ls (.int (lg_cmp x q) :: st) M K := wp_lcmp ((ip_a68 21).trans rfl)
theorem w68_22 (X : ip_X) (ls st : List Value) (M : ip_H) (K : Option Value → ip_H → Prop) (x : Int32) : ip_wp X 68 22 ls (.int x :: st) M K = if 0 < x then ip_wp X 68 25 ls st M K else ip_wp X 68 29 ls st M K := wp_ifCond_le ((ip_a68 22).trans rfl)
theorem w68_25 (X : ip_X) (ls st : List Value) (M : ip_H) (K : Option Value → ip_H → Prop) : ip_wp X 68 25 ls st M K = ip_wp X 68 28 ls (.long (-1) :: st) M K := wp_ldc2_w ((ip_a68 25).trans rfl)
theorem w68_28 (X : ip_X) (ls : List Value) (M : ip_H) (K : Option Value → ip_H → Prop) (x : Int64) : ip_wp X 68 28 ls [.long x] M K = K (some (.long x)) M := wp_lret ((ip_a68 28).trans rfl)
theorem w68_29 (X : ip_X) (ls st : List Value) (M : ip_H) (K : Option Value → ip_H → Prop) : ip_wp X 68 29 ls st M K = ip_ki (ip_get ls 0) (fun x => ip_wp X 68 30 ls (.int x :: st) M K) := wp_iload_n ((ip_a68 29).trans rfl)
theorem w68_30 (X : ip_X) (ls st : List Value) (M : ip_H) (K : Option Value → ip_H → Prop) (x : Int32) : ip_wp X 68 30 ls (.int x :: st) M K = ip_wp X 68 31 ls (.long (x.toInt64) :: st) M K := wp_i2l ((ip_a68 30).trans rfl)
theorem w68_31 (X : ip_X) (ls st : List Value) (M : ip_H) (K : Option Value → ip_H → Prop) : ip_wp X 68 31 ls st M K = ip_kl (ip_get ls 1) (fun x => ip_wp X 68 32 ls (.long x :: st) M K) := wp_lload_n ((ip_a68 31).trans rfl)
theorem w68_32 (X : ip_X) (ls st : List Value) (M : ip_H) (K : Option Value → ip_H → Prop) (x q : Int64) : ip_wp X 68 32 ls (.long q :: .long x :: st) M K = ip_wp X 68 33 ls (.long (x * q) :: st) M K := wp_lmul ((ip_a68 32).trans rfl)
theorem w68_33 (X : ip_X) (ls : List Value) (M : ip_H) (K : Option Value → ip_H → Prop) (x : Int64) : ip_wp X 68 33 ls [.long x] M K = K (some (.long x)) M := wp_lret ((ip_a68 33).trans rfl)
theorem ip_a69 (pc : Nat) : ip_at 69 pc = ip_c69.lookup pc := rfl
theorem w69_0 (X : ip_X) (ls st : List Value) (M : ip_H) (K : Option Value → ip_H → Prop) : ip_wp X 69 0 ls st M K = ip_wp X 69 1 ls (.int 0 :: st) M K := wp_iconst ((ip_a69 0).trans rfl)
theorem w69_1 (X : ip_X) (ls st : List Value) (M : ip_H) (K : Option Value → ip_H → Prop) (x : Int32) : ip_wp X 69 1 ls (.int x :: st) M K = ip_wp X 69 2 (ip_set1 ls 1 (.int x)) st M K := wp_istore_n ((ip_a69 1).trans rfl)
theorem w69_2 (X : ip_X) (ls st : List Value) (M : ip_H) (K : Option Value → ip_H → Prop) : ip_wp X 69 2 ls st M K = ip_ki (ip_get ls 1) (fun x => ip_wp X 69 3 ls (.int x :: st) M K) := wp_iload_n ((ip_a69 2).trans rfl)
theorem w69_3 (X : ip_X) (ls st : List Value) (M : ip_H) (K : Option Value → ip_H → Prop) : ip_wp X 69 3 ls st M K = ip_wp X 69 5 ls (.int 9 :: st) M K := wp_bipush ((ip_a69 3).trans rfl)
theorem w69_5 (X : ip_X) (ls st : List Value) (M : ip_H) (K : Option Value → ip_H → Prop) (x q : Int32) : ip_wp X 69 5 ls (.int q :: .int x :: st) M K = if x < q then ip_wp X 69 8 ls st M K else ip_wp X 69 29 ls st M K := wp_if_icmp_ge ((ip_a69 5).trans rfl)
theorem w69_8 (X : ip_X) (ls st : List Value) (M : ip_H) (K : Option Value → ip_H → Prop) : ip_wp X 69 8 ls st M K = ip_ka (ip_get ls 0) (fun x => ip_wp X 69 9 ls (x :: st) M K) := wp_aload_n ((ip_a69 8).trans rfl)
theorem w69_9 (X : ip_X) (ls st : List Value) (M : ip_H) (K : Option Value → ip_H → Prop) (k : Nat) (h0 : (ip_sh M k).1 = 0) (h1 : (ip_sh M k).2.1 = 4) : ip_wp X 69 9 ls (.ref k :: st) M K = ip_wp X 69 12 ls (ip_vr (M.2.2.2 k 0) :: st) M K := (wp_getR ((ip_a69 9).trans rfl)).trans (if_pos ⟨h0, h1⟩)
theorem w69_12 (X : ip_X) (ls st : List Value) (M : ip_H) (K : Option Value → ip_H → Prop) : ip_wp X 69 12 ls st M K = ip_ki (ip_get ls 1) (fun x => ip_wp X 69 13 ls (.int x :: st) M K) := wp_iload_n ((ip_a69 12).trans rfl)
theorem w69_13 (X : ip_X) (ls st : List Value) (M : ip_H) (K : Option Value → ip_H → Prop) (i : Int32) (k : Nat) (h0 : (ip_sh M k).1 = 1) (h1 : (ip_sh M k).2.1 = 1) (h2 : ip_ix i (ip_sh M k).2.2 = true) : ip_wp X 69 13 ls (.int i :: .ref k :: st) M K = ip_wp X 69 14 ls (.long (M.2.2.1 k i.toNatClampNeg) :: st) M K := (wp_laload ((ip_a69 13).trans rfl)).trans (if_pos ⟨h0, h1, h2⟩)
theorem w69_14 (X : ip_X) (ls st : List Value) (M : ip_H) (K : Option Value → ip_H → Prop) : ip_wp X 69 14 ls st M K = ip_wp X 69 17 ls (.long (-1) :: st) M K := wp_ldc2_w ((ip_a69 14).trans rfl)
theorem w69_17 (X : ip_X) (ls st : List Value) (M : ip_H) (K : Option Value → ip_H → Prop) (x q : Int64) : ip_wp X 69 17 ls (.long q :: .long x :: st) M K = ip_wp X 69 18 ls (.int (lg_cmp x q) :: st) M K := wp_lcmp ((ip_a69 17).trans rfl)
theorem w69_18 (X : ip_X) (ls st : List Value) (M : ip_H) (K : Option Value → ip_H → Prop) (x : Int32) : ip_wp X 69 18 ls (.int x :: st) M K = if x = 0 then ip_wp X 69 21 ls st M K else ip_wp X 69 23 ls st M K := wp_ifCond_ne ((ip_a69 18).trans rfl)
theorem w69_21 (X : ip_X) (ls st : List Value) (M : ip_H) (K : Option Value → ip_H → Prop) : ip_wp X 69 21 ls st M K = ip_wp X 69 22 ls (.int 1 :: st) M K := wp_iconst ((ip_a69 21).trans rfl)
theorem w69_22 (X : ip_X) (ls : List Value) (M : ip_H) (K : Option Value → ip_H → Prop) (x : Int32) (h0 : x = 0 ∨ x = 1) : ip_wp X 69 22 ls [.int x] M K = K (some (.int x)) M := (wp_zret ((ip_a69 22).trans rfl)).trans (if_pos h0)
theorem w69_23 (X : ip_X) (ls st : List Value) (M : ip_H) (K : Option Value → ip_H → Prop) : ip_wp X 69 23 ls st M K = ip_ki (ip_get ls 1) (fun x => ip_wp X 69 26 (ip_set1 ls 1 (.int (x + 1))) st M K) := wp_iinc ((ip_a69 23).trans rfl)
theorem w69_26 (X : ip_X) (ls st : List Value) (M : ip_H) (K : Option Value → ip_H → Prop) : ip_wp X 69 26 ls st M K = ip_wp X 69 2 ls st M K := wp_goto ((ip_a69 26).trans rfl)
theorem w69_29 (X : ip_X) (ls st : List Value) (M : ip_H) (K : Option Value → ip_H → Prop) : ip_wp X 69 29 ls st M K = ip_wp X 69 30 ls (.int 0 :: st) M K := wp_iconst ((ip_a69 29).trans rfl)
theorem w69_30 (X : ip_X) (ls : List Value) (M : ip_H) (K : Option Value → ip_H → Prop) (x : Int32) (h0 : x = 0 ∨ x = 1) : ip_wp X 69 30 ls [.int x] M K = K (some (.int x)) M := (wp_zret ((ip_a69 30).trans rfl)).trans (if_pos h0)
theorem ip_a70 (pc : Nat) : ip_at 70 pc = ip_c70.lookup pc := rfl
theorem w70_0 (X : ip_X) (ls st : List Value) (M : ip_H) (K : Option Value → ip_H → Prop) : ip_wp X 70 0 ls st M K = ip_wp X 70 1 ls (.int 0 :: st) M K := wp_iconst ((ip_a70 0).trans rfl)
theorem w70_1 (X : ip_X) (ls st : List Value) (M : ip_H) (K : Option Value → ip_H → Prop) (x : Int32) : ip_wp X 70 1 ls (.int x :: st) M K = ip_wp X 70 2 (ip_set1 ls 3 (.int x)) st M K := wp_istore_n ((ip_a70 1).trans rfl)
theorem w70_2 (X : ip_X) (ls st : List Value) (M : ip_H) (K : Option Value → ip_H → Prop) : ip_wp X 70 2 ls st M K = ip_ki (ip_get ls 3) (fun x => ip_wp X 70 3 ls (.int x :: st) M K) := wp_iload_n ((ip_a70 2).trans rfl)
theorem w70_3 (X : ip_X) (ls st : List Value) (M : ip_H) (K : Option Value → ip_H → Prop) : ip_wp X 70 3 ls st M K = ip_wp X 70 5 ls (.int 9 :: st) M K := wp_bipush ((ip_a70 3).trans rfl)
theorem w70_5 (X : ip_X) (ls st : List Value) (M : ip_H) (K : Option Value → ip_H → Prop) (x q : Int32) : ip_wp X 70 5 ls (.int q :: .int x :: st) M K = if x < q then ip_wp X 70 8 ls st M K else ip_wp X 70 27 ls st M K := wp_if_icmp_ge ((ip_a70 5).trans rfl)
theorem w70_8 (X : ip_X) (ls st : List Value) (M : ip_H) (K : Option Value → ip_H → Prop) : ip_wp X 70 8 ls st M K = ip_ka (ip_get ls 0) (fun x => ip_wp X 70 9 ls (x :: st) M K) := wp_aload_n ((ip_a70 8).trans rfl)
theorem w70_9 (X : ip_X) (ls st : List Value) (M : ip_H) (K : Option Value → ip_H → Prop) (k : Nat) (h0 : (ip_sh M k).1 = 0) (h1 : (ip_sh M k).2.1 = 4) : ip_wp X 70 9 ls (.ref k :: st) M K = ip_wp X 70 12 ls (ip_vr (M.2.2.2 k 0) :: st) M K := (wp_getR ((ip_a70 9).trans rfl)).trans (if_pos ⟨h0, h1⟩)
theorem w70_12 (X : ip_X) (ls st : List Value) (M : ip_H) (K : Option Value → ip_H → Prop) : ip_wp X 70 12 ls st M K = ip_ki (ip_get ls 3) (fun x => ip_wp X 70 13 ls (.int x :: st) M K) := wp_iload_n ((ip_a70 12).trans rfl)
theorem w70_13 (X : ip_X) (ls st : List Value) (M : ip_H) (K : Option Value → ip_H → Prop) (i : Int32) (k : Nat) (h0 : (ip_sh M k).1 = 1) (h1 : (ip_sh M k).2.1 = 1) (h2 : ip_ix i (ip_sh M k).2.2 = true) : ip_wp X 70 13 ls (.int i :: .ref k :: st) M K = ip_wp X 70 14 ls (.long (M.2.2.1 k i.toNatClampNeg) :: st) M K := (wp_laload ((ip_a70 13).trans rfl)).trans (if_pos ⟨h0, h1, h2⟩)
theorem w70_14 (X : ip_X) (ls st : List Value) (M : ip_H) (K : Option Value → ip_H → Prop) : ip_wp X 70 14 ls st M K = ip_kl (ip_get ls 1) (fun x => ip_wp X 70 15 ls (.long x :: st) M K) := wp_lload_n ((ip_a70 14).trans rfl)
theorem w70_15 (X : ip_X) (ls st : List Value) (M : ip_H) (K : Option Value → ip_H → Prop) (x q : Int64) : ip_wp X 70 15 ls (.long q :: .long x :: st) M K = ip_wp X 70 16 ls (.int (lg_cmp x q) :: st) M K := wp_lcmp ((ip_a70 15).trans rfl)
theorem w70_16 (X : ip_X) (ls st : List Value) (M : ip_H) (K : Option Value → ip_H → Prop) (x : Int32) : ip_wp X 70 16 ls (.int x :: st) M K = if 0 < x then ip_wp X 70 19 ls st M K else ip_wp X 70 21 ls st M K := wp_ifCond_le ((ip_a70 16).trans rfl)
theorem w70_19 (X : ip_X) (ls st : List Value) (M : ip_H) (K : Option Value → ip_H → Prop) : ip_wp X 70 19 ls st M K = ip_wp X 70 20 ls (.int 1 :: st) M K := wp_iconst ((ip_a70 19).trans rfl)
theorem w70_20 (X : ip_X) (ls : List Value) (M : ip_H) (K : Option Value → ip_H → Prop) (x : Int32) (h0 : x = 0 ∨ x = 1) : ip_wp X 70 20 ls [.int x] M K = K (some (.int x)) M := (wp_zret ((ip_a70 20).trans rfl)).trans (if_pos h0)
theorem w70_21 (X : ip_X) (ls st : List Value) (M : ip_H) (K : Option Value → ip_H → Prop) : ip_wp X 70 21 ls st M K = ip_ki (ip_get ls 3) (fun x => ip_wp X 70 24 (ip_set1 ls 3 (.int (x + 1))) st M K) := wp_iinc ((ip_a70 21).trans rfl)
theorem w70_24 (X : ip_X) (ls st : List Value) (M : ip_H) (K : Option Value → ip_H → Prop) : ip_wp X 70 24 ls st M K = ip_wp X 70 2 ls st M K := wp_goto ((ip_a70 24).trans rfl)
theorem w70_27 (X : ip_X) (ls st : List Value) (M : ip_H) (K : Option Value → ip_H → Prop) : ip_wp X 70 27 ls st M K = ip_wp X 70 28 ls (.int 0 :: st) M K := wp_iconst ((ip_a70 27).trans rfl)
theorem w70_28 (X : ip_X) (ls : List Value) (M : ip_H) (K : Option Value → ip_H → Prop) (x : Int32) (h0 : x = 0 ∨ x = 1) : ip_wp X 70 28 ls [.int x] M K = K (some (.int x)) M := (wp_zret ((ip_a70 28).trans rfl)).trans (if_pos h0)
end
noncomputable section
-- PART c13yf05.sq
-- SQUARES of the class
def k_pl (x y : Int64) : Int64 := if x = -1 ∨ y = -1 ∨ 9223372036854775807 - y < x then -1 else x + y
def k_ti (n : Int32) (x : Int64) : Int64 := if n = 0 then 0 else if x = -1 ∨ 9223372036854775807 / n.toInt64 < x then -1 else n.toInt64 * x
def k_r3 (x y z : Int64) (a b : Int32) : Int64 := k_pl x (k_pl (k_ti a y) (k_ti b z))
/-- one row behind another digit -/
def k_fr (M : ip_H) (A r : Nat) (x y z : Int64) (a b : Int32) (t : Bool) : ip_H := ip_uL (ip_uL (ip_uL M A r (if t = true then z else y)) A (r + 1) (if t = true then y else z)) A (r + 2) (k_r3 x y z a b)
def k_nx (g : Nat → Int64) (a b : Int32) (t : Bool) (j : Nat) : Int64 := if j = 0 then (if t = true then g 2 else g 1) else if j = 1 then (if t = true then g 1 else g 2) else if j = 2 then k_r3 (g 0) (g 1) (g 2) a b else if j = 3 then (if t = true then g 5 else g 4) else if j = 4 then (if t = true then g 4 else g 5) else if j = 5 then k_r3 (g 3) (g 4) (g 5) a b else if j = 6 then (if t = true then g 8 else g 7) else if j = 7 then (if t = true then g 7 else g 8) else if j = 8 then k_r3 (g 6) (g 7) (g 8) a b else g j
/-- a square behind which another digit's comes -/
def k_fo (M : ip_H) (A : Nat) (a b : Int32) (t : Bool) : ip_H := ip_sL M A (k_nx (M.2.2.1 A) a b t)
theorem k_fo_R (M : ip_H) (A : Nat) (a b : Int32) (t : Bool) : (k_fo M A a b t).2.2.2 = M.2.2.2 := rfl
theorem k_fo_sh (M : ip_H) (A : Nat) (a b : Int32) (t : Bool) (k : Nat) : ip_sh (k_fo M A a b t) k = ip_sh M k := rfl
theorem k_fo_o (M : ip_H) (A : Nat) (a b : Int32) (t : Bool) (k : Nat) (h : ¬ k = A) : (k_fo M A a b t).2.2.1 k = M.2.2.1 k := by
  funext j
  unfold k_fo
  rw [ip_sL_L, if_neg h]
theorem k_fo_A (M : ip_H) (A : Nat) (a b : Int32) (t : Bool) : (k_fo M A a b t).2.2.1 A = k_nx (M.2.2.1 A) a b t := by
  funext j
  unfold k_fo
  rw [ip_sL_L, if_pos rfl]
theorem k_fr_L {j : Nat} (M : ip_H) (A r : Nat) (x y z : Int64) (a b : Int32) (t : Bool) (h : ¬ (r ≤ j ∧ j < r + 3)) : (k_fr M A r x y z a b t).2.2.1 A j = M.2.2.1 A j := by
  unfold k_fr
  rw [ip_uL_L, if_neg (by omega), ip_uL_L, if_neg (by omega), ip_uL_L, if_neg (by omega)]
theorem k_fr3 (M : ip_H) (A : Nat) (a b : Int32) (t : Bool) : k_fr (k_fr (k_fr M A 0 (M.2.2.1 A 0) (M.2.2.1 A 1) (M.2.2.1 A 2) a b t) A 3 (M.2.2.1 A 3) (M.2.2.1 A 4) (M.2.2.1 A 5) a b t) A 6 (M.2.2.1 A 6) (M.2.2.1 A 7) (M.2.2.1 A 8) a b t = k_fo M A a b t := by
  refine Prod.ext rfl (Prod.ext rfl (Prod.ext ?_ rfl))
  funext x y
  unfold k_fr k_fo k_nx
  rw [ip_sL_L]
  simp only [ip_uL_L, Nat.reduceAdd]
  by_cases h : x = A
  · subst h
    simp only [true_and, ↓reduceIte]
    by_cases h8 : y = 8
    · subst h8; rfl
    by_cases h7 : y = 7
    · subst h7; rfl
    by_cases h6 : y = 6
    · subst h6; rfl
    by_cases h5 : y = 5
    · subst h5; rfl
    by_cases h4 : y = 4
    · subst h4; rfl
    by_cases h3 : y = 3
    · subst h3; rfl
    by_cases h2 : y = 2
    · subst h2; rfl
    by_cases h1 : y = 1
    · subst h1; rfl
    by_cases h0 : y = 0
    · subst h0; rfl
    simp only [h0, h1, h2, h3, h4, h5, h6, h7, h8, ↓reduceIte]
  · simp only [h, false_and, ↓reduceIte]
/-- a number above the longs among n from k on -/
def k_bn (g : Nat → Int64) : Nat → Nat → Bool
  | 0, _ => false
  | n + 1, k => decide (g k = -1) || k_bn g n (k + 1)
def k_ab (g : Nat → Int64) (m : Int64) : Nat → Nat → Bool
  | 0, _ => false
  | n + 1, k => decide (m < g k) || k_ab g m n (k + 1)
theorem k9l (k : Nat) (h : k < 2147483648) : (Int32.ofNat k < 9) = (k < 9) := by
  rw [show (9 : Int32) = Int32.ofNat 9 from rfl, ip_nlt _ _ h (by decide)]
theorem z_o0 : Int64.ofInt 0 = 0 := rfl
theorem z_o1 : Int64.ofInt 1 = 1 := rfl
-- the reference's squares are the same
theorem kq_pl {x y : Int64} (hx : 0 ≤ x.toInt) (hy : 0 ≤ y.toInt) : (k_pl x y = if (q_pl false x y).2 = true then -1 else (q_pl false x y).1) := by
  have e1 : ¬ x = -1 := fun e => by rw [e] at hx; exact absurd hx (by decide)
  have e2 : ¬ y = -1 := fun e => by rw [e] at hy; exact absurd hy (by decide)
  unfold k_pl q_pl
  simp only [e1, e2, false_or, Bool.false_or, decide_eq_true_eq]
  split
  · rfl
  · rfl
theorem w_z {a : Int32} : (a.toInt64 = 0) = (a = 0) := by
  apply propext
  rw [← Int64.toInt_inj, ← Int32.toInt_inj, Int32.toInt_toInt64]
  rfl
theorem kq_ti {n : Int32} {x : Int64} (hx : 0 ≤ x.toInt) : (k_ti n x = if (q_ti false x n.toInt64).2 = true then -1 else (q_ti false x n.toInt64).1) := by
  have e1 : ¬ x = -1 := fun e => by rw [e] at hx; exact absurd hx (by decide)
  unfold k_ti q_ti
  by_cases h : n = 0
  · subst h
    simp only [e1, false_or, Bool.false_or, ↓reduceIte]
    rw [show (0 : Int32).toInt64 = 0 from rfl, decide_eq_true (rfl : (0 : Int64) = 0), Bool.not_true, Bool.false_and]
    simp only [Bool.false_eq_true, ↓reduceIte]
    rw [Int64.mul_zero]
  · have h2 : ¬ n.toInt64 = 0 := by rw [w_z]; exact h
    simp only [h, e1, false_or, Bool.false_or, ↓reduceIte]
    rw [decide_eq_false h2, Bool.not_false, Bool.true_and]
    by_cases c : 9223372036854775807 / n.toInt64 < x
    · simp only [c, decide_true, ↓reduceIte]
    · simp only [c, decide_false, Bool.false_eq_true, ↓reduceIte]
      exact Int64.mul_comm _ _
theorem q_pl_t (a b : Int64) : (q_pl true a b).2 = true := rfl
theorem q_ti_t (a b : Int64) : (q_ti true a b).2 = true := rfl
/-- a row: what the class lays, by what the reference does -/
theorem kq_row {x y z : Int64} {a b : Int32} (hx : 0 ≤ x.toInt) (hy : 0 ≤ y.toInt) (hz : 0 ≤ z.toInt) (ha : 0 ≤ a.toInt) (hb : 0 ≤ b.toInt) : k_r3 x y z a b = if (q_row false x y z a.toInt64 b.toInt64).2 = true then -1 else (q_row false x y z a.toInt64 b.toInt64).1 := by
  have ha' : 0 ≤ a.toInt64.toInt := by rw [Int32.toInt_toInt64]; exact ha
  have hb' : 0 ≤ b.toInt64.toInt := by rw [Int32.toInt_toInt64]; exact hb
  have t1 := kq_ti (n := a) hy
  have t2 := kq_ti (n := b) hz
  have n1 := q_ti_nn (B := false) hy ha'
  have n2 := q_ti_nn (B := false) hz hb'
  unfold k_r3 q_row
  cases h1 : (q_ti false y a.toInt64).2
  · rw [h1] at t1
    simp only [Bool.false_eq_true, ↓reduceIte] at t1
    cases h2 : (q_ti false z b.toInt64).2
    · rw [h2] at t2
      simp only [Bool.false_eq_true, ↓reduceIte] at t2
      rw [t1, t2]
      have p1 := kq_pl n1 n2
      have m1 := q_pl_nn (B := false) n1 n2
      cases h3 : (q_pl false (q_ti false y a.toInt64).1 (q_ti false z b.toInt64).1).2
      · rw [h3] at p1
        simp only [Bool.false_eq_true, ↓reduceIte] at p1
        rw [p1]
        exact kq_pl hx m1
      · rw [h3] at p1
        simp only [↓reduceIte] at p1
        rw [p1, q_pl_t]
        unfold k_pl
        simp only [true_or, or_true, ↓reduceIte]
    · rw [h2] at t2
      simp only [↓reduceIte] at t2
      rw [t2, q_pl_t, q_pl_t]
      unfold k_pl
      simp only [true_or, or_true, ↓reduceIte]
  · rw [h1] at t1
    simp only [↓reduceIte] at t1
    rw [t1, q_ti_t, q_pl_t, q_pl_t]
    unfold k_pl
    simp only [true_or, or_true, ↓reduceIte]
theorem m1_nn {x : Int64} (h : 0 ≤ x.toInt) : ¬ x = -1 := fun e => by rw [e] at h; exact absurd h (by decide)
theorem q_row_t (x y z a b : Int64) : (q_row true x y z a b).2 = true := rfl
/-- whether a number is above the longs: for both the same; if not, both are the same square -/
theorem kq_nx {g : Nat → Int64} (hg : ∀ j, j < 9 → 0 ≤ (g j).toInt) {a b : Int32} (ha : 0 ≤ a.toInt) (hb : 0 ≤ b.toInt) (t : Bool) : k_bn (k_nx g a b t) 9 0 = (q_c false g a.toInt64 b.toInt64).2 ∧ ((q_c false g a.toInt64 b.toInt64).2 = false → ∀ j, j < 9 → k_nx g a b t j = q_nx false g a.toInt64 b.toInt64 t j) := by
  have g0 := hg 0 (by decide)
  have g1 := hg 1 (by decide)
  have g2 := hg 2 (by decide)
  have g3 := hg 3 (by decide)
  have g4 := hg 4 (by decide)
  have g5 := hg 5 (by decide)
  have g6 := hg 6 (by decide)
  have g7 := hg 7 (by decide)
  have g8 := hg 8 (by decide)
  have ha' : 0 ≤ a.toInt64.toInt := by rw [Int32.toInt_toInt64]; exact ha
  have hb' : 0 ≤ b.toInt64.toInt := by rw [Int32.toInt_toInt64]; exact hb
  have r0 := kq_row (a := a) (b := b) g0 g1 g2 ha hb
  have r1 := kq_row (a := a) (b := b) g3 g4 g5 ha hb
  have r2 := kq_row (a := a) (b := b) g6 g7 g8 ha hb
  have n0 := q_row_nn (B := false) g0 g1 g2 ha' hb'
  have n1 := q_row_nn (B := false) g3 g4 g5 ha' hb'
  have n2 := q_row_nn (B := false) g6 g7 g8 ha' hb'
  have x0 : ∀ u v : Int64, 0 ≤ u.toInt → 0 ≤ v.toInt → ((if t = true then u else v) = -1) = False := fun u v hu hv => by
    cases t
    · exact eq_false (m1_nn hv)
    · exact eq_false (m1_nn hu)
  have eB : k_bn (k_nx g a b t) 9 0 = (decide (k_r3 (g 0) (g 1) (g 2) a b = -1) || (decide (k_r3 (g 3) (g 4) (g 5) a b = -1) || decide (k_r3 (g 6) (g 7) (g 8) a b = -1))) := by
    unfold k_bn k_bn k_bn k_bn k_bn k_bn k_bn k_bn k_bn k_bn k_nx
    simp (decide := true) only [↓reduceIte, x0 _ _ g2 g1, x0 _ _ g1 g2, x0 _ _ g5 g4, x0 _ _ g4 g5, x0 _ _ g8 g7, x0 _ _ g7 g8, decide_false, Bool.false_or, Bool.or_false]
  rw [eB]
  unfold q_nx q_c q_b q_a
  cases h0 : (q_row false (g 0) (g 1) (g 2) a.toInt64 b.toInt64).2
  · rw [h0] at r0
    simp only [Bool.false_eq_true, ↓reduceIte] at r0
    cases h1 : (q_row false (g 3) (g 4) (g 5) a.toInt64 b.toInt64).2
    · rw [h1] at r1
      simp only [Bool.false_eq_true, ↓reduceIte] at r1
      cases h2 : (q_row false (g 6) (g 7) (g 8) a.toInt64 b.toInt64).2
      · rw [h2] at r2
        simp only [Bool.false_eq_true, ↓reduceIte] at r2
        rw [r0, r1, r2, decide_eq_false (m1_nn n0), decide_eq_false (m1_nn n1), decide_eq_false (m1_nn n2)]
        refine ⟨rfl, fun _ j hj => ?_⟩
        have eb : q_b false g a.toInt64 b.toInt64 = q_row false (g 3) (g 4) (g 5) a.toInt64 b.toInt64 := by
          unfold q_b q_a
          rw [h0]
        have ec : q_c false g a.toInt64 b.toInt64 = q_row false (g 6) (g 7) (g 8) a.toInt64 b.toInt64 := by
          unfold q_c
          rw [eb, h1]
        have hc : j = 0 ∨ j = 1 ∨ j = 2 ∨ j = 3 ∨ j = 4 ∨ j = 5 ∨ j = 6 ∨ j = 7 ∨ j = 8 := by omega
        rcases hc with rfl | rfl | rfl | rfl | rfl | rfl | rfl | rfl | rfl
        · rfl
        · rfl
        · exact r0
        · rfl
        · rfl
        · first | exact r1 | exact r1.trans (congrArg Prod.fst eb).symm
        · rfl
        · rfl
        · first | exact r2 | exact r2.trans (congrArg Prod.fst ec).symm
      · rw [h2] at r2
        simp only [↓reduceIte] at r2
        rw [r2, decide_eq_true rfl, Bool.or_true, Bool.or_true]
        exact ⟨rfl, fun h => absurd h (by decide)⟩
    · rw [h1] at r1
      simp only [↓reduceIte] at r1
      rw [r1, decide_eq_true rfl, Bool.true_or, Bool.or_true, q_row_t]
      exact ⟨rfl, fun h => absurd h (by decide)⟩
  · rw [h0] at r0
    simp only [↓reduceIte] at r0
    rw [r0, decide_eq_true rfl, Bool.true_or, q_row_t, q_row_t]
    exact ⟨rfl, fun h => absurd h (by decide)⟩

set_option maxHeartbeats 40000000 in
set_option maxRecDepth 100000 in
theorem s_67 (X : ip_X) (M : ip_H) (K : Option Value → ip_H → Prop) (x y : Int64) : ip_wp X 67 0 [.long x, .retAddr 1, .long y, .retAddr 1] [] M K = K (some (.long (k_pl x y))) M := by
  unfold k_pl
  by_cases h1 : x = -1
  · simp (config := { maxSteps := 10000000, maxDischargeDepth := 30, decide := true }) only [w67_0, w67_1, w67_4, w67_5, w67_8, w67_9, w67_12, w67_13, w67_16, w67_17, w67_20, w67_21, w67_22, w67_23, w67_26, w67_29, w67_30, w67_31, w67_32, w67_33, ↓ip_kl0, ↓reduceIte, true_or, h1, true_or]
  · by_cases h2 : y = -1
    · simp (config := { maxSteps := 10000000, maxDischargeDepth := 30, decide := true }) only [w67_0, w67_1, w67_4, w67_5, w67_8, w67_9, w67_12, w67_13, w67_16, w67_17, w67_20, w67_21, w67_22, w67_23, w67_26, w67_29, w67_30, w67_31, w67_32, w67_33, ↓ip_kl0, ↓ip_kl2, ↓reduceIte, true_or, or_true, Int64.reduceSub, ip_cmp_eq, h1, h2, or_true, true_or]
    · by_cases h3 : 9223372036854775807 - y < x
      · simp (config := { maxSteps := 10000000, maxDischargeDepth := 30, decide := true }) only [w67_0, w67_1, w67_4, w67_5, w67_8, w67_9, w67_12, w67_13, w67_16, w67_17, w67_20, w67_21, w67_22, w67_23, w67_26, w67_29, w67_30, w67_31, w67_32, w67_33, ↓ip_kl0, ↓ip_kl2, ↓reduceIte, or_true, ip_cmp_gt, ip_cmp_eq, h1, h2, h3, or_true]
      · simp (config := { maxSteps := 10000000, maxDischargeDepth := 30, decide := true }) only [w67_0, w67_1, w67_4, w67_5, w67_8, w67_9, w67_12, w67_13, w67_16, w67_17, w67_20, w67_21, w67_22, w67_23, w67_26, w67_29, w67_30, w67_31, w67_32, w67_33, ↓ip_kl0, ↓ip_kl2, ↓reduceIte, or_false, ip_cmp_gt, ip_cmp_eq, h1, h2, h3, or_false]

set_option maxHeartbeats 40000000 in
set_option maxRecDepth 100000 in
theorem s_68 (X : ip_X) (M : ip_H) (K : Option Value → ip_H → Prop) (n : Int32) (x : Int64) : ip_wp X 68 0 [.int n, .long x, .retAddr 1] [] M K = K (some (.long (k_ti n x))) M := by
  unfold k_ti
  by_cases h0 : n = 0
  · simp (config := { maxSteps := 10000000, maxDischargeDepth := 30, decide := true }) only [w68_0, w68_1, w68_4, w68_5, w68_6, w68_7, w68_10, w68_11, w68_14, w68_15, w68_18, w68_19, w68_20, w68_21, w68_22, w68_25, w68_28, w68_29, w68_30, w68_31, w68_32, w68_33, ↓ip_ki0, ↓reduceIte, h0]
  · have h4 : ¬ n.toInt64 = 0 := by rw [w_z]; exact h0
    by_cases h1 : x = -1
    · simp (config := { maxSteps := 10000000, maxDischargeDepth := 30, decide := true }) only [w68_0, w68_1, w68_4, w68_5, w68_6, w68_7, w68_10, w68_11, w68_14, w68_15, w68_18, w68_19, w68_20, w68_21, w68_22, w68_25, w68_28, w68_29, w68_30, w68_31, w68_32, w68_33, ↓ip_ki0, ↓ip_kl1, ↓reduceIte, true_or, h0, h1, true_or]
    · by_cases h3 : 9223372036854775807 / n.toInt64 < x
      · simp (config := { maxSteps := 10000000, maxDischargeDepth := 30, decide := true }) only [w68_0, w68_1, w68_4, w68_5, w68_6, w68_7, w68_10, w68_11, w68_14, w68_15, w68_18, w68_19, w68_20, w68_21, w68_22, w68_25, w68_28, w68_29, w68_30, w68_31, w68_32, w68_33, ↓ip_ki0, ↓ip_kl1, ↓reduceIte, or_true, not_false_eq_true, ip_cmp_gt, ip_cmp_eq, h0, h1, h3, h4, or_true]
      · simp (config := { maxSteps := 10000000, maxDischargeDepth := 30, decide := true }) only [w68_0, w68_1, w68_4, w68_5, w68_6, w68_7, w68_10, w68_11, w68_14, w68_15, w68_18, w68_19, w68_20, w68_21, w68_22, w68_25, w68_28, w68_29, w68_30, w68_31, w68_32, w68_33, ↓ip_ki0, ↓ip_kl1, ↓reduceIte, or_false, not_false_eq_true, ip_cmp_gt, ip_cmp_eq, h0, h1, h3, h4, or_false]

set_option maxHeartbeats 40000000 in
set_option maxRecDepth 100000 in
theorem s_66_f0 (X : ip_X) (M : ip_H) (K : Option Value → ip_H → Prop) (S A : Nat) (hs : ip_sh M S = (0, 4, 1)) (hr : M.2.2.2 S 0 = some A) (ha : ip_sh M A = (1, 1, 9)) (a b : Int32) (w5 w6 w7 w8 w9 w10 : Value) : ip_wp X 66 3 [.ref S, .int a, .int b, .int 0, .int 0, w5, w6, w7, w8, w9, w10] [] M K = ip_wp X 66 3 [.ref S, .int a, .int b, .int 0, .int 3, .long (M.2.2.1 A 0), .retAddr 1, .long (M.2.2.1 A 1), .retAddr 1, .long (M.2.2.1 A 2), .retAddr 1] [] (k_fr M A 0 (M.2.2.1 A 0) (M.2.2.1 A 1) (M.2.2.1 A 2) a b false) K := by
  have t68 := fun (N : ip_H) K (n : Int32) (x : Int64) => s_68 X N K n x
  have t67 := fun (N : ip_H) K (x y : Int64) => s_67 X N K x y
  generalize hR : ip_wp X 66 3 [.ref S, .int a, .int b, .int 0, .int 3, .long (M.2.2.1 A 0), .retAddr 1, .long (M.2.2.1 A 1), .retAddr 1, .long (M.2.2.1 A 2), .retAddr 1] [] (k_fr M A 0 (M.2.2.1 A 0) (M.2.2.1 A 1) (M.2.2.1 A 2) a b false) K = Q
  simp (config := { maxSteps := 10000000, maxDischargeDepth := 30, decide := true }) only [w66_3, w66_5, w66_7, w66_10, w66_11, w66_14, w66_16, w66_17, w66_19, w66_20, w66_23, w66_25, w66_26, w66_27, w66_28, w66_30, w66_31, w66_34, w66_36, w66_37, w66_38, w66_39, w66_41, w66_42, w66_45, w66_47, w66_48, w66_51, w66_53, w66_56, w66_58, w66_59, w66_60, w66_63, w66_65, w66_66, w66_67, w66_68, w66_71, w66_73, w66_76, w66_78, w66_79, w66_80, w66_83, w66_85, w66_86, w66_87, w66_89, w66_90, w66_92, w66_95, w66_96, w66_98, w66_101, w66_104, w66_107, w66_108, ↓ip_ka0, ↓ip_ki1, ↓ip_ki2, ↓ip_ki3, ↓ip_ki4, ↓ip_kl5, ↓ip_kl7, ↓ip_kl9, ip_get_0, ip_get_s, ip_set1, ip_set2, ip_clr_s, ip_cat_i, ip_cat_a, List.set_cons_zero, List.set_cons_succ, ip_uL_R, ip_uL_sh, ip_vr_some, Option.toList_some, List.nil_append, List.cons_append, List.length_nil, List.length_cons, ↓reduceIte, Nat.reduceAdd, Nat.reduceLeDiff, Nat.reduceEqDiff, Nat.zero_add, Int32.reduceAdd, Int32.reduceToNatClampNeg, ip_ix_eq, hs, hr, ha, t67, t68]
  rw [w66_111, ← hR]
  unfold k_fr k_r3
  simp only [Bool.false_eq_true, ↓reduceIte]

set_option maxHeartbeats 40000000 in
set_option maxRecDepth 100000 in
theorem s_66_f3 (X : ip_X) (M : ip_H) (K : Option Value → ip_H → Prop) (S A : Nat) (hs : ip_sh M S = (0, 4, 1)) (hr : M.2.2.2 S 0 = some A) (ha : ip_sh M A = (1, 1, 9)) (a b : Int32) (w5 w6 w7 w8 w9 w10 : Value) : ip_wp X 66 3 [.ref S, .int a, .int b, .int 0, .int 3, w5, w6, w7, w8, w9, w10] [] M K = ip_wp X 66 3 [.ref S, .int a, .int b, .int 0, .int 6, .long (M.2.2.1 A 3), .retAddr 1, .long (M.2.2.1 A 4), .retAddr 1, .long (M.2.2.1 A 5), .retAddr 1] [] (k_fr M A 3 (M.2.2.1 A 3) (M.2.2.1 A 4) (M.2.2.1 A 5) a b false) K := by
  have t68 := fun (N : ip_H) K (n : Int32) (x : Int64) => s_68 X N K n x
  have t67 := fun (N : ip_H) K (x y : Int64) => s_67 X N K x y
  generalize hR : ip_wp X 66 3 [.ref S, .int a, .int b, .int 0, .int 6, .long (M.2.2.1 A 3), .retAddr 1, .long (M.2.2.1 A 4), .retAddr 1, .long (M.2.2.1 A 5), .retAddr 1] [] (k_fr M A 3 (M.2.2.1 A 3) (M.2.2.1 A 4) (M.2.2.1 A 5) a b false) K = Q
  simp (config := { maxSteps := 10000000, maxDischargeDepth := 30, decide := true }) only [w66_3, w66_5, w66_7, w66_10, w66_11, w66_14, w66_16, w66_17, w66_19, w66_20, w66_23, w66_25, w66_26, w66_27, w66_28, w66_30, w66_31, w66_34, w66_36, w66_37, w66_38, w66_39, w66_41, w66_42, w66_45, w66_47, w66_48, w66_51, w66_53, w66_56, w66_58, w66_59, w66_60, w66_63, w66_65, w66_66, w66_67, w66_68, w66_71, w66_73, w66_76, w66_78, w66_79, w66_80, w66_83, w66_85, w66_86, w66_87, w66_89, w66_90, w66_92, w66_95, w66_96, w66_98, w66_101, w66_104, w66_107, w66_108, ↓ip_ka0, ↓ip_ki1, ↓ip_ki2, ↓ip_ki3, ↓ip_ki4, ↓ip_kl5, ↓ip_kl7, ↓ip_kl9, ip_get_0, ip_get_s, ip_set1, ip_set2, ip_clr_s, ip_cat_i, ip_cat_a, List.set_cons_zero, List.set_cons_succ, ip_uL_R, ip_uL_sh, ip_vr_some, Option.toList_some, List.nil_append, List.cons_append, List.length_nil, List.length_cons, ↓reduceIte, Nat.reduceAdd, Nat.reduceLeDiff, Nat.reduceEqDiff, Nat.zero_add, Int32.reduceAdd, Int32.reduceToNatClampNeg, ip_ix_eq, hs, hr, ha, t67, t68]
  rw [w66_111, ← hR]
  unfold k_fr k_r3
  simp only [Bool.false_eq_true, ↓reduceIte]

set_option maxHeartbeats 40000000 in
set_option maxRecDepth 100000 in
theorem s_66_f6 (X : ip_X) (M : ip_H) (K : Option Value → ip_H → Prop) (S A : Nat) (hs : ip_sh M S = (0, 4, 1)) (hr : M.2.2.2 S 0 = some A) (ha : ip_sh M A = (1, 1, 9)) (a b : Int32) (w5 w6 w7 w8 w9 w10 : Value) : ip_wp X 66 3 [.ref S, .int a, .int b, .int 0, .int 6, w5, w6, w7, w8, w9, w10] [] M K = ip_wp X 66 3 [.ref S, .int a, .int b, .int 0, .int 9, .long (M.2.2.1 A 6), .retAddr 1, .long (M.2.2.1 A 7), .retAddr 1, .long (M.2.2.1 A 8), .retAddr 1] [] (k_fr M A 6 (M.2.2.1 A 6) (M.2.2.1 A 7) (M.2.2.1 A 8) a b false) K := by
  have t68 := fun (N : ip_H) K (n : Int32) (x : Int64) => s_68 X N K n x
  have t67 := fun (N : ip_H) K (x y : Int64) => s_67 X N K x y
  generalize hR : ip_wp X 66 3 [.ref S, .int a, .int b, .int 0, .int 9, .long (M.2.2.1 A 6), .retAddr 1, .long (M.2.2.1 A 7), .retAddr 1, .long (M.2.2.1 A 8), .retAddr 1] [] (k_fr M A 6 (M.2.2.1 A 6) (M.2.2.1 A 7) (M.2.2.1 A 8) a b false) K = Q
  simp (config := { maxSteps := 10000000, maxDischargeDepth := 30, decide := true }) only [w66_3, w66_5, w66_7, w66_10, w66_11, w66_14, w66_16, w66_17, w66_19, w66_20, w66_23, w66_25, w66_26, w66_27, w66_28, w66_30, w66_31, w66_34, w66_36, w66_37, w66_38, w66_39, w66_41, w66_42, w66_45, w66_47, w66_48, w66_51, w66_53, w66_56, w66_58, w66_59, w66_60, w66_63, w66_65, w66_66, w66_67, w66_68, w66_71, w66_73, w66_76, w66_78, w66_79, w66_80, w66_83, w66_85, w66_86, w66_87, w66_89, w66_90, w66_92, w66_95, w66_96, w66_98, w66_101, w66_104, w66_107, w66_108, ↓ip_ka0, ↓ip_ki1, ↓ip_ki2, ↓ip_ki3, ↓ip_ki4, ↓ip_kl5, ↓ip_kl7, ↓ip_kl9, ip_get_0, ip_get_s, ip_set1, ip_set2, ip_clr_s, ip_cat_i, ip_cat_a, List.set_cons_zero, List.set_cons_succ, ip_uL_R, ip_uL_sh, ip_vr_some, Option.toList_some, List.nil_append, List.cons_append, List.length_nil, List.length_cons, ↓reduceIte, Nat.reduceAdd, Nat.reduceLeDiff, Nat.reduceEqDiff, Nat.zero_add, Int32.reduceAdd, Int32.reduceToNatClampNeg, ip_ix_eq, hs, hr, ha, t67, t68]
  rw [w66_111, ← hR]
  unfold k_fr k_r3
  simp only [Bool.false_eq_true, ↓reduceIte]

set_option maxHeartbeats 40000000 in
set_option maxRecDepth 100000 in
theorem s_66_f (X : ip_X) (M : ip_H) (K : Option Value → ip_H → Prop) (S A : Nat) (hs : ip_sh M S = (0, 4, 1)) (hr : M.2.2.2 S 0 = some A) (ha : ip_sh M A = (1, 1, 9)) (a b : Int32) : ip_wp X 66 0 [.ref S, .int a, .int b, .int 0, .retAddr 1, .retAddr 1, .retAddr 1, .retAddr 1, .retAddr 1, .retAddr 1, .retAddr 1] [] M K = K none (k_fo M A a b false) := by
  have t : ip_wp X 66 0 [.ref S, .int a, .int b, .int 0, .retAddr 1, .retAddr 1, .retAddr 1, .retAddr 1, .retAddr 1, .retAddr 1, .retAddr 1] [] M K = ip_wp X 66 3 [.ref S, .int a, .int b, .int 0, .int 0, .retAddr 1, .retAddr 1, .retAddr 1, .retAddr 1, .retAddr 1, .retAddr 1] [] M K := by
    simp (config := { maxSteps := 10000000, maxDischargeDepth := 30, decide := true }) only [w66_0, w66_1, ip_get_0, ip_get_s, ip_set1, ip_clr_s, ip_cat_i, List.set_cons_zero, List.set_cons_succ, ↓reduceIte, Nat.reduceEqDiff]
  rw [t, s_66_f0 X M K S A hs hr ha, s_66_f3 X (k_fr M A 0 (M.2.2.1 A 0) (M.2.2.1 A 1) (M.2.2.1 A 2) a b false) K S A hs hr ha, k_fr_L (j := 3) _ _ _ _ _ _ _ _ _ (by decide), k_fr_L (j := 4) _ _ _ _ _ _ _ _ _ (by decide), k_fr_L (j := 5) _ _ _ _ _ _ _ _ _ (by decide), s_66_f6 X (k_fr (k_fr M A 0 (M.2.2.1 A 0) (M.2.2.1 A 1) (M.2.2.1 A 2) a b false) A 3 (M.2.2.1 A 3) (M.2.2.1 A 4) (M.2.2.1 A 5) a b false) K S A hs hr ha, k_fr_L (j := 6) _ _ _ _ _ _ _ _ _ (by decide), k_fr_L (j := 6) _ _ _ _ _ _ _ _ _ (by decide), k_fr_L (j := 7) _ _ _ _ _ _ _ _ _ (by decide), k_fr_L (j := 7) _ _ _ _ _ _ _ _ _ (by decide), k_fr_L (j := 8) _ _ _ _ _ _ _ _ _ (by decide), k_fr_L (j := 8) _ _ _ _ _ _ _ _ _ (by decide), k_fr3]
  simp (config := { maxSteps := 10000000, maxDischargeDepth := 30, decide := true }) only [w66_3, w66_5, w66_7, w66_114, ↓ip_ki4, ↓reduceIte]

set_option maxHeartbeats 40000000 in
set_option maxRecDepth 100000 in
theorem s_66_t0 (X : ip_X) (M : ip_H) (K : Option Value → ip_H → Prop) (S A : Nat) (hs : ip_sh M S = (0, 4, 1)) (hr : M.2.2.2 S 0 = some A) (ha : ip_sh M A = (1, 1, 9)) (a b : Int32) (w5 w6 w7 w8 w9 w10 : Value) : ip_wp X 66 3 [.ref S, .int a, .int b, .int 1, .int 0, w5, w6, w7, w8, w9, w10] [] M K = ip_wp X 66 3 [.ref S, .int a, .int b, .int 1, .int 3, .long (M.2.2.1 A 0), .retAddr 1, .long (M.2.2.1 A 1), .retAddr 1, .long (M.2.2.1 A 2), .retAddr 1] [] (k_fr M A 0 (M.2.2.1 A 0) (M.2.2.1 A 1) (M.2.2.1 A 2) a b true) K := by
  have t68 := fun (N : ip_H) K (n : Int32) (x : Int64) => s_68 X N K n x
  have t67 := fun (N : ip_H) K (x y : Int64) => s_67 X N K x y
  generalize hR : ip_wp X 66 3 [.ref S, .int a, .int b, .int 1, .int 3, .long (M.2.2.1 A 0), .retAddr 1, .long (M.2.2.1 A 1), .retAddr 1, .long (M.2.2.1 A 2), .retAddr 1] [] (k_fr M A 0 (M.2.2.1 A 0) (M.2.2.1 A 1) (M.2.2.1 A 2) a b true) K = Q
  simp (config := { maxSteps := 10000000, maxDischargeDepth := 30, decide := true }) only [w66_3, w66_5, w66_7, w66_10, w66_11, w66_14, w66_16, w66_17, w66_19, w66_20, w66_23, w66_25, w66_26, w66_27, w66_28, w66_30, w66_31, w66_34, w66_36, w66_37, w66_38, w66_39, w66_41, w66_42, w66_45, w66_47, w66_48, w66_51, w66_53, w66_56, w66_58, w66_59, w66_60, w66_63, w66_65, w66_66, w66_67, w66_68, w66_71, w66_73, w66_76, w66_78, w66_79, w66_80, w66_83, w66_85, w66_86, w66_87, w66_89, w66_90, w66_92, w66_95, w66_96, w66_98, w66_101, w66_104, w66_107, w66_108, ↓ip_ka0, ↓ip_ki1, ↓ip_ki2, ↓ip_ki3, ↓ip_ki4, ↓ip_kl5, ↓ip_kl7, ↓ip_kl9, ip_get_0, ip_get_s, ip_set1, ip_set2, ip_clr_s, ip_cat_i, ip_cat_a, List.set_cons_zero, List.set_cons_succ, ip_uL_R, ip_uL_sh, ip_vr_some, Option.toList_some, List.nil_append, List.cons_append, List.length_nil, List.length_cons, ↓reduceIte, Nat.reduceAdd, Nat.reduceLeDiff, Nat.reduceEqDiff, Nat.zero_add, Int32.reduceAdd, Int32.reduceToNatClampNeg, ip_ix_eq, hs, hr, ha, t67, t68]
  rw [w66_111, ← hR]
  unfold k_fr k_r3
  simp only [Bool.false_eq_true, ↓reduceIte]

set_option maxHeartbeats 40000000 in
set_option maxRecDepth 100000 in
theorem s_66_t3 (X : ip_X) (M : ip_H) (K : Option Value → ip_H → Prop) (S A : Nat) (hs : ip_sh M S = (0, 4, 1)) (hr : M.2.2.2 S 0 = some A) (ha : ip_sh M A = (1, 1, 9)) (a b : Int32) (w5 w6 w7 w8 w9 w10 : Value) : ip_wp X 66 3 [.ref S, .int a, .int b, .int 1, .int 3, w5, w6, w7, w8, w9, w10] [] M K = ip_wp X 66 3 [.ref S, .int a, .int b, .int 1, .int 6, .long (M.2.2.1 A 3), .retAddr 1, .long (M.2.2.1 A 4), .retAddr 1, .long (M.2.2.1 A 5), .retAddr 1] [] (k_fr M A 3 (M.2.2.1 A 3) (M.2.2.1 A 4) (M.2.2.1 A 5) a b true) K := by
  have t68 := fun (N : ip_H) K (n : Int32) (x : Int64) => s_68 X N K n x
  have t67 := fun (N : ip_H) K (x y : Int64) => s_67 X N K x y
  generalize hR : ip_wp X 66 3 [.ref S, .int a, .int b, .int 1, .int 6, .long (M.2.2.1 A 3), .retAddr 1, .long (M.2.2.1 A 4), .retAddr 1, .long (M.2.2.1 A 5), .retAddr 1] [] (k_fr M A 3 (M.2.2.1 A 3) (M.2.2.1 A 4) (M.2.2.1 A 5) a b true) K = Q
  simp (config := { maxSteps := 10000000, maxDischargeDepth := 30, decide := true }) only [w66_3, w66_5, w66_7, w66_10, w66_11, w66_14, w66_16, w66_17, w66_19, w66_20, w66_23, w66_25, w66_26, w66_27, w66_28, w66_30, w66_31, w66_34, w66_36, w66_37, w66_38, w66_39, w66_41, w66_42, w66_45, w66_47, w66_48, w66_51, w66_53, w66_56, w66_58, w66_59, w66_60, w66_63, w66_65, w66_66, w66_67, w66_68, w66_71, w66_73, w66_76, w66_78, w66_79, w66_80, w66_83, w66_85, w66_86, w66_87, w66_89, w66_90, w66_92, w66_95, w66_96, w66_98, w66_101, w66_104, w66_107, w66_108, ↓ip_ka0, ↓ip_ki1, ↓ip_ki2, ↓ip_ki3, ↓ip_ki4, ↓ip_kl5, ↓ip_kl7, ↓ip_kl9, ip_get_0, ip_get_s, ip_set1, ip_set2, ip_clr_s, ip_cat_i, ip_cat_a, List.set_cons_zero, List.set_cons_succ, ip_uL_R, ip_uL_sh, ip_vr_some, Option.toList_some, List.nil_append, List.cons_append, List.length_nil, List.length_cons, ↓reduceIte, Nat.reduceAdd, Nat.reduceLeDiff, Nat.reduceEqDiff, Nat.zero_add, Int32.reduceAdd, Int32.reduceToNatClampNeg, ip_ix_eq, hs, hr, ha, t67, t68]
  rw [w66_111, ← hR]
  unfold k_fr k_r3
  simp only [Bool.false_eq_true, ↓reduceIte]

set_option maxHeartbeats 40000000 in
set_option maxRecDepth 100000 in
theorem s_66_t6 (X : ip_X) (M : ip_H) (K : Option Value → ip_H → Prop) (S A : Nat) (hs : ip_sh M S = (0, 4, 1)) (hr : M.2.2.2 S 0 = some A) (ha : ip_sh M A = (1, 1, 9)) (a b : Int32) (w5 w6 w7 w8 w9 w10 : Value) : ip_wp X 66 3 [.ref S, .int a, .int b, .int 1, .int 6, w5, w6, w7, w8, w9, w10] [] M K = ip_wp X 66 3 [.ref S, .int a, .int b, .int 1, .int 9, .long (M.2.2.1 A 6), .retAddr 1, .long (M.2.2.1 A 7), .retAddr 1, .long (M.2.2.1 A 8), .retAddr 1] [] (k_fr M A 6 (M.2.2.1 A 6) (M.2.2.1 A 7) (M.2.2.1 A 8) a b true) K := by
  have t68 := fun (N : ip_H) K (n : Int32) (x : Int64) => s_68 X N K n x
  have t67 := fun (N : ip_H) K (x y : Int64) => s_67 X N K x y
  generalize hR : ip_wp X 66 3 [.ref S, .int a, .int b, .int 1, .int 9, .long (M.2.2.1 A 6), .retAddr 1, .long (M.2.2.1 A 7), .retAddr 1, .long (M.2.2.1 A 8), .retAddr 1] [] (k_fr M A 6 (M.2.2.1 A 6) (M.2.2.1 A 7) (M.2.2.1 A 8) a b true) K = Q
  simp (config := { maxSteps := 10000000, maxDischargeDepth := 30, decide := true }) only [w66_3, w66_5, w66_7, w66_10, w66_11, w66_14, w66_16, w66_17, w66_19, w66_20, w66_23, w66_25, w66_26, w66_27, w66_28, w66_30, w66_31, w66_34, w66_36, w66_37, w66_38, w66_39, w66_41, w66_42, w66_45, w66_47, w66_48, w66_51, w66_53, w66_56, w66_58, w66_59, w66_60, w66_63, w66_65, w66_66, w66_67, w66_68, w66_71, w66_73, w66_76, w66_78, w66_79, w66_80, w66_83, w66_85, w66_86, w66_87, w66_89, w66_90, w66_92, w66_95, w66_96, w66_98, w66_101, w66_104, w66_107, w66_108, ↓ip_ka0, ↓ip_ki1, ↓ip_ki2, ↓ip_ki3, ↓ip_ki4, ↓ip_kl5, ↓ip_kl7, ↓ip_kl9, ip_get_0, ip_get_s, ip_set1, ip_set2, ip_clr_s, ip_cat_i, ip_cat_a, List.set_cons_zero, List.set_cons_succ, ip_uL_R, ip_uL_sh, ip_vr_some, Option.toList_some, List.nil_append, List.cons_append, List.length_nil, List.length_cons, ↓reduceIte, Nat.reduceAdd, Nat.reduceLeDiff, Nat.reduceEqDiff, Nat.zero_add, Int32.reduceAdd, Int32.reduceToNatClampNeg, ip_ix_eq, hs, hr, ha, t67, t68]
  rw [w66_111, ← hR]
  unfold k_fr k_r3
  simp only [Bool.false_eq_true, ↓reduceIte]

set_option maxHeartbeats 40000000 in
set_option maxRecDepth 100000 in
theorem s_66_t (X : ip_X) (M : ip_H) (K : Option Value → ip_H → Prop) (S A : Nat) (hs : ip_sh M S = (0, 4, 1)) (hr : M.2.2.2 S 0 = some A) (ha : ip_sh M A = (1, 1, 9)) (a b : Int32) : ip_wp X 66 0 [.ref S, .int a, .int b, .int 1, .retAddr 1, .retAddr 1, .retAddr 1, .retAddr 1, .retAddr 1, .retAddr 1, .retAddr 1] [] M K = K none (k_fo M A a b true) := by
  have t : ip_wp X 66 0 [.ref S, .int a, .int b, .int 1, .retAddr 1, .retAddr 1, .retAddr 1, .retAddr 1, .retAddr 1, .retAddr 1, .retAddr 1] [] M K = ip_wp X 66 3 [.ref S, .int a, .int b, .int 1, .int 0, .retAddr 1, .retAddr 1, .retAddr 1, .retAddr 1, .retAddr 1, .retAddr 1] [] M K := by
    simp (config := { maxSteps := 10000000, maxDischargeDepth := 30, decide := true }) only [w66_0, w66_1, ip_get_0, ip_get_s, ip_set1, ip_clr_s, ip_cat_i, List.set_cons_zero, List.set_cons_succ, ↓reduceIte, Nat.reduceEqDiff]
  rw [t, s_66_t0 X M K S A hs hr ha, s_66_t3 X (k_fr M A 0 (M.2.2.1 A 0) (M.2.2.1 A 1) (M.2.2.1 A 2) a b true) K S A hs hr ha, k_fr_L (j := 3) _ _ _ _ _ _ _ _ _ (by decide), k_fr_L (j := 4) _ _ _ _ _ _ _ _ _ (by decide), k_fr_L (j := 5) _ _ _ _ _ _ _ _ _ (by decide), s_66_t6 X (k_fr (k_fr M A 0 (M.2.2.1 A 0) (M.2.2.1 A 1) (M.2.2.1 A 2) a b true) A 3 (M.2.2.1 A 3) (M.2.2.1 A 4) (M.2.2.1 A 5) a b true) K S A hs hr ha, k_fr_L (j := 6) _ _ _ _ _ _ _ _ _ (by decide), k_fr_L (j := 6) _ _ _ _ _ _ _ _ _ (by decide), k_fr_L (j := 7) _ _ _ _ _ _ _ _ _ (by decide), k_fr_L (j := 7) _ _ _ _ _ _ _ _ _ (by decide), k_fr_L (j := 8) _ _ _ _ _ _ _ _ _ (by decide), k_fr_L (j := 8) _ _ _ _ _ _ _ _ _ (by decide), k_fr3]
  simp (config := { maxSteps := 10000000, maxDischargeDepth := 30, decide := true }) only [w66_3, w66_5, w66_7, w66_114, ↓ip_ki4, ↓reduceIte]

set_option maxHeartbeats 40000000 in
set_option maxRecDepth 100000 in
theorem s_64 (X : ip_X) (M : ip_H) (K : Option Value → ip_H → Prop) (S A : Nat) (hs : ip_sh M S = (0, 4, 1)) (hr : M.2.2.2 S 0 = some A) (ha : ip_sh M A = (1, 1, 9)) : ip_wp X 64 0 [.ref S] [] M K = K none (k_m9 M A 1 0 0 0 1 0 0 0 1) := by
  unfold k_m9
  simp (config := { maxSteps := 10000000, maxDischargeDepth := 30, decide := true }) only [w64_0, w64_1, w64_2, w64_3, w64_4, w64_5, w64_8, w64_9, w64_10, w64_11, w64_12, w64_13, w64_16, w64_17, w64_18, w64_19, w64_20, w64_21, w64_24, w63_0, w63_1, w63_2, w63_5, w63_8, w63_9, w63_10, w63_13, w63_14, w63_15, w63_16, w63_17, w63_18, w63_19, w63_22, w63_23, w63_24, w63_25, w63_26, w63_27, w63_29, w63_30, w63_31, w63_34, w63_35, w63_36, w63_37, w63_38, w63_39, w63_41, w63_42, w61_0, w61_1, w61_4, w61_5, w61_6, w61_9, w61_10, w61_13, w61_14, w61_15, w61_18, w61_19, w61_23, ↓ip_ki0, ↓ip_ka0, ↓ip_ki1, ↓ip_kl2, ↓ip_kl4, ↓ip_kl6, ip_uL_R, ip_uL_sh, ip_vr_some, Option.toList_some, Option.toList_none, List.nil_append, List.cons_append, List.length_nil, ↓reduceIte, Nat.zero_le, or_true, Int32.reduceAdd, Int32.reduceMul, Int32.reduceToNatClampNeg, ip_ix_eq, hs, hr, ha, z_o0, z_o1]

set_option maxHeartbeats 40000000 in
set_option maxRecDepth 100000 in
theorem s_65 (X : ip_X) (M : ip_H) (K : Option Value → ip_H → Prop) (S A T B : Nat) (hs : ip_sh M S = (0, 4, 1)) (hr : M.2.2.2 S 0 = some A) (ha : ip_sh M A = (1, 1, 9)) (ht : ip_sh M T = (0, 4, 1)) (hu : M.2.2.2 T 0 = some B) (hb : ip_sh M B = (1, 1, 9)) : ip_wp X 65 0 [.ref S, .ref T] [] M K = K none (ip_cpL M B A 0 0 9) := by
  simp (config := { maxSteps := 10000000, maxDischargeDepth := 30, decide := true }) only [w65_0, w65_1, w65_4, w65_5, w65_6, w65_9, w65_10, w65_12, w65_15, ↓ip_ka0, ↓ip_ka1, ip_vr_some, List.length_nil, ↓reduceIte, Nat.reduceLeDiff, Nat.reduceLT, Nat.zero_add, Nat.zero_le, true_or, and_self, not_false_eq_true, Int32.reduceLT, Int32.reduceToNatClampNeg, hs, hr, ha, ht, hu, hb, true_or]

set_option maxHeartbeats 40000000 in
set_option maxRecDepth 100000 in
theorem s_69l (X : ip_X) (M : ip_H) (K : Option Value → ip_H → Prop) (S A : Nat) (hs : ip_sh M S = (0, 4, 1)) (hr : M.2.2.2 S 0 = some A) (ha : ip_sh M A = (1, 1, 9)) : ∀ (n k : Nat), k + n = 9 → ip_wp X 69 2 [.ref S, .int (Int32.ofNat k)] [] M K = K (some (.int (ip_b (k_bn (M.2.2.1 A) n k)))) M := by
  intro n
  induction n with
  | zero =>
    intro k hk
    have g := k9l k (by omega)
    have g1 : ¬ k < 9 := by omega
    have e : k_bn (M.2.2.1 A) 0 k = false := rfl
    rw [e]
    simp (config := { maxSteps := 10000000, maxDischargeDepth := 30, decide := true }) only [w69_2, w69_3, w69_5, w69_29, w69_30, ↓ip_ki1, ↓reduceIte, or_false, ip_b_f, g, g1]
  | succ n ih =>
    intro k hk
    have g := k9l k (by omega)
    have g1 : (k < 9) = True := eq_true (by omega)
    have n0 := eq_false (ip_nn k (by omega))
    have c0 := ip_nc k (by omega)
    have ek : Int32.ofNat k + 1 = Int32.ofNat (k + 1) := ip_oa k 1
    have e : k_bn (M.2.2.1 A) (n + 1) k = (decide (M.2.2.1 A k = -1) || k_bn (M.2.2.1 A) n (k + 1)) := rfl
    rw [e]
    by_cases h : M.2.2.1 A k = -1
    · rw [decide_eq_true h, Bool.true_or]
      simp (config := { maxSteps := 10000000, maxDischargeDepth := 30, decide := true }) only [w69_2, w69_3, w69_5, w69_8, w69_9, w69_12, w69_13, w69_14, w69_17, w69_18, w69_21, w69_22, ↓ip_ka0, ↓ip_ki1, ip_vr_some, ↓reduceIte, or_true, and_self, not_false_eq_true, ip_b_t, ip_ix_eq, hs, hr, ha, g, g1, n0, c0, h]
    · rw [decide_eq_false h, Bool.false_or, ← ih (k + 1) (by omega)]
      generalize hR : ip_wp X 69 2 [.ref S, .int (Int32.ofNat (k + 1))] [] M K = Q
      simp (config := { maxSteps := 10000000, maxDischargeDepth := 30, decide := true }) only [w69_2, w69_3, w69_5, w69_8, w69_9, w69_12, w69_13, w69_14, w69_17, w69_18, w69_21, w69_22, w69_23, ↓ip_ka0, ↓ip_ki1, ip_get_0, ip_set1, ip_clr_s, ip_cat_r, List.set_cons_zero, List.set_cons_succ, ip_vr_some, ↓reduceIte, Nat.reduceEqDiff, and_self, not_false_eq_true, ip_ix_eq, ip_cmp_eq, hs, hr, ha, g, g1, n0, c0, ek, h]
      rw [w69_26, hR]

set_option maxHeartbeats 40000000 in
set_option maxRecDepth 100000 in
theorem s_69 (X : ip_X) (M : ip_H) (K : Option Value → ip_H → Prop) (S A : Nat) (hs : ip_sh M S = (0, 4, 1)) (hr : M.2.2.2 S 0 = some A) (ha : ip_sh M A = (1, 1, 9)) : ip_wp X 69 0 [.ref S, .retAddr 1] [] M K = K (some (.int (ip_b (k_bn (M.2.2.1 A) 9 0)))) M := by
  rw [← s_69l X M K S A hs hr ha 9 0 rfl]
  simp (config := { maxSteps := 10000000, maxDischargeDepth := 30, decide := true }) only [w69_0, w69_1, ip_get_0, ip_set1, ip_clr_s, ip_cat_r, List.set_cons_zero, List.set_cons_succ, ↓reduceIte, Nat.reduceEqDiff, Int32.reduceOfNat]

set_option maxHeartbeats 40000000 in
set_option maxRecDepth 100000 in
theorem s_70l (X : ip_X) (M : ip_H) (K : Option Value → ip_H → Prop) (S A : Nat) (hs : ip_sh M S = (0, 4, 1)) (hr : M.2.2.2 S 0 = some A) (ha : ip_sh M A = (1, 1, 9)) (m : Int64) : ∀ (n k : Nat), k + n = 9 → ip_wp X 70 2 [.ref S, .long m, .retAddr 1, .int (Int32.ofNat k)] [] M K = K (some (.int (ip_b (k_ab (M.2.2.1 A) m n k)))) M := by
  intro n
  induction n with
  | zero =>
    intro k hk
    have g := k9l k (by omega)
    have g1 : ¬ k < 9 := by omega
    have e : k_ab (M.2.2.1 A) m 0 k = false := rfl
    rw [e]
    simp (config := { maxSteps := 10000000, maxDischargeDepth := 30, decide := true }) only [w70_2, w70_3, w70_5, w70_27, w70_28, ↓ip_ki3, ↓reduceIte, or_false, ip_b_f, g, g1]
  | succ n ih =>
    intro k hk
    have g := k9l k (by omega)
    have g1 : (k < 9) = True := eq_true (by omega)
    have n0 := eq_false (ip_nn k (by omega))
    have c0 := ip_nc k (by omega)
    have ek : Int32.ofNat k + 1 = Int32.ofNat (k + 1) := ip_oa k 1
    have e : k_ab (M.2.2.1 A) m (n + 1) k = (decide (m < M.2.2.1 A k) || k_ab (M.2.2.1 A) m n (k + 1)) := rfl
    rw [e]
    by_cases h : m < M.2.2.1 A k
    · rw [decide_eq_true h, Bool.true_or]
      simp (config := { maxSteps := 10000000, maxDischargeDepth := 30, decide := true }) only [w70_2, w70_3, w70_5, w70_8, w70_9, w70_12, w70_13, w70_14, w70_15, w70_16, w70_19, w70_20, ↓ip_ka0, ↓ip_kl1, ↓ip_ki3, ip_vr_some, ↓reduceIte, or_true, and_self, not_false_eq_true, ip_b_t, ip_ix_eq, ip_cmp_gt, hs, hr, ha, g, g1, n0, c0, h]
    · rw [decide_eq_false h, Bool.false_or, ← ih (k + 1) (by omega)]
      generalize hR : ip_wp X 70 2 [.ref S, .long m, .retAddr 1, .int (Int32.ofNat (k + 1))] [] M K = Q
      simp (config := { maxSteps := 10000000, maxDischargeDepth := 30, decide := true }) only [w70_2, w70_3, w70_5, w70_8, w70_9, w70_12, w70_13, w70_14, w70_15, w70_16, w70_19, w70_20, w70_21, ↓ip_ka0, ↓ip_kl1, ↓ip_ki3, ip_get_0, ip_get_s, ip_set1, ip_clr_s, ip_cat_a, List.set_cons_zero, List.set_cons_succ, ip_vr_some, ↓reduceIte, Nat.reduceEqDiff, and_self, not_false_eq_true, ip_ix_eq, ip_cmp_gt, hs, hr, ha, g, g1, n0, c0, ek, h]
      rw [w70_24, hR]

set_option maxHeartbeats 40000000 in
set_option maxRecDepth 100000 in
theorem s_70 (X : ip_X) (M : ip_H) (K : Option Value → ip_H → Prop) (S A : Nat) (hs : ip_sh M S = (0, 4, 1)) (hr : M.2.2.2 S 0 = some A) (ha : ip_sh M A = (1, 1, 9)) (m : Int64) : ip_wp X 70 0 [.ref S, .long m, .retAddr 1, .retAddr 1] [] M K = K (some (.int (ip_b (k_ab (M.2.2.1 A) m 9 0)))) M := by
  rw [← s_70l X M K S A hs hr ha m 9 0 rfl]
  simp (config := { maxSteps := 10000000, maxDischargeDepth := 30, decide := true }) only [w70_0, w70_1, ip_get_0, ip_get_s, ip_set1, ip_clr_s, ip_cat_a, List.set_cons_zero, List.set_cons_succ, ↓reduceIte, Nat.reduceEqDiff, Int32.reduceOfNat]
end
noncomputable section
-- PART c13yf06.cowalk
-- equations of the instructions, by program counter
theorem ip_a11 (pc : Nat) : ip_at 11 pc = ip_c11.lookup pc := rfl
theorem w11_0 (X : ip_X) (ls st : List Value) (M : ip_H) (K : Option Value → ip_H → Prop) : ip_wp X 11 0 ls st M K = ip_ka (ip_get ls 0) (fun x => ip_wp X 11 1 ls (x :: st) M K) := wp_aload_n ((ip_a11 0).trans rfl)
theorem w11_1 (X : ip_X) (ls st : List Value) (M : ip_H) (K : Option Value → ip_H → Prop) (k : Nat) (h0 : (ip_sh M k).1 = 0) (h1 : (ip_sh M k).2.1 = 1) : ip_wp X 11 1 ls (.ref k :: st) M K = ip_wp X 11 4 ls (.int (M.2.1 k 3) :: st) M K := (wp_getI ((ip_a11 1).trans rfl)).trans (if_pos ⟨h0, h1⟩)
theorem w11_4 (X : ip_X) (ls st : List Value) (M : ip_H) (K : Option Value → ip_H → Prop) : ip_wp X 11 4 ls st M K = ip_wp X 11 5 ls (.int (-1) :: st) M K := wp_iconst ((ip_a11 4).trans rfl)
theorem w11_5 (X : ip_X) (ls st : List Value) (M : ip_H) (K : Option Value → ip_H → Prop) (x q : Int32) : ip_wp X 11 5 ls (.int q :: .int x :: st) M K = if x = q then ip_wp X 11 12 ls st M K else ip_wp X 11 8 ls st M K := wp_if_icmp_eq ((ip_a11 5).trans rfl)
theorem w11_8 (X : ip_X) (ls st : List Value) (M : ip_H) (K : Option Value → ip_H → Prop) : ip_wp X 11 8 ls st M K = ip_wp X 11 9 ls (.int 1 :: st) M K := wp_iconst ((ip_a11 8).trans rfl)
theorem w11_9 (X : ip_X) (ls st : List Value) (M : ip_H) (K : Option Value → ip_H → Prop) : ip_wp X 11 9 ls st M K = ip_wp X 11 13 ls st M K := wp_goto ((ip_a11 9).trans rfl)
theorem w11_12 (X : ip_X) (ls st : List Value) (M : ip_H) (K : Option Value → ip_H → Prop) : ip_wp X 11 12 ls st M K = ip_wp X 11 13 ls (.int 0 :: st) M K := wp_iconst ((ip_a11 12).trans rfl)
theorem w11_13 (X : ip_X) (ls : List Value) (M : ip_H) (K : Option Value → ip_H → Prop) (x : Int32) (h0 : x = 0 ∨ x = 1) : ip_wp X 11 13 ls [.int x] M K = K (some (.int x)) M := (wp_zret ((ip_a11 13).trans rfl)).trans (if_pos h0)
theorem ip_a12 (pc : Nat) : ip_at 12 pc = ip_c12.lookup pc := rfl
theorem w12_0 (X : ip_X) (ls st : List Value) (M : ip_H) (K : Option Value → ip_H → Prop) : ip_wp X 12 0 ls st M K = ip_ka (ip_get ls 0) (fun x => ip_wp X 12 1 ls (x :: st) M K) := wp_aload_n ((ip_a12 0).trans rfl)
theorem w12_1 (X : ip_X) (ls st : List Value) (M : ip_H) (K : Option Value → ip_H → Prop) (k : Nat) (h0 : st.length ≤ 4) (h1 : (ip_sh M k).1 = 0) (h2 : (ip_sh M k).2.1 = 1) : ip_wp X 12 1 ls (.ref k :: st) M K = ip_wp X 11 0 [.ref k] [] M (fun r M1 => ip_wp X 12 4 ls (r.toList ++ st) M1 K) := (wp_callV1_1 ((ip_a12 1).trans rfl) ⟨h0, by exact Nat.le_of_ble_eq_true rfl, h1, h2⟩)
theorem w12_4 (X : ip_X) (ls st : List Value) (M : ip_H) (K : Option Value → ip_H → Prop) (x : Int32) : ip_wp X 12 4 ls (.int x :: st) M K = if x = 0 then ip_wp X 12 19 ls st M K else ip_wp X 12 7 ls st M K := wp_ifCond_eq ((ip_a12 4).trans rfl)
theorem w12_7 (X : ip_X) (ls st : List Value) (M : ip_H) (K : Option Value → ip_H → Prop) : ip_wp X 12 7 ls st M K = ip_ka (ip_get ls 0) (fun x => ip_wp X 12 8 ls (x :: st) M K) := wp_aload_n ((ip_a12 7).trans rfl)
theorem w12_8 (X : ip_X) (ls st : List Value) (M : ip_H) (K : Option Value → ip_H → Prop) (k : Nat) (h0 : (ip_sh M k).1 = 0) (h1 : (ip_sh M k).2.1 = 1) : ip_wp X 12 8 ls (.ref k :: st) M K = ip_wp X 12 11 ls (.int (M.2.1 k 5) :: st) M K := (wp_getI ((ip_a12 8).trans rfl)).trans (if_pos ⟨h0, h1⟩)
theorem w12_11 (X : ip_X) (ls st : List Value) (M : ip_H) (K : Option Value → ip_H → Prop) : ip_wp X 12 11 ls st M K = ip_wp X 12 12 ls (.int (-1) :: st) M K := wp_iconst ((ip_a12 11).trans rfl)
theorem w12_12 (X : ip_X) (ls st : List Value) (M : ip_H) (K : Option Value → ip_H → Prop) (x q : Int32) : ip_wp X 12 12 ls (.int q :: .int x :: st) M K = if x = q then ip_wp X 12 19 ls st M K else ip_wp X 12 15 ls st M K := wp_if_icmp_eq ((ip_a12 12).trans rfl)
theorem w12_15 (X : ip_X) (ls st : List Value) (M : ip_H) (K : Option Value → ip_H → Prop) : ip_wp X 12 15 ls st M K = ip_wp X 12 16 ls (.int 1 :: st) M K := wp_iconst ((ip_a12 15).trans rfl)
theorem w12_16 (X : ip_X) (ls st : List Value) (M : ip_H) (K : Option Value → ip_H → Prop) : ip_wp X 12 16 ls st M K = ip_wp X 12 20 ls st M K := wp_goto ((ip_a12 16).trans rfl)
theorem w12_19 (X : ip_X) (ls st : List Value) (M : ip_H) (K : Option Value → ip_H → Prop) : ip_wp X 12 19 ls st M K = ip_wp X 12 20 ls (.int 0 :: st) M K := wp_iconst ((ip_a12 19).trans rfl)
theorem w12_20 (X : ip_X) (ls : List Value) (M : ip_H) (K : Option Value → ip_H → Prop) (x : Int32) (h0 : x = 0 ∨ x = 1) : ip_wp X 12 20 ls [.int x] M K = K (some (.int x)) M := (wp_zret ((ip_a12 20).trans rfl)).trans (if_pos h0)
theorem ip_a14 (pc : Nat) : ip_at 14 pc = ip_c14.lookup pc := rfl
theorem ip_s14 : lk_s 0 ip_c14 = true := by decide +kernel
theorem w14_0 (X : ip_X) (ls st : List Value) (M : ip_H) (K : Option Value → ip_H → Prop) : ip_wp X 14 0 ls st M K = ip_wp X 14 2 ls (.int 10 :: st) M K := wp_bipush ((ip_a14 0).trans (lk_of ip_s14 (k := 0) rfl))
theorem w14_2 (X : ip_X) (ls st : List Value) (M : ip_H) (K : Option Value → ip_H → Prop) : ip_wp X 14 2 ls st M K = ip_ki (ip_get ls 1) (fun x => ip_wp X 14 3 ls (.int x :: st) M K) := wp_iload_n ((ip_a14 2).trans (lk_of ip_s14 (k := 1) rfl))
theorem w14_3 (X : ip_X) (ls st : List Value) (M : ip_H) (K : Option Value → ip_H → Prop) (x q : Int32) : ip_wp X 14 3 ls (.int q :: .int x :: st) M K = ip_wp X 14 4 ls (.int (x * q) :: st) M K := wp_imul ((ip_a14 3).trans (lk_of ip_s14 (k := 2) rfl))
theorem w14_4 (X : ip_X) (ls st : List Value) (M : ip_H) (K : Option Value → ip_H → Prop) : ip_wp X 14 4 ls st M K = ip_wp X 14 5 ls (.int 5 :: st) M K := wp_iconst ((ip_a14 4).trans (lk_of ip_s14 (k := 3) rfl))
theorem w14_5 (X : ip_X) (ls st : List Value) (M : ip_H) (K : Option Value → ip_H → Prop) : ip_wp X 14 5 ls st M K = ip_ki (ip_get ls 2) (fun x => ip_wp X 14 6 ls (.int x :: st) M K) := wp_iload_n ((ip_a14 5).trans (lk_of ip_s14 (k := 4) rfl))
theorem w14_6 (X : ip_X) (ls st : List Value) (M : ip_H) (K : Option Value → ip_H → Prop) (x q : Int32) : ip_wp X 14 6 ls (.int q :: .int x :: st) M K = ip_wp X 14 7 ls (.int (x * q) :: st) M K := wp_imul ((ip_a14 6).trans (lk_of ip_s14 (k := 5) rfl))
theorem w14_7 (X : ip_X) (ls st : List Value) (M : ip_H) (K : Option Value → ip_H → Prop) (x q : Int32) : ip_wp X 14 7 ls (.int q :: .int x :: st) M K = ip_wp X 14 8 ls (.int (x + q) :: st) M K := wp_iadd ((ip_a14 7).trans (lk_of ip_s14 (k := 6) rfl))
theorem w14_8 (X : ip_X) (ls st : List Value) (M : ip_H) (K : Option Value → ip_H → Prop) : ip_wp X 14 8 ls st M K = ip_ki (ip_get ls 3) (fun x => ip_wp X 14 9 ls (.int x :: st) M K) := wp_iload_n ((ip_a14 8).trans (lk_of ip_s14 (k := 7) rfl))
theorem w14_9 (X : ip_X) (ls st : List Value) (M : ip_H) (K : Option Value → ip_H → Prop) (x q : Int32) : ip_wp X 14 9 ls (.int q :: .int x :: st) M K = ip_wp X 14 10 ls (.int (x + q) :: st) M K := wp_iadd ((ip_a14 9).trans (lk_of ip_s14 (k := 8) rfl))
theorem w14_10 (X : ip_X) (ls st : List Value) (M : ip_H) (K : Option Value → ip_H → Prop) (x : Int32) : ip_wp X 14 10 ls (.int x :: st) M K = ip_wp X 14 12 (ip_set1 ls 4 (.int x)) st M K := wp_istore ((ip_a14 10).trans (lk_of ip_s14 (k := 9) rfl))
theorem w14_12 (X : ip_X) (ls st : List Value) (M : ip_H) (K : Option Value → ip_H → Prop) : ip_wp X 14 12 ls st M K = ip_ki (ip_get ls 1) (fun x => ip_wp X 14 13 ls (.int x :: st) M K) := wp_iload_n ((ip_a14 12).trans (lk_of ip_s14 (k := 10) rfl))
theorem w14_13 (X : ip_X) (ls st : List Value) (M : ip_H) (K : Option Value → ip_H → Prop) (x : Int32) : ip_wp X 14 13 ls (.int x :: st) M K = if x < 0 then ip_wp X 14 41 ls st M K else ip_wp X 14 16 ls st M K := wp_ifCond_lt ((ip_a14 13).trans (lk_of ip_s14 (k := 11) rfl))
theorem w14_16 (X : ip_X) (ls st : List Value) (M : ip_H) (K : Option Value → ip_H → Prop) : ip_wp X 14 16 ls st M K = ip_ki (ip_get ls 4) (fun x => ip_wp X 14 18 ls (.int x :: st) M K) := wp_iload ((ip_a14 16).trans (lk_of ip_s14 (k := 12) rfl))
theorem w14_18 (X : ip_X) (ls st : List Value) (M : ip_H) (K : Option Value → ip_H → Prop) (x : Int32) : ip_wp X 14 18 ls (.int x :: st) M K = if x < 0 then ip_wp X 14 41 ls st M K else ip_wp X 14 21 ls st M K := wp_ifCond_lt ((ip_a14 18).trans (lk_of ip_s14 (k := 13) rfl))
theorem w14_21 (X : ip_X) (ls st : List Value) (M : ip_H) (K : Option Value → ip_H → Prop) : ip_wp X 14 21 ls st M K = ip_ki (ip_get ls 4) (fun x => ip_wp X 14 23 ls (.int x :: st) M K) := wp_iload ((ip_a14 21).trans (lk_of ip_s14 (k := 14) rfl))
theorem w14_23 (X : ip_X) (ls st : List Value) (M : ip_H) (K : Option Value → ip_H → Prop) : ip_wp X 14 23 ls st M K = ip_ka (ip_get ls 0) (fun x => ip_wp X 14 24 ls (x :: st) M K) := wp_aload_n ((ip_a14 23).trans (lk_of ip_s14 (k := 15) rfl))
theorem w14_24 (X : ip_X) (ls st : List Value) (M : ip_H) (K : Option Value → ip_H → Prop) (k : Nat) (h0 : (ip_sh M k).1 = 0) (h1 : (ip_sh M k).2.1 = 1) : ip_wp X 14 24 ls (.ref k :: st) M K = ip_wp X 14 27 ls (ip_vr (M.2.2.2 k 0) :: st) M K := (wp_getR ((ip_a14 24).trans (lk_of ip_s14 (k := 16) rfl))).trans (if_pos ⟨h0, h1⟩)
theorem w14_27 (X : ip_X) (ls st : List Value) (M : ip_H) (K : Option Value → ip_H → Prop) (k : Nat) (h0 : (ip_sh M k).1 = 1) : ip_wp X 14 27 ls (.ref k :: st) M K = ip_wp X 14 28 ls (.int (Int32.ofNat (ip_sh M k).2.2) :: st) M K := (wp_alen ((ip_a14 27).trans (lk_of ip_s14 (k := 17) rfl))).trans (if_pos h0)
theorem w14_28 (X : ip_X) (ls st : List Value) (M : ip_H) (K : Option Value → ip_H → Prop) (x q : Int32) : ip_wp X 14 28 ls (.int q :: .int x :: st) M K = if x < q then ip_wp X 14 31 ls st M K else ip_wp X 14 41 ls st M K := wp_if_icmp_ge ((ip_a14 28).trans (lk_of ip_s14 (k := 18) rfl))
theorem w14_31 (X : ip_X) (ls st : List Value) (M : ip_H) (K : Option Value → ip_H → Prop) : ip_wp X 14 31 ls st M K = ip_ka (ip_get ls 0) (fun x => ip_wp X 14 32 ls (x :: st) M K) := wp_aload_n ((ip_a14 31).trans (lk_of ip_s14 (k := 19) rfl))
theorem w14_32 (X : ip_X) (ls st : List Value) (M : ip_H) (K : Option Value → ip_H → Prop) (k : Nat) (h0 : (ip_sh M k).1 = 0) (h1 : (ip_sh M k).2.1 = 1) : ip_wp X 14 32 ls (.ref k :: st) M K = ip_wp X 14 35 ls (ip_vr (M.2.2.2 k 0) :: st) M K := (wp_getR ((ip_a14 32).trans (lk_of ip_s14 (k := 20) rfl))).trans (if_pos ⟨h0, h1⟩)
theorem w14_35 (X : ip_X) (ls st : List Value) (M : ip_H) (K : Option Value → ip_H → Prop) : ip_wp X 14 35 ls st M K = ip_ki (ip_get ls 4) (fun x => ip_wp X 14 37 ls (.int x :: st) M K) := wp_iload ((ip_a14 35).trans (lk_of ip_s14 (k := 21) rfl))
theorem w14_37 (X : ip_X) (ls st : List Value) (M : ip_H) (K : Option Value → ip_H → Prop) (i : Int32) (k : Nat) (h0 : (ip_sh M k).1 = 1) (h1 : (ip_sh M k).2.1 = 0) (h2 : ip_ix i (ip_sh M k).2.2 = true) : ip_wp X 14 37 ls (.int i :: .ref k :: st) M K = ip_wp X 14 38 ls (.int (M.2.1 k i.toNatClampNeg) :: st) M K := (wp_iaload ((ip_a14 37).trans (lk_of ip_s14 (k := 22) rfl))).trans (if_pos ⟨h0, h1, h2⟩)
theorem w14_38 (X : ip_X) (ls st : List Value) (M : ip_H) (K : Option Value → ip_H → Prop) : ip_wp X 14 38 ls st M K = ip_wp X 14 43 ls st M K := wp_goto ((ip_a14 38).trans (lk_of ip_s14 (k := 23) rfl))
theorem w14_41 (X : ip_X) (ls st : List Value) (M : ip_H) (K : Option Value → ip_H → Prop) : ip_wp X 14 41 ls st M K = ip_wp X 14 43 ls (.int (-2147483648) :: st) M K := wp_ldc ((ip_a14 41).trans (lk_of ip_s14 (k := 24) rfl))
theorem w14_43 (X : ip_X) (ls : List Value) (M : ip_H) (K : Option Value → ip_H → Prop) (x : Int32) : ip_wp X 14 43 ls [.int x] M K = K (some (.int x)) M := wp_iret ((ip_a14 43).trans (lk_of ip_s14 (k := 25) rfl))
theorem ip_a15 (pc : Nat) : ip_at 15 pc = ip_c15.lookup pc := rfl
theorem w15_0 (X : ip_X) (ls st : List Value) (M : ip_H) (K : Option Value → ip_H → Prop) : ip_wp X 15 0 ls st M K = ip_ka (ip_get ls 0) (fun x => ip_wp X 15 1 ls (x :: st) M K) := wp_aload_n ((ip_a15 0).trans rfl)
theorem w15_1 (X : ip_X) (ls st : List Value) (M : ip_H) (K : Option Value → ip_H → Prop) : ip_wp X 15 1 ls st M K = ip_ki (ip_get ls 1) (fun x => ip_wp X 15 2 ls (.int x :: st) M K) := wp_iload_n ((ip_a15 1).trans rfl)
theorem w15_2 (X : ip_X) (ls st : List Value) (M : ip_H) (K : Option Value → ip_H → Prop) : ip_wp X 15 2 ls st M K = ip_ki (ip_get ls 2) (fun x => ip_wp X 15 3 ls (.int x :: st) M K) := wp_iload_n ((ip_a15 2).trans rfl)
theorem w15_3 (X : ip_X) (ls st : List Value) (M : ip_H) (K : Option Value → ip_H → Prop) : ip_wp X 15 3 ls st M K = ip_wp X 15 4 ls (.int 4 :: st) M K := wp_iconst ((ip_a15 3).trans rfl)
theorem w15_4 (X : ip_X) (ls st : List Value) (M : ip_H) (K : Option Value → ip_H → Prop) (k : Nat) (x0 : Int32) (x1 : Int32) (x2 : Int32) (h0 : st.length ≤ 4) (h1 : (ip_sh M k).1 = 0) (h2 : (ip_sh M k).2.1 = 1) : ip_wp X 15 4 ls (.int x2 :: .int x1 :: .int x0 :: .ref k :: st) M K = ip_wp X 14 0 [.ref k, .int x0, .int x1, .int x2, .retAddr 1] [] M (fun r M1 => ip_wp X 15 7 ls (r.toList ++ st) M1 K) := (wp_callV1_4 ((ip_a15 4).trans rfl) ⟨h0, by exact Nat.le_of_ble_eq_true rfl, h1, h2⟩)
theorem w15_7 (X : ip_X) (ls : List Value) (M : ip_H) (K : Option Value → ip_H → Prop) (x : Int32) : ip_wp X 15 7 ls [.int x] M K = K (some (.int x)) M := wp_iret ((ip_a15 7).trans rfl)
theorem ip_a16 (pc : Nat) : ip_at 16 pc = ip_c16.lookup pc := rfl
theorem w16_0 (X : ip_X) (ls st : List Value) (M : ip_H) (K : Option Value → ip_H → Prop) : ip_wp X 16 0 ls st M K = ip_ka (ip_get ls 3) (fun x => ip_wp X 16 1 ls (x :: st) M K) := wp_aload_n ((ip_a16 0).trans rfl)
theorem w16_1 (X : ip_X) (ls st : List Value) (M : ip_H) (K : Option Value → ip_H → Prop) : ip_wp X 16 1 ls st M K = ip_ka (ip_get ls 0) (fun x => ip_wp X 16 2 ls (x :: st) M K) := wp_aload_n ((ip_a16 1).trans rfl)
theorem w16_2 (X : ip_X) (ls st : List Value) (M : ip_H) (K : Option Value → ip_H → Prop) (k : Nat) (h0 : (ip_sh M k).1 = 0) (h1 : (ip_sh M k).2.1 = 1) : ip_wp X 16 2 ls (.ref k :: st) M K = ip_wp X 16 5 ls (ip_vr (M.2.2.2 k 0) :: st) M K := (wp_getR ((ip_a16 2).trans rfl)).trans (if_pos ⟨h0, h1⟩)
theorem w16_5 (X : ip_X) (ls st : List Value) (M : ip_H) (K : Option Value → ip_H → Prop) : ip_wp X 16 5 ls st M K = ip_wp X 16 7 ls (.int 10 :: st) M K := wp_bipush ((ip_a16 5).trans rfl)
theorem w16_7 (X : ip_X) (ls st : List Value) (M : ip_H) (K : Option Value → ip_H → Prop) : ip_wp X 16 7 ls st M K = ip_ki (ip_get ls 1) (fun x => ip_wp X 16 8 ls (.int x :: st) M K) := wp_iload_n ((ip_a16 7).trans rfl)
theorem w16_8 (X : ip_X) (ls st : List Value) (M : ip_H) (K : Option Value → ip_H → Prop) (x q : Int32) : ip_wp X 16 8 ls (.int q :: .int x :: st) M K = ip_wp X 16 9 ls (.int (x * q) :: st) M K := wp_imul ((ip_a16 8).trans rfl)
theorem w16_9 (X : ip_X) (ls st : List Value) (M : ip_H) (K : Option Value → ip_H → Prop) : ip_wp X 16 9 ls st M K = ip_wp X 16 10 ls (.int 5 :: st) M K := wp_iconst ((ip_a16 9).trans rfl)
theorem w16_10 (X : ip_X) (ls st : List Value) (M : ip_H) (K : Option Value → ip_H → Prop) : ip_wp X 16 10 ls st M K = ip_ki (ip_get ls 2) (fun x => ip_wp X 16 11 ls (.int x :: st) M K) := wp_iload_n ((ip_a16 10).trans rfl)
theorem w16_11 (X : ip_X) (ls st : List Value) (M : ip_H) (K : Option Value → ip_H → Prop) (x q : Int32) : ip_wp X 16 11 ls (.int q :: .int x :: st) M K = ip_wp X 16 12 ls (.int (x * q) :: st) M K := wp_imul ((ip_a16 11).trans rfl)
theorem w16_12 (X : ip_X) (ls st : List Value) (M : ip_H) (K : Option Value → ip_H → Prop) (x q : Int32) : ip_wp X 16 12 ls (.int q :: .int x :: st) M K = ip_wp X 16 13 ls (.int (x + q) :: st) M K := wp_iadd ((ip_a16 12).trans rfl)
theorem w16_13 (X : ip_X) (ls st : List Value) (M : ip_H) (K : Option Value → ip_H → Prop) (k : Nat) (x0 : Nat) (x1 : Int32) (h0 : st.length ≤ 4) (h1 : (ip_sh M k).1 = 0) (h2 : (ip_sh M k).2.1 = 8) : ip_wp X 16 13 ls (.int x1 :: .ref x0 :: .ref k :: st) M K = ip_wp X 96 0 [.ref k, .ref x0, .int x1] [] M (fun r M1 => ip_wp X 16 16 ls (r.toList ++ st) M1 K) := (wp_callV1_3 ((ip_a16 13).trans rfl) ⟨h0, by exact Nat.le_of_ble_eq_true rfl, h1, h2⟩)
theorem w16_16 (X : ip_X) (ls : List Value) (M : ip_H) (K : Option Value → ip_H → Prop) : ip_wp X 16 16 ls [] M K = K none M := wp_vret ((ip_a16 16).trans rfl)
theorem ip_a17 (pc : Nat) : ip_at 17 pc = ip_c17.lookup pc := rfl
theorem ip_s17 : lk_s 0 ip_c17 = true := by decide +kernel
theorem w17_0 (X : ip_X) (ls st : List Value) (M : ip_H) (K : Option Value → ip_H → Prop) : ip_wp X 17 0 ls st M K = ip_ki (ip_get ls 2) (fun x => ip_wp X 17 1 ls (.int x :: st) M K) := wp_iload_n ((ip_a17 0).trans (lk_of ip_s17 (k := 0) rfl))
theorem w17_1 (X : ip_X) (ls st : List Value) (M : ip_H) (K : Option Value → ip_H → Prop) (x : Int32) : ip_wp X 17 1 ls (.int x :: st) M K = if x = 0 then ip_wp X 17 9 ls st M K else ip_wp X 17 4 ls st M K := wp_ifCond_eq ((ip_a17 1).trans (lk_of ip_s17 (k := 1) rfl))
theorem w17_4 (X : ip_X) (ls st : List Value) (M : ip_H) (K : Option Value → ip_H → Prop) : ip_wp X 17 4 ls st M K = ip_ki (ip_get ls 2) (fun x => ip_wp X 17 5 ls (.int x :: st) M K) := wp_iload_n ((ip_a17 4).trans (lk_of ip_s17 (k := 2) rfl))
theorem w17_5 (X : ip_X) (ls st : List Value) (M : ip_H) (K : Option Value → ip_H → Prop) : ip_wp X 17 5 ls st M K = ip_wp X 17 6 ls (.int 1 :: st) M K := wp_iconst ((ip_a17 5).trans (lk_of ip_s17 (k := 3) rfl))
theorem w17_6 (X : ip_X) (ls st : List Value) (M : ip_H) (K : Option Value → ip_H → Prop) (x q : Int32) : ip_wp X 17 6 ls (.int q :: .int x :: st) M K = if x = q then ip_wp X 17 9 ls st M K else ip_wp X 17 18 ls st M K := wp_if_icmp_ne ((ip_a17 6).trans (lk_of ip_s17 (k := 4) rfl))
theorem w17_9 (X : ip_X) (ls st : List Value) (M : ip_H) (K : Option Value → ip_H → Prop) : ip_wp X 17 9 ls st M K = ip_ka (ip_get ls 0) (fun x => ip_wp X 17 10 ls (x :: st) M K) := wp_aload_n ((ip_a17 9).trans (lk_of ip_s17 (k := 5) rfl))
theorem w17_10 (X : ip_X) (ls st : List Value) (M : ip_H) (K : Option Value → ip_H → Prop) : ip_wp X 17 10 ls st M K = ip_ki (ip_get ls 1) (fun x => ip_wp X 17 11 ls (.int x :: st) M K) := wp_iload_n ((ip_a17 10).trans (lk_of ip_s17 (k := 6) rfl))
theorem w17_11 (X : ip_X) (ls st : List Value) (M : ip_H) (K : Option Value → ip_H → Prop) : ip_wp X 17 11 ls st M K = ip_wp X 17 12 ls (.int 1 :: st) M K := wp_iconst ((ip_a17 11).trans (lk_of ip_s17 (k := 7) rfl))
theorem w17_12 (X : ip_X) (ls st : List Value) (M : ip_H) (K : Option Value → ip_H → Prop) (x q : Int32) : ip_wp X 17 12 ls (.int q :: .int x :: st) M K = ip_wp X 17 13 ls (.int (x - q) :: st) M K := wp_isub ((ip_a17 12).trans (lk_of ip_s17 (k := 8) rfl))
theorem w17_13 (X : ip_X) (ls st : List Value) (M : ip_H) (K : Option Value → ip_H → Prop) : ip_wp X 17 13 ls st M K = ip_ki (ip_get ls 2) (fun x => ip_wp X 17 14 ls (.int x :: st) M K) := wp_iload_n ((ip_a17 13).trans (lk_of ip_s17 (k := 9) rfl))
theorem w17_14 (X : ip_X) (ls st : List Value) (M : ip_H) (K : Option Value → ip_H → Prop) (k : Nat) (x0 : Int32) (x1 : Int32) (h0 : st.length ≤ 4) (h1 : (ip_sh M k).1 = 0) (h2 : (ip_sh M k).2.1 = 1) : ip_wp X 17 14 ls (.int x1 :: .int x0 :: .ref k :: st) M K = ip_wp X 15 0 [.ref k, .int x0, .int x1] [] M (fun r M1 => ip_wp X 17 17 ls (r.toList ++ st) M1 K) := (wp_callV1_3 ((ip_a17 14).trans (lk_of ip_s17 (k := 10) rfl)) ⟨h0, by exact Nat.le_of_ble_eq_true rfl, h1, h2⟩)
theorem w17_17 (X : ip_X) (ls : List Value) (M : ip_H) (K : Option Value → ip_H → Prop) (x : Int32) : ip_wp X 17 17 ls [.int x] M K = K (some (.int x)) M := wp_iret ((ip_a17 17).trans (lk_of ip_s17 (k := 11) rfl))
theorem w17_18 (X : ip_X) (ls st : List Value) (M : ip_H) (K : Option Value → ip_H → Prop) : ip_wp X 17 18 ls st M K = ip_ki (ip_get ls 2) (fun x => ip_wp X 17 19 ls (.int x :: st) M K) := wp_iload_n ((ip_a17 18).trans (lk_of ip_s17 (k := 12) rfl))
theorem w17_19 (X : ip_X) (ls st : List Value) (M : ip_H) (K : Option Value → ip_H → Prop) : ip_wp X 17 19 ls st M K = ip_wp X 17 20 ls (.int 2 :: st) M K := wp_iconst ((ip_a17 19).trans (lk_of ip_s17 (k := 13) rfl))
theorem w17_20 (X : ip_X) (ls st : List Value) (M : ip_H) (K : Option Value → ip_H → Prop) (x q : Int32) : ip_wp X 17 20 ls (.int q :: .int x :: st) M K = if x = q then ip_wp X 17 23 ls st M K else ip_wp X 17 46 ls st M K := wp_if_icmp_ne ((ip_a17 20).trans (lk_of ip_s17 (k := 14) rfl))
theorem w17_23 (X : ip_X) (ls st : List Value) (M : ip_H) (K : Option Value → ip_H → Prop) : ip_wp X 17 23 ls st M K = ip_ki (ip_get ls 1) (fun x => ip_wp X 17 24 ls (.int x :: st) M K) := wp_iload_n ((ip_a17 23).trans (lk_of ip_s17 (k := 15) rfl))
theorem w17_24 (X : ip_X) (ls st : List Value) (M : ip_H) (K : Option Value → ip_H → Prop) : ip_wp X 17 24 ls st M K = ip_wp X 17 25 ls (.int 1 :: st) M K := wp_iconst ((ip_a17 24).trans (lk_of ip_s17 (k := 16) rfl))
theorem w17_25 (X : ip_X) (ls st : List Value) (M : ip_H) (K : Option Value → ip_H → Prop) (x q : Int32) : ip_wp X 17 25 ls (.int q :: .int x :: st) M K = if x < q then ip_wp X 17 46 ls st M K else ip_wp X 17 28 ls st M K := wp_if_icmp_lt ((ip_a17 25).trans (lk_of ip_s17 (k := 17) rfl))
theorem w17_28 (X : ip_X) (ls st : List Value) (M : ip_H) (K : Option Value → ip_H → Prop) : ip_wp X 17 28 ls st M K = ip_ki (ip_get ls 1) (fun x => ip_wp X 17 29 ls (.int x :: st) M K) := wp_iload_n ((ip_a17 28).trans (lk_of ip_s17 (k := 18) rfl))
theorem w17_29 (X : ip_X) (ls st : List Value) (M : ip_H) (K : Option Value → ip_H → Prop) : ip_wp X 17 29 ls st M K = ip_ka (ip_get ls 0) (fun x => ip_wp X 17 30 ls (x :: st) M K) := wp_aload_n ((ip_a17 29).trans (lk_of ip_s17 (k := 19) rfl))
theorem w17_30 (X : ip_X) (ls st : List Value) (M : ip_H) (K : Option Value → ip_H → Prop) (k : Nat) (h0 : (ip_sh M k).1 = 0) (h1 : (ip_sh M k).2.1 = 1) : ip_wp X 17 30 ls (.ref k :: st) M K = ip_wp X 17 33 ls (ip_vr (M.2.2.2 k 1) :: st) M K := (wp_getR ((ip_a17 30).trans (lk_of ip_s17 (k := 20) rfl))).trans (if_pos ⟨h0, h1⟩)
theorem w17_33 (X : ip_X) (ls st : List Value) (M : ip_H) (K : Option Value → ip_H → Prop) (k : Nat) (h0 : (ip_sh M k).1 = 1) : ip_wp X 17 33 ls (.ref k :: st) M K = ip_wp X 17 34 ls (.int (Int32.ofNat (ip_sh M k).2.2) :: st) M K := (wp_alen ((ip_a17 33).trans (lk_of ip_s17 (k := 21) rfl))).trans (if_pos h0)
theorem w17_34 (X : ip_X) (ls st : List Value) (M : ip_H) (K : Option Value → ip_H → Prop) (x q : Int32) : ip_wp X 17 34 ls (.int q :: .int x :: st) M K = if x < q then ip_wp X 17 37 ls st M K else ip_wp X 17 46 ls st M K := wp_if_icmp_ge ((ip_a17 34).trans (lk_of ip_s17 (k := 22) rfl))
theorem w17_37 (X : ip_X) (ls st : List Value) (M : ip_H) (K : Option Value → ip_H → Prop) : ip_wp X 17 37 ls st M K = ip_ka (ip_get ls 0) (fun x => ip_wp X 17 38 ls (x :: st) M K) := wp_aload_n ((ip_a17 37).trans (lk_of ip_s17 (k := 23) rfl))
theorem w17_38 (X : ip_X) (ls st : List Value) (M : ip_H) (K : Option Value → ip_H → Prop) (k : Nat) (h0 : (ip_sh M k).1 = 0) (h1 : (ip_sh M k).2.1 = 1) : ip_wp X 17 38 ls (.ref k :: st) M K = ip_wp X 17 41 ls (ip_vr (M.2.2.2 k 1) :: st) M K := (wp_getR ((ip_a17 38).trans (lk_of ip_s17 (k := 24) rfl))).trans (if_pos ⟨h0, h1⟩)
theorem w17_41 (X : ip_X) (ls st : List Value) (M : ip_H) (K : Option Value → ip_H → Prop) : ip_wp X 17 41 ls st M K = ip_ki (ip_get ls 1) (fun x => ip_wp X 17 42 ls (.int x :: st) M K) := wp_iload_n ((ip_a17 41).trans (lk_of ip_s17 (k := 25) rfl))
theorem w17_42 (X : ip_X) (ls st : List Value) (M : ip_H) (K : Option Value → ip_H → Prop) (i : Int32) (k : Nat) (h0 : (ip_sh M k).1 = 1) (h1 : (ip_sh M k).2.1 = 2 ∨ (ip_sh M k).2.1 = 3) (h2 : ip_ix i (ip_sh M k).2.2 = true) : ip_wp X 17 42 ls (.int i :: .ref k :: st) M K = ip_wp X 17 43 ls (.int (M.2.1 k i.toNatClampNeg) :: st) M K := (wp_baload ((ip_a17 42).trans (lk_of ip_s17 (k := 26) rfl))).trans (if_pos ⟨h0, h1, h2⟩)
theorem w17_43 (X : ip_X) (ls st : List Value) (M : ip_H) (K : Option Value → ip_H → Prop) : ip_wp X 17 43 ls st M K = ip_wp X 17 47 ls st M K := wp_goto ((ip_a17 43).trans (lk_of ip_s17 (k := 27) rfl))
theorem w17_46 (X : ip_X) (ls st : List Value) (M : ip_H) (K : Option Value → ip_H → Prop) : ip_wp X 17 46 ls st M K = ip_wp X 17 47 ls (.int (-1) :: st) M K := wp_iconst ((ip_a17 46).trans (lk_of ip_s17 (k := 28) rfl))
theorem w17_47 (X : ip_X) (ls : List Value) (M : ip_H) (K : Option Value → ip_H → Prop) (x : Int32) : ip_wp X 17 47 ls [.int x] M K = K (some (.int x)) M := wp_iret ((ip_a17 47).trans (lk_of ip_s17 (k := 29) rfl))
theorem ip_a18 (pc : Nat) : ip_at 18 pc = ip_c18.lookup pc := rfl
theorem w18_0 (X : ip_X) (ls st : List Value) (M : ip_H) (K : Option Value → ip_H → Prop) : ip_wp X 18 0 ls st M K = ip_ka (ip_get ls 0) (fun x => ip_wp X 18 1 ls (x :: st) M K) := wp_aload_n ((ip_a18 0).trans rfl)
theorem w18_1 (X : ip_X) (ls st : List Value) (M : ip_H) (K : Option Value → ip_H → Prop) : ip_wp X 18 1 ls st M K = ip_ka (ip_get ls 1) (fun x => ip_wp X 18 2 ls (x :: st) M K) := wp_aload_n ((ip_a18 1).trans rfl)
theorem w18_2 (X : ip_X) (ls st : List Value) (M : ip_H) (K : Option Value → ip_H → Prop) (x0 : Nat) (x1 : Nat) (h0 : st.length ≤ 4) : ip_wp X 18 2 ls (.ref x1 :: .ref x0 :: st) M K = ip_wp X 19 0 [.ref x0, .ref x1] [] M (fun r M1 => ip_wp X 18 5 ls (r.toList ++ st) M1 K) := (wp_callS0_2 ((ip_a18 2).trans rfl) ⟨h0, by exact Nat.le_of_ble_eq_true rfl⟩)
theorem w18_5 (X : ip_X) (ls st : List Value) (M : ip_H) (K : Option Value → ip_H → Prop) (x : Int32) : ip_wp X 18 5 ls (.int x :: st) M K = if x = 0 then ip_wp X 18 20 ls st M K else ip_wp X 18 8 ls st M K := wp_ifCond_eq ((ip_a18 5).trans rfl)
theorem w18_8 (X : ip_X) (ls st : List Value) (M : ip_H) (K : Option Value → ip_H → Prop) : ip_wp X 18 8 ls st M K = ip_ka (ip_get ls 0) (fun x => ip_wp X 18 9 ls (x :: st) M K) := wp_aload_n ((ip_a18 8).trans rfl)
theorem w18_9 (X : ip_X) (ls st : List Value) (M : ip_H) (K : Option Value → ip_H → Prop) : ip_wp X 18 9 ls st M K = ip_ka (ip_get ls 2) (fun x => ip_wp X 18 10 ls (x :: st) M K) := wp_aload_n ((ip_a18 9).trans rfl)
theorem w18_10 (X : ip_X) (ls st : List Value) (M : ip_H) (K : Option Value → ip_H → Prop) (x0 : Nat) (x1 : Nat) (h0 : st.length ≤ 4) : ip_wp X 18 10 ls (.ref x1 :: .ref x0 :: st) M K = ip_wp X 19 0 [.ref x0, .ref x1] [] M (fun r M1 => ip_wp X 18 13 ls (r.toList ++ st) M1 K) := (wp_callS0_2 ((ip_a18 10).trans rfl) ⟨h0, by exact Nat.le_of_ble_eq_true rfl⟩)
theorem w18_13 (X : ip_X) (ls st : List Value) (M : ip_H) (K : Option Value → ip_H → Prop) (x : Int32) : ip_wp X 18 13 ls (.int x :: st) M K = if x = 0 then ip_wp X 18 20 ls st M K else ip_wp X 18 16 ls st M K := wp_ifCond_eq ((ip_a18 13).trans rfl)
theorem w18_16 (X : ip_X) (ls st : List Value) (M : ip_H) (K : Option Value → ip_H → Prop) : ip_wp X 18 16 ls st M K = ip_wp X 18 17 ls (.int 1 :: st) M K := wp_iconst ((ip_a18 16).trans rfl)
theorem w18_17 (X : ip_X) (ls st : List Value) (M : ip_H) (K : Option Value → ip_H → Prop) : ip_wp X 18 17 ls st M K = ip_wp X 18 21 ls st M K := wp_goto ((ip_a18 17).trans rfl)
theorem w18_20 (X : ip_X) (ls st : List Value) (M : ip_H) (K : Option Value → ip_H → Prop) : ip_wp X 18 20 ls st M K = ip_wp X 18 21 ls (.int 0 :: st) M K := wp_iconst ((ip_a18 20).trans rfl)
theorem w18_21 (X : ip_X) (ls : List Value) (M : ip_H) (K : Option Value → ip_H → Prop) (x : Int32) (h0 : x = 0 ∨ x = 1) : ip_wp X 18 21 ls [.int x] M K = K (some (.int x)) M := (wp_zret ((ip_a18 21).trans rfl)).trans (if_pos h0)
theorem ip_a19 (pc : Nat) : ip_at 19 pc = ip_c19.lookup pc := rfl
theorem w19_0 (X : ip_X) (ls st : List Value) (M : ip_H) (K : Option Value → ip_H → Prop) : ip_wp X 19 0 ls st M K = ip_ka (ip_get ls 0) (fun x => ip_wp X 19 1 ls (x :: st) M K) := wp_aload_n ((ip_a19 0).trans rfl)
theorem w19_1 (X : ip_X) (ls st : List Value) (M : ip_H) (K : Option Value → ip_H → Prop) : ip_wp X 19 1 ls st M K = ip_ka (ip_get ls 1) (fun x => ip_wp X 19 2 ls (x :: st) M K) := wp_aload_n ((ip_a19 1).trans rfl)
theorem w19_2 (X : ip_X) (ls st : List Value) (M : ip_H) (K : Option Value → ip_H → Prop) (k : Nat) (x0 : Nat) (h0 : st.length ≤ 4) (h1 : (ip_sh M k).1 = 0) (h2 : (ip_sh M k).2.1 = 2) : ip_wp X 19 2 ls (.ref x0 :: .ref k :: st) M K = ip_wp X 46 0 [.ref k, .ref x0] [] M (fun r M1 => ip_wp X 19 5 ls (r.toList ++ st) M1 K) := (wp_callV1_2 ((ip_a19 2).trans rfl) ⟨h0, by exact Nat.le_of_ble_eq_true rfl, h1, h2⟩)
theorem w19_5 (X : ip_X) (ls st : List Value) (M : ip_H) (K : Option Value → ip_H → Prop) (x : Int32) : ip_wp X 19 5 ls (.int x :: st) M K = if 0 < x then ip_wp X 19 8 ls st M K else ip_wp X 19 22 ls st M K := wp_ifCond_le ((ip_a19 5).trans rfl)
theorem w19_8 (X : ip_X) (ls st : List Value) (M : ip_H) (K : Option Value → ip_H → Prop) : ip_wp X 19 8 ls st M K = ip_ka (ip_get ls 0) (fun x => ip_wp X 19 9 ls (x :: st) M K) := wp_aload_n ((ip_a19 8).trans rfl)
theorem w19_9 (X : ip_X) (ls st : List Value) (M : ip_H) (K : Option Value → ip_H → Prop) : ip_wp X 19 9 ls st M K = ip_ka (ip_get ls 1) (fun x => ip_wp X 19 10 ls (x :: st) M K) := wp_aload_n ((ip_a19 9).trans rfl)
theorem w19_10 (X : ip_X) (ls st : List Value) (M : ip_H) (K : Option Value → ip_H → Prop) (k : Nat) (x0 : Nat) (h0 : st.length ≤ 4) (h1 : (ip_sh M k).1 = 0) (h2 : (ip_sh M k).2.1 = 2) : ip_wp X 19 10 ls (.ref x0 :: .ref k :: st) M K = ip_wp X 49 0 [.ref k, .ref x0, .retAddr 1, .retAddr 1, .retAddr 1, .retAddr 1] [] M (fun r M1 => ip_wp X 19 13 ls (r.toList ++ st) M1 K) := (wp_callV1_2 ((ip_a19 10).trans rfl) ⟨h0, by exact Nat.le_of_ble_eq_true rfl, h1, h2⟩)
theorem w19_13 (X : ip_X) (ls st : List Value) (M : ip_H) (K : Option Value → ip_H → Prop) : ip_wp X 19 13 ls st M K = ip_wp X 19 15 ls (.int 99 :: st) M K := wp_bipush ((ip_a19 13).trans rfl)
theorem w19_15 (X : ip_X) (ls st : List Value) (M : ip_H) (K : Option Value → ip_H → Prop) (x q : Int32) : ip_wp X 19 15 ls (.int q :: .int x :: st) M K = if q < x then ip_wp X 19 22 ls st M K else ip_wp X 19 18 ls st M K := wp_if_icmp_gt ((ip_a19 15).trans rfl)
theorem w19_18 (X : ip_X) (ls st : List Value) (M : ip_H) (K : Option Value → ip_H → Prop) : ip_wp X 19 18 ls st M K = ip_wp X 19 19 ls (.int 1 :: st) M K := wp_iconst ((ip_a19 18).trans rfl)
theorem w19_19 (X : ip_X) (ls st : List Value) (M : ip_H) (K : Option Value → ip_H → Prop) : ip_wp X 19 19 ls st M K = ip_wp X 19 23 ls st M K := wp_goto ((ip_a19 19).trans rfl)
theorem w19_22 (X : ip_X) (ls st : List Value) (M : ip_H) (K : Option Value → ip_H → Prop) : ip_wp X 19 22 ls st M K = ip_wp X 19 23 ls (.int 0 :: st) M K := wp_iconst ((ip_a19 22).trans rfl)
theorem w19_23 (X : ip_X) (ls : List Value) (M : ip_H) (K : Option Value → ip_H → Prop) (x : Int32) (h0 : x = 0 ∨ x = 1) : ip_wp X 19 23 ls [.int x] M K = K (some (.int x)) M := (wp_zret ((ip_a19 23).trans rfl)).trans (if_pos h0)
theorem ip_a23 (pc : Nat) : ip_at 23 pc = ip_c23.lookup pc := rfl
theorem w23_0 (X : ip_X) (ls st : List Value) (M : ip_H) (K : Option Value → ip_H → Prop) : ip_wp X 23 0 ls st M K = ip_ka (ip_get ls 0) (fun x => ip_wp X 23 1 ls (x :: st) M K) := wp_aload_n ((ip_a23 0).trans rfl)
theorem w23_1 (X : ip_X) (ls st : List Value) (M : ip_H) (K : Option Value → ip_H → Prop) : ip_wp X 23 1 ls st M K = ip_wp X 23 2 ls (.int 0 :: st) M K := wp_iconst ((ip_a23 1).trans rfl)
theorem w23_2 (X : ip_X) (ls st : List Value) (M : ip_H) (K : Option Value → ip_H → Prop) (k : Nat) (x0 : Int32) (h0 : st.length ≤ 4) (h1 : (ip_sh M k).1 = 0) (h2 : (ip_sh M k).2.1 = 1) : ip_wp X 23 2 ls (.int x0 :: .ref k :: st) M K = ip_wp X 24 0 [.ref k, .int x0] [] M (fun r M1 => ip_wp X 23 5 ls (r.toList ++ st) M1 K) := (wp_callV1_2 ((ip_a23 2).trans rfl) ⟨h0, by exact Nat.le_of_ble_eq_true rfl, h1, h2⟩)
theorem w23_5 (X : ip_X) (ls st : List Value) (M : ip_H) (K : Option Value → ip_H → Prop) (x : Int32) : ip_wp X 23 5 ls (.int x :: st) M K = if x = 0 then ip_wp X 23 27 ls st M K else ip_wp X 23 8 ls st M K := wp_ifCond_eq ((ip_a23 5).trans rfl)
theorem w23_8 (X : ip_X) (ls st : List Value) (M : ip_H) (K : Option Value → ip_H → Prop) : ip_wp X 23 8 ls st M K = ip_ka (ip_get ls 0) (fun x => ip_wp X 23 9 ls (x :: st) M K) := wp_aload_n ((ip_a23 8).trans rfl)
theorem w23_9 (X : ip_X) (ls st : List Value) (M : ip_H) (K : Option Value → ip_H → Prop) (k : Nat) (h0 : (ip_sh M k).1 = 0) (h1 : (ip_sh M k).2.1 = 1) : ip_wp X 23 9 ls (.ref k :: st) M K = ip_wp X 23 12 ls (.int (M.2.1 k 3) :: st) M K := (wp_getI ((ip_a23 9).trans rfl)).trans (if_pos ⟨h0, h1⟩)
theorem w23_12 (X : ip_X) (ls st : List Value) (M : ip_H) (K : Option Value → ip_H → Prop) (x : Int32) : ip_wp X 23 12 ls (.int x :: st) M K = if x = 0 then ip_wp X 23 23 ls st M K else ip_wp X 23 15 ls st M K := wp_ifCond_eq ((ip_a23 12).trans rfl)
theorem w23_15 (X : ip_X) (ls st : List Value) (M : ip_H) (K : Option Value → ip_H → Prop) : ip_wp X 23 15 ls st M K = ip_ka (ip_get ls 0) (fun x => ip_wp X 23 16 ls (x :: st) M K) := wp_aload_n ((ip_a23 15).trans rfl)
theorem w23_16 (X : ip_X) (ls st : List Value) (M : ip_H) (K : Option Value → ip_H → Prop) : ip_wp X 23 16 ls st M K = ip_wp X 23 17 ls (.int 1 :: st) M K := wp_iconst ((ip_a23 16).trans rfl)
theorem w23_17 (X : ip_X) (ls st : List Value) (M : ip_H) (K : Option Value → ip_H → Prop) (k : Nat) (x0 : Int32) (h0 : st.length ≤ 4) (h1 : (ip_sh M k).1 = 0) (h2 : (ip_sh M k).2.1 = 1) : ip_wp X 23 17 ls (.int x0 :: .ref k :: st) M K = ip_wp X 24 0 [.ref k, .int x0] [] M (fun r M1 => ip_wp X 23 20 ls (r.toList ++ st) M1 K) := (wp_callV1_2 ((ip_a23 17).trans rfl) ⟨h0, by exact Nat.le_of_ble_eq_true rfl, h1, h2⟩)
theorem w23_20 (X : ip_X) (ls st : List Value) (M : ip_H) (K : Option Value → ip_H → Prop) (x : Int32) : ip_wp X 23 20 ls (.int x :: st) M K = if x = 0 then ip_wp X 23 27 ls st M K else ip_wp X 23 23 ls st M K := wp_ifCond_eq ((ip_a23 20).trans rfl)
theorem w23_23 (X : ip_X) (ls st : List Value) (M : ip_H) (K : Option Value → ip_H → Prop) : ip_wp X 23 23 ls st M K = ip_wp X 23 24 ls (.int 1 :: st) M K := wp_iconst ((ip_a23 23).trans rfl)
theorem w23_24 (X : ip_X) (ls st : List Value) (M : ip_H) (K : Option Value → ip_H → Prop) : ip_wp X 23 24 ls st M K = ip_wp X 23 28 ls st M K := wp_goto ((ip_a23 24).trans rfl)
theorem w23_27 (X : ip_X) (ls st : List Value) (M : ip_H) (K : Option Value → ip_H → Prop) : ip_wp X 23 27 ls st M K = ip_wp X 23 28 ls (.int 0 :: st) M K := wp_iconst ((ip_a23 27).trans rfl)
theorem w23_28 (X : ip_X) (ls : List Value) (M : ip_H) (K : Option Value → ip_H → Prop) (x : Int32) (h0 : x = 0 ∨ x = 1) : ip_wp X 23 28 ls [.int x] M K = K (some (.int x)) M := (wp_zret ((ip_a23 28).trans rfl)).trans (if_pos h0)
theorem ip_a24 (pc : Nat) : ip_at 24 pc = ip_c24.lookup pc := rfl
theorem ip_s24 : lk_s 0 ip_c24 = true := by decide +kernel
theorem w24_0 (X : ip_X) (ls st : List Value) (M : ip_H) (K : Option Value → ip_H → Prop) : ip_wp X 24 0 ls st M K = ip_ka (ip_get ls 0) (fun x => ip_wp X 24 1 ls (x :: st) M K) := wp_aload_n ((ip_a24 0).trans (lk_of ip_s24 (k := 0) rfl))
theorem w24_1 (X : ip_X) (ls st : List Value) (M : ip_H) (K : Option Value → ip_H → Prop) : ip_wp X 24 1 ls st M K = ip_ka (ip_get ls 0) (fun x => ip_wp X 24 2 ls (x :: st) M K) := wp_aload_n ((ip_a24 1).trans (lk_of ip_s24 (k := 1) rfl))
theorem w24_2 (X : ip_X) (ls st : List Value) (M : ip_H) (K : Option Value → ip_H → Prop) (k : Nat) (h0 : (ip_sh M k).1 = 0) (h1 : (ip_sh M k).2.1 = 1) : ip_wp X 24 2 ls (.ref k :: st) M K = ip_wp X 24 5 ls (.int (M.2.1 k 4) :: st) M K := (wp_getI ((ip_a24 2).trans (lk_of ip_s24 (k := 2) rfl))).trans (if_pos ⟨h0, h1⟩)
theorem w24_5 (X : ip_X) (ls st : List Value) (M : ip_H) (K : Option Value → ip_H → Prop) : ip_wp X 24 5 ls st M K = ip_ki (ip_get ls 1) (fun x => ip_wp X 24 6 ls (.int x :: st) M K) := wp_iload_n ((ip_a24 5).trans (lk_of ip_s24 (k := 3) rfl))
theorem w24_6 (X : ip_X) (ls st : List Value) (M : ip_H) (K : Option Value → ip_H → Prop) : ip_wp X 24 6 ls st M K = ip_wp X 24 7 ls (.int 1 :: st) M K := wp_iconst ((ip_a24 6).trans (lk_of ip_s24 (k := 4) rfl))
theorem w24_7 (X : ip_X) (ls st : List Value) (M : ip_H) (K : Option Value → ip_H → Prop) (k : Nat) (x0 : Int32) (x1 : Int32) (x2 : Int32) (h0 : st.length ≤ 4) (h1 : (ip_sh M k).1 = 0) (h2 : (ip_sh M k).2.1 = 1) : ip_wp X 24 7 ls (.int x2 :: .int x1 :: .int x0 :: .ref k :: st) M K = ip_wp X 14 0 [.ref k, .int x0, .int x1, .int x2, .retAddr 1] [] M (fun r M1 => ip_wp X 24 10 ls (r.toList ++ st) M1 K) := (wp_callV1_4 ((ip_a24 7).trans (lk_of ip_s24 (k := 5) rfl)) ⟨h0, by exact Nat.le_of_ble_eq_true rfl, h1, h2⟩)
theorem w24_10 (X : ip_X) (ls st : List Value) (M : ip_H) (K : Option Value → ip_H → Prop) (x : Int32) : ip_wp X 24 10 ls (.int x :: st) M K = if x = 0 then ip_wp X 24 13 ls st M K else ip_wp X 24 44 ls st M K := wp_ifCond_ne ((ip_a24 10).trans (lk_of ip_s24 (k := 6) rfl))
theorem w24_13 (X : ip_X) (ls st : List Value) (M : ip_H) (K : Option Value → ip_H → Prop) : ip_wp X 24 13 ls st M K = ip_ka (ip_get ls 0) (fun x => ip_wp X 24 14 ls (x :: st) M K) := wp_aload_n ((ip_a24 13).trans (lk_of ip_s24 (k := 7) rfl))
theorem w24_14 (X : ip_X) (ls st : List Value) (M : ip_H) (K : Option Value → ip_H → Prop) : ip_wp X 24 14 ls st M K = ip_ka (ip_get ls 0) (fun x => ip_wp X 24 15 ls (x :: st) M K) := wp_aload_n ((ip_a24 14).trans (lk_of ip_s24 (k := 8) rfl))
theorem w24_15 (X : ip_X) (ls st : List Value) (M : ip_H) (K : Option Value → ip_H → Prop) (k : Nat) (h0 : (ip_sh M k).1 = 0) (h1 : (ip_sh M k).2.1 = 1) : ip_wp X 24 15 ls (.ref k :: st) M K = ip_wp X 24 18 ls (.int (M.2.1 k 4) :: st) M K := (wp_getI ((ip_a24 15).trans (lk_of ip_s24 (k := 9) rfl))).trans (if_pos ⟨h0, h1⟩)
theorem w24_18 (X : ip_X) (ls st : List Value) (M : ip_H) (K : Option Value → ip_H → Prop) : ip_wp X 24 18 ls st M K = ip_ki (ip_get ls 1) (fun x => ip_wp X 24 19 ls (.int x :: st) M K) := wp_iload_n ((ip_a24 18).trans (lk_of ip_s24 (k := 10) rfl))
theorem w24_19 (X : ip_X) (ls st : List Value) (M : ip_H) (K : Option Value → ip_H → Prop) : ip_wp X 24 19 ls st M K = ip_wp X 24 20 ls (.int 2 :: st) M K := wp_iconst ((ip_a24 19).trans (lk_of ip_s24 (k := 11) rfl))
theorem w24_20 (X : ip_X) (ls st : List Value) (M : ip_H) (K : Option Value → ip_H → Prop) (k : Nat) (x0 : Int32) (x1 : Int32) (x2 : Int32) (h0 : st.length ≤ 4) (h1 : (ip_sh M k).1 = 0) (h2 : (ip_sh M k).2.1 = 1) : ip_wp X 24 20 ls (.int x2 :: .int x1 :: .int x0 :: .ref k :: st) M K = ip_wp X 14 0 [.ref k, .int x0, .int x1, .int x2, .retAddr 1] [] M (fun r M1 => ip_wp X 24 23 ls (r.toList ++ st) M1 K) := (wp_callV1_4 ((ip_a24 20).trans (lk_of ip_s24 (k := 12) rfl)) ⟨h0, by exact Nat.le_of_ble_eq_true rfl, h1, h2⟩)
theorem w24_23 (X : ip_X) (ls st : List Value) (M : ip_H) (K : Option Value → ip_H → Prop) (x : Int32) : ip_wp X 24 23 ls (.int x :: st) M K = if x = 0 then ip_wp X 24 26 ls st M K else ip_wp X 24 44 ls st M K := wp_ifCond_ne ((ip_a24 23).trans (lk_of ip_s24 (k := 13) rfl))
theorem w24_26 (X : ip_X) (ls st : List Value) (M : ip_H) (K : Option Value → ip_H → Prop) : ip_wp X 24 26 ls st M K = ip_ka (ip_get ls 0) (fun x => ip_wp X 24 27 ls (x :: st) M K) := wp_aload_n ((ip_a24 26).trans (lk_of ip_s24 (k := 14) rfl))
theorem w24_27 (X : ip_X) (ls st : List Value) (M : ip_H) (K : Option Value → ip_H → Prop) : ip_wp X 24 27 ls st M K = ip_ka (ip_get ls 0) (fun x => ip_wp X 24 28 ls (x :: st) M K) := wp_aload_n ((ip_a24 27).trans (lk_of ip_s24 (k := 15) rfl))
theorem w24_28 (X : ip_X) (ls st : List Value) (M : ip_H) (K : Option Value → ip_H → Prop) (k : Nat) (h0 : (ip_sh M k).1 = 0) (h1 : (ip_sh M k).2.1 = 1) : ip_wp X 24 28 ls (.ref k :: st) M K = ip_wp X 24 31 ls (.int (M.2.1 k 4) :: st) M K := (wp_getI ((ip_a24 28).trans (lk_of ip_s24 (k := 16) rfl))).trans (if_pos ⟨h0, h1⟩)
theorem w24_31 (X : ip_X) (ls st : List Value) (M : ip_H) (K : Option Value → ip_H → Prop) : ip_wp X 24 31 ls st M K = ip_ki (ip_get ls 1) (fun x => ip_wp X 24 32 ls (.int x :: st) M K) := wp_iload_n ((ip_a24 31).trans (lk_of ip_s24 (k := 17) rfl))
theorem w24_32 (X : ip_X) (ls st : List Value) (M : ip_H) (K : Option Value → ip_H → Prop) : ip_wp X 24 32 ls st M K = ip_wp X 24 33 ls (.int 3 :: st) M K := wp_iconst ((ip_a24 32).trans (lk_of ip_s24 (k := 18) rfl))
theorem w24_33 (X : ip_X) (ls st : List Value) (M : ip_H) (K : Option Value → ip_H → Prop) (k : Nat) (x0 : Int32) (x1 : Int32) (x2 : Int32) (h0 : st.length ≤ 4) (h1 : (ip_sh M k).1 = 0) (h2 : (ip_sh M k).2.1 = 1) : ip_wp X 24 33 ls (.int x2 :: .int x1 :: .int x0 :: .ref k :: st) M K = ip_wp X 14 0 [.ref k, .int x0, .int x1, .int x2, .retAddr 1] [] M (fun r M1 => ip_wp X 24 36 ls (r.toList ++ st) M1 K) := (wp_callV1_4 ((ip_a24 33).trans (lk_of ip_s24 (k := 19) rfl)) ⟨h0, by exact Nat.le_of_ble_eq_true rfl, h1, h2⟩)
theorem w24_36 (X : ip_X) (ls st : List Value) (M : ip_H) (K : Option Value → ip_H → Prop) : ip_wp X 24 36 ls st M K = ip_wp X 24 37 ls (.int 1 :: st) M K := wp_iconst ((ip_a24 36).trans (lk_of ip_s24 (k := 20) rfl))
theorem w24_37 (X : ip_X) (ls st : List Value) (M : ip_H) (K : Option Value → ip_H → Prop) (x q : Int32) : ip_wp X 24 37 ls (.int q :: .int x :: st) M K = if x = q then ip_wp X 24 40 ls st M K else ip_wp X 24 44 ls st M K := wp_if_icmp_ne ((ip_a24 37).trans (lk_of ip_s24 (k := 21) rfl))
theorem w24_40 (X : ip_X) (ls st : List Value) (M : ip_H) (K : Option Value → ip_H → Prop) : ip_wp X 24 40 ls st M K = ip_wp X 24 41 ls (.int 1 :: st) M K := wp_iconst ((ip_a24 40).trans (lk_of ip_s24 (k := 22) rfl))
theorem w24_41 (X : ip_X) (ls st : List Value) (M : ip_H) (K : Option Value → ip_H → Prop) : ip_wp X 24 41 ls st M K = ip_wp X 24 45 ls st M K := wp_goto ((ip_a24 41).trans (lk_of ip_s24 (k := 23) rfl))
theorem w24_44 (X : ip_X) (ls st : List Value) (M : ip_H) (K : Option Value → ip_H → Prop) : ip_wp X 24 44 ls st M K = ip_wp X 24 45 ls (.int 0 :: st) M K := wp_iconst ((ip_a24 44).trans (lk_of ip_s24 (k := 24) rfl))
theorem w24_45 (X : ip_X) (ls : List Value) (M : ip_H) (K : Option Value → ip_H → Prop) (x : Int32) (h0 : x = 0 ∨ x = 1) : ip_wp X 24 45 ls [.int x] M K = K (some (.int x)) M := (wp_zret ((ip_a24 45).trans (lk_of ip_s24 (k := 25) rfl))).trans (if_pos h0)
theorem ip_a28 (pc : Nat) : ip_at 28 pc = ip_c28.lookup pc := rfl
theorem ip_s28 : lk_s 0 ip_c28 = true := by decide +kernel
theorem ip_l28_0 : ip_d28_0.length = 24 := rfl
theorem ip_f28_0 {k pc : Nat} {e : ip_E} (h : ip_d28_0[k]? = some (pc, e)) : ip_c28.lookup pc = some e := lk_of ip_s28 (lk_apl h)
theorem ip_f28_1 {k pc : Nat} {e : ip_E} (h : ip_d28_1[k]? = some (pc, e)) : ip_c28.lookup pc = some e := lk_of ip_s28 (lk_app ip_l28_0 h)
theorem w28_0 (X : ip_X) (ls st : List Value) (M : ip_H) (K : Option Value → ip_H → Prop) : ip_wp X 28 0 ls st M K = ip_wp X 28 2 ls (.int 10 :: st) M K := wp_bipush ((ip_a28 0).trans (ip_f28_0 (k := 0) rfl))
theorem w28_2 (X : ip_X) (ls st : List Value) (M : ip_H) (K : Option Value → ip_H → Prop) : ip_wp X 28 2 ls st M K = ip_ka (ip_get ls 0) (fun x => ip_wp X 28 3 ls (x :: st) M K) := wp_aload_n ((ip_a28 2).trans (ip_f28_0 (k := 1) rfl))
theorem w28_3 (X : ip_X) (ls st : List Value) (M : ip_H) (K : Option Value → ip_H → Prop) (k : Nat) (h0 : (ip_sh M k).1 = 0) (h1 : (ip_sh M k).2.1 = 1) : ip_wp X 28 3 ls (.ref k :: st) M K = ip_wp X 28 6 ls (.int (M.2.1 k 4) :: st) M K := (wp_getI ((ip_a28 3).trans (ip_f28_0 (k := 2) rfl))).trans (if_pos ⟨h0, h1⟩)
theorem w28_6 (X : ip_X) (ls st : List Value) (M : ip_H) (K : Option Value → ip_H → Prop) (x q : Int32) : ip_wp X 28 6 ls (.int q :: .int x :: st) M K = ip_wp X 28 7 ls (.int (x * q) :: st) M K := wp_imul ((ip_a28 6).trans (ip_f28_0 (k := 3) rfl))
theorem w28_7 (X : ip_X) (ls st : List Value) (M : ip_H) (K : Option Value → ip_H → Prop) (x : Int32) : ip_wp X 28 7 ls (.int x :: st) M K = ip_wp X 28 8 (ip_set1 ls 1 (.int x)) st M K := wp_istore_n ((ip_a28 7).trans (ip_f28_0 (k := 4) rfl))
theorem w28_8 (X : ip_X) (ls st : List Value) (M : ip_H) (K : Option Value → ip_H → Prop) : ip_wp X 28 8 ls st M K = ip_ki (ip_get ls 1) (fun x => ip_wp X 28 9 ls (.int x :: st) M K) := wp_iload_n ((ip_a28 8).trans (ip_f28_0 (k := 5) rfl))
theorem w28_9 (X : ip_X) (ls st : List Value) (M : ip_H) (K : Option Value → ip_H → Prop) (x : Int32) : ip_wp X 28 9 ls (.int x :: st) M K = if x < 0 then ip_wp X 28 24 ls st M K else ip_wp X 28 12 ls st M K := wp_ifCond_lt ((ip_a28 9).trans (ip_f28_0 (k := 6) rfl))
theorem w28_12 (X : ip_X) (ls st : List Value) (M : ip_H) (K : Option Value → ip_H → Prop) : ip_wp X 28 12 ls st M K = ip_ki (ip_get ls 1) (fun x => ip_wp X 28 13 ls (.int x :: st) M K) := wp_iload_n ((ip_a28 12).trans (ip_f28_0 (k := 7) rfl))
theorem w28_13 (X : ip_X) (ls st : List Value) (M : ip_H) (K : Option Value → ip_H → Prop) : ip_wp X 28 13 ls st M K = ip_ka (ip_get ls 0) (fun x => ip_wp X 28 14 ls (x :: st) M K) := wp_aload_n ((ip_a28 13).trans (ip_f28_0 (k := 8) rfl))
theorem w28_14 (X : ip_X) (ls st : List Value) (M : ip_H) (K : Option Value → ip_H → Prop) (k : Nat) (h0 : (ip_sh M k).1 = 0) (h1 : (ip_sh M k).2.1 = 1) : ip_wp X 28 14 ls (.ref k :: st) M K = ip_wp X 28 17 ls (ip_vr (M.2.2.2 k 0) :: st) M K := (wp_getR ((ip_a28 14).trans (ip_f28_0 (k := 9) rfl))).trans (if_pos ⟨h0, h1⟩)
theorem w28_17 (X : ip_X) (ls st : List Value) (M : ip_H) (K : Option Value → ip_H → Prop) (k : Nat) (h0 : (ip_sh M k).1 = 1) : ip_wp X 28 17 ls (.ref k :: st) M K = ip_wp X 28 18 ls (.int (Int32.ofNat (ip_sh M k).2.2) :: st) M K := (wp_alen ((ip_a28 17).trans (ip_f28_0 (k := 10) rfl))).trans (if_pos h0)
theorem w28_18 (X : ip_X) (ls st : List Value) (M : ip_H) (K : Option Value → ip_H → Prop) : ip_wp X 28 18 ls st M K = ip_wp X 28 20 ls (.int 10 :: st) M K := wp_bipush ((ip_a28 18).trans (ip_f28_0 (k := 11) rfl))
theorem w28_20 (X : ip_X) (ls st : List Value) (M : ip_H) (K : Option Value → ip_H → Prop) (x q : Int32) : ip_wp X 28 20 ls (.int q :: .int x :: st) M K = ip_wp X 28 21 ls (.int (x - q) :: st) M K := wp_isub ((ip_a28 20).trans (ip_f28_0 (k := 12) rfl))
theorem w28_21 (X : ip_X) (ls st : List Value) (M : ip_H) (K : Option Value → ip_H → Prop) (x q : Int32) : ip_wp X 28 21 ls (.int q :: .int x :: st) M K = if q < x then ip_wp X 28 24 ls st M K else ip_wp X 28 25 ls st M K := wp_if_icmp_le ((ip_a28 21).trans (ip_f28_0 (k := 13) rfl))
theorem w28_24 (X : ip_X) (ls : List Value) (M : ip_H) (K : Option Value → ip_H → Prop) : ip_wp X 28 24 ls [] M K = K none M := wp_vret ((ip_a28 24).trans (ip_f28_0 (k := 14) rfl))
theorem w28_25 (X : ip_X) (ls st : List Value) (M : ip_H) (K : Option Value → ip_H → Prop) : ip_wp X 28 25 ls st M K = ip_ka (ip_get ls 0) (fun x => ip_wp X 28 26 ls (x :: st) M K) := wp_aload_n ((ip_a28 25).trans (ip_f28_0 (k := 15) rfl))
theorem w28_26 (X : ip_X) (ls st : List Value) (M : ip_H) (K : Option Value → ip_H → Prop) (k : Nat) (h0 : (ip_sh M k).1 = 0) (h1 : (ip_sh M k).2.1 = 1) : ip_wp X 28 26 ls (.ref k :: st) M K = ip_wp X 28 29 ls (ip_vr (M.2.2.2 k 10) :: st) M K := (wp_getR ((ip_a28 26).trans (ip_f28_0 (k := 16) rfl))).trans (if_pos ⟨h0, h1⟩)
theorem w28_29 (X : ip_X) (ls st : List Value) (M : ip_H) (K : Option Value → ip_H → Prop) : ip_wp X 28 29 ls st M K = ip_ka (ip_get ls 0) (fun x => ip_wp X 28 30 ls (x :: st) M K) := wp_aload_n ((ip_a28 29).trans (ip_f28_0 (k := 17) rfl))
theorem w28_30 (X : ip_X) (ls st : List Value) (M : ip_H) (K : Option Value → ip_H → Prop) (k : Nat) (h0 : (ip_sh M k).1 = 0) (h1 : (ip_sh M k).2.1 = 1) : ip_wp X 28 30 ls (.ref k :: st) M K = ip_wp X 28 33 ls (ip_vr (M.2.2.2 k 0) :: st) M K := (wp_getR ((ip_a28 30).trans (ip_f28_0 (k := 18) rfl))).trans (if_pos ⟨h0, h1⟩)
theorem w28_33 (X : ip_X) (ls st : List Value) (M : ip_H) (K : Option Value → ip_H → Prop) : ip_wp X 28 33 ls st M K = ip_ki (ip_get ls 1) (fun x => ip_wp X 28 34 ls (.int x :: st) M K) := wp_iload_n ((ip_a28 33).trans (ip_f28_0 (k := 19) rfl))
theorem w28_34 (X : ip_X) (ls st : List Value) (M : ip_H) (K : Option Value → ip_H → Prop) (k : Nat) (x0 : Nat) (x1 : Int32) (h0 : st.length ≤ 4) (h1 : (ip_sh M k).1 = 0) (h2 : (ip_sh M k).2.1 = 8) : ip_wp X 28 34 ls (.int x1 :: .ref x0 :: .ref k :: st) M K = ip_wp X 97 0 [.ref k, .ref x0, .int x1] [] M (fun r M1 => ip_wp X 28 37 ls (r.toList ++ st) M1 K) := (wp_callV1_3 ((ip_a28 34).trans (ip_f28_0 (k := 20) rfl)) ⟨h0, by exact Nat.le_of_ble_eq_true rfl, h1, h2⟩)
theorem w28_37 (X : ip_X) (ls st : List Value) (M : ip_H) (K : Option Value → ip_H → Prop) : ip_wp X 28 37 ls st M K = ip_ka (ip_get ls 0) (fun x => ip_wp X 28 38 ls (x :: st) M K) := wp_aload_n ((ip_a28 37).trans (ip_f28_0 (k := 21) rfl))
theorem w28_38 (X : ip_X) (ls st : List Value) (M : ip_H) (K : Option Value → ip_H → Prop) (k : Nat) (h0 : (ip_sh M k).1 = 0) (h1 : (ip_sh M k).2.1 = 1) : ip_wp X 28 38 ls (.ref k :: st) M K = ip_wp X 28 41 ls (ip_vr (M.2.2.2 k 0) :: st) M K := (wp_getR ((ip_a28 38).trans (ip_f28_0 (k := 22) rfl))).trans (if_pos ⟨h0, h1⟩)
theorem w28_41 (X : ip_X) (ls st : List Value) (M : ip_H) (K : Option Value → ip_H → Prop) : ip_wp X 28 41 ls st M K = ip_ki (ip_get ls 1) (fun x => ip_wp X 28 42 ls (.int x :: st) M K) := wp_iload_n ((ip_a28 41).trans (ip_f28_0 (k := 23) rfl))
theorem w28_42 (X : ip_X) (ls st : List Value) (M : ip_H) (K : Option Value → ip_H → Prop) : ip_wp X 28 42 ls st M K = ip_wp X 28 43 ls (.int 4 :: st) M K := wp_iconst ((ip_a28 42).trans (ip_f28_1 (k := 0) rfl))
theorem w28_43 (X : ip_X) (ls st : List Value) (M : ip_H) (K : Option Value → ip_H → Prop) (x q : Int32) : ip_wp X 28 43 ls (.int q :: .int x :: st) M K = ip_wp X 28 44 ls (.int (x + q) :: st) M K := wp_iadd ((ip_a28 43).trans (ip_f28_1 (k := 1) rfl))
theorem w28_44 (X : ip_X) (ls st : List Value) (M : ip_H) (K : Option Value → ip_H → Prop) : ip_wp X 28 44 ls st M K = ip_ka (ip_get ls 0) (fun x => ip_wp X 28 45 ls (x :: st) M K) := wp_aload_n ((ip_a28 44).trans (ip_f28_1 (k := 2) rfl))
theorem w28_45 (X : ip_X) (ls st : List Value) (M : ip_H) (K : Option Value → ip_H → Prop) (k : Nat) (h0 : (ip_sh M k).1 = 0) (h1 : (ip_sh M k).2.1 = 1) : ip_wp X 28 45 ls (.ref k :: st) M K = ip_wp X 28 48 ls (.int (M.2.1 k 12) :: st) M K := (wp_getI ((ip_a28 45).trans (ip_f28_1 (k := 3) rfl))).trans (if_pos ⟨h0, h1⟩)
theorem w28_48 (X : ip_X) (ls st : List Value) (M : ip_H) (K : Option Value → ip_H → Prop) (i x : Int32) (k : Nat) (h0 : (ip_sh M k).1 = 1) (h1 : (ip_sh M k).2.1 = 0) (h2 : ip_ix i (ip_sh M k).2.2 = true) : ip_wp X 28 48 ls (.int x :: .int i :: .ref k :: st) M K = ip_wp X 28 49 ls st (ip_uI M k i.toNatClampNeg x) K := (wp_iastore ((ip_a28 48).trans (ip_f28_1 (k := 4) rfl))).trans (if_pos ⟨h0, h1, h2⟩)
theorem w28_49 (X : ip_X) (ls st : List Value) (M : ip_H) (K : Option Value → ip_H → Prop) : ip_wp X 28 49 ls st M K = ip_ka (ip_get ls 0) (fun x => ip_wp X 28 50 ls (x :: st) M K) := wp_aload_n ((ip_a28 49).trans (ip_f28_1 (k := 5) rfl))
theorem w28_50 (X : ip_X) (ls st : List Value) (M : ip_H) (K : Option Value → ip_H → Prop) (k : Nat) (h0 : (ip_sh M k).1 = 0) (h1 : (ip_sh M k).2.1 = 1) : ip_wp X 28 50 ls (.ref k :: st) M K = ip_wp X 28 53 ls (ip_vr (M.2.2.2 k 11) :: st) M K := (wp_getR ((ip_a28 50).trans (ip_f28_1 (k := 6) rfl))).trans (if_pos ⟨h0, h1⟩)
theorem w28_53 (X : ip_X) (ls st : List Value) (M : ip_H) (K : Option Value → ip_H → Prop) : ip_wp X 28 53 ls st M K = ip_ka (ip_get ls 0) (fun x => ip_wp X 28 54 ls (x :: st) M K) := wp_aload_n ((ip_a28 53).trans (ip_f28_1 (k := 7) rfl))
theorem w28_54 (X : ip_X) (ls st : List Value) (M : ip_H) (K : Option Value → ip_H → Prop) (k : Nat) (h0 : (ip_sh M k).1 = 0) (h1 : (ip_sh M k).2.1 = 1) : ip_wp X 28 54 ls (.ref k :: st) M K = ip_wp X 28 57 ls (ip_vr (M.2.2.2 k 0) :: st) M K := (wp_getR ((ip_a28 54).trans (ip_f28_1 (k := 8) rfl))).trans (if_pos ⟨h0, h1⟩)
theorem w28_57 (X : ip_X) (ls st : List Value) (M : ip_H) (K : Option Value → ip_H → Prop) : ip_wp X 28 57 ls st M K = ip_ki (ip_get ls 1) (fun x => ip_wp X 28 58 ls (.int x :: st) M K) := wp_iload_n ((ip_a28 57).trans (ip_f28_1 (k := 9) rfl))
theorem w28_58 (X : ip_X) (ls st : List Value) (M : ip_H) (K : Option Value → ip_H → Prop) : ip_wp X 28 58 ls st M K = ip_wp X 28 59 ls (.int 5 :: st) M K := wp_iconst ((ip_a28 58).trans (ip_f28_1 (k := 10) rfl))
theorem w28_59 (X : ip_X) (ls st : List Value) (M : ip_H) (K : Option Value → ip_H → Prop) (x q : Int32) : ip_wp X 28 59 ls (.int q :: .int x :: st) M K = ip_wp X 28 60 ls (.int (x + q) :: st) M K := wp_iadd ((ip_a28 59).trans (ip_f28_1 (k := 11) rfl))
theorem w28_60 (X : ip_X) (ls st : List Value) (M : ip_H) (K : Option Value → ip_H → Prop) (k : Nat) (x0 : Nat) (x1 : Int32) (h0 : st.length ≤ 4) (h1 : (ip_sh M k).1 = 0) (h2 : (ip_sh M k).2.1 = 8) : ip_wp X 28 60 ls (.int x1 :: .ref x0 :: .ref k :: st) M K = ip_wp X 97 0 [.ref k, .ref x0, .int x1] [] M (fun r M1 => ip_wp X 28 63 ls (r.toList ++ st) M1 K) := (wp_callV1_3 ((ip_a28 60).trans (ip_f28_1 (k := 12) rfl)) ⟨h0, by exact Nat.le_of_ble_eq_true rfl, h1, h2⟩)
theorem w28_63 (X : ip_X) (ls st : List Value) (M : ip_H) (K : Option Value → ip_H → Prop) : ip_wp X 28 63 ls st M K = ip_ka (ip_get ls 0) (fun x => ip_wp X 28 64 ls (x :: st) M K) := wp_aload_n ((ip_a28 63).trans (ip_f28_1 (k := 13) rfl))
theorem w28_64 (X : ip_X) (ls st : List Value) (M : ip_H) (K : Option Value → ip_H → Prop) (k : Nat) (h0 : (ip_sh M k).1 = 0) (h1 : (ip_sh M k).2.1 = 1) : ip_wp X 28 64 ls (.ref k :: st) M K = ip_wp X 28 67 ls (ip_vr (M.2.2.2 k 0) :: st) M K := (wp_getR ((ip_a28 64).trans (ip_f28_1 (k := 14) rfl))).trans (if_pos ⟨h0, h1⟩)
theorem w28_67 (X : ip_X) (ls st : List Value) (M : ip_H) (K : Option Value → ip_H → Prop) : ip_wp X 28 67 ls st M K = ip_ki (ip_get ls 1) (fun x => ip_wp X 28 68 ls (.int x :: st) M K) := wp_iload_n ((ip_a28 67).trans (ip_f28_1 (k := 15) rfl))
theorem w28_68 (X : ip_X) (ls st : List Value) (M : ip_H) (K : Option Value → ip_H → Prop) : ip_wp X 28 68 ls st M K = ip_wp X 28 70 ls (.int 9 :: st) M K := wp_bipush ((ip_a28 68).trans (ip_f28_1 (k := 16) rfl))
theorem w28_70 (X : ip_X) (ls st : List Value) (M : ip_H) (K : Option Value → ip_H → Prop) (x q : Int32) : ip_wp X 28 70 ls (.int q :: .int x :: st) M K = ip_wp X 28 71 ls (.int (x + q) :: st) M K := wp_iadd ((ip_a28 70).trans (ip_f28_1 (k := 17) rfl))
theorem w28_71 (X : ip_X) (ls st : List Value) (M : ip_H) (K : Option Value → ip_H → Prop) : ip_wp X 28 71 ls st M K = ip_ka (ip_get ls 0) (fun x => ip_wp X 28 72 ls (x :: st) M K) := wp_aload_n ((ip_a28 71).trans (ip_f28_1 (k := 18) rfl))
theorem w28_72 (X : ip_X) (ls st : List Value) (M : ip_H) (K : Option Value → ip_H → Prop) (k : Nat) (h0 : (ip_sh M k).1 = 0) (h1 : (ip_sh M k).2.1 = 1) : ip_wp X 28 72 ls (.ref k :: st) M K = ip_wp X 28 75 ls (.int (M.2.1 k 13) :: st) M K := (wp_getI ((ip_a28 72).trans (ip_f28_1 (k := 19) rfl))).trans (if_pos ⟨h0, h1⟩)
theorem w28_75 (X : ip_X) (ls st : List Value) (M : ip_H) (K : Option Value → ip_H → Prop) (i x : Int32) (k : Nat) (h0 : (ip_sh M k).1 = 1) (h1 : (ip_sh M k).2.1 = 0) (h2 : ip_ix i (ip_sh M k).2.2 = true) : ip_wp X 28 75 ls (.int x :: .int i :: .ref k :: st) M K = ip_wp X 28 76 ls st (ip_uI M k i.toNatClampNeg x) K := (wp_iastore ((ip_a28 75).trans (ip_f28_1 (k := 20) rfl))).trans (if_pos ⟨h0, h1, h2⟩)
theorem w28_76 (X : ip_X) (ls : List Value) (M : ip_H) (K : Option Value → ip_H → Prop) : ip_wp X 28 76 ls [] M K = K none M := wp_vret ((ip_a28 76).trans (ip_f28_1 (k := 21) rfl))
theorem ip_a30 (pc : Nat) : ip_at 30 pc = ip_c30.lookup pc := rfl
theorem w30_0 (X : ip_X) (ls st : List Value) (M : ip_H) (K : Option Value → ip_H → Prop) : ip_wp X 30 0 ls st M K = ip_wp X 30 1 ls (.int 0 :: st) M K := wp_iconst ((ip_a30 0).trans rfl)
theorem w30_1 (X : ip_X) (ls st : List Value) (M : ip_H) (K : Option Value → ip_H → Prop) (x : Int32) : ip_wp X 30 1 ls (.int x :: st) M K = ip_wp X 30 2 (ip_set1 ls 2 (.int x)) st M K := wp_istore_n ((ip_a30 1).trans rfl)
theorem w30_2 (X : ip_X) (ls st : List Value) (M : ip_H) (K : Option Value → ip_H → Prop) : ip_wp X 30 2 ls st M K = ip_ki (ip_get ls 2) (fun x => ip_wp X 30 3 ls (.int x :: st) M K) := wp_iload_n ((ip_a30 2).trans rfl)
theorem w30_3 (X : ip_X) (ls st : List Value) (M : ip_H) (K : Option Value → ip_H → Prop) : ip_wp X 30 3 ls st M K = ip_wp X 30 5 ls (.int 10 :: st) M K := wp_bipush ((ip_a30 3).trans rfl)
theorem w30_5 (X : ip_X) (ls st : List Value) (M : ip_H) (K : Option Value → ip_H → Prop) (x q : Int32) : ip_wp X 30 5 ls (.int q :: .int x :: st) M K = if x < q then ip_wp X 30 8 ls st M K else ip_wp X 30 36 ls st M K := wp_if_icmp_ge ((ip_a30 5).trans rfl)
theorem w30_8 (X : ip_X) (ls st : List Value) (M : ip_H) (K : Option Value → ip_H → Prop) : ip_wp X 30 8 ls st M K = ip_ka (ip_get ls 0) (fun x => ip_wp X 30 9 ls (x :: st) M K) := wp_aload_n ((ip_a30 8).trans rfl)
theorem w30_9 (X : ip_X) (ls st : List Value) (M : ip_H) (K : Option Value → ip_H → Prop) : ip_wp X 30 9 ls st M K = ip_ki (ip_get ls 1) (fun x => ip_wp X 30 10 ls (.int x :: st) M K) := wp_iload_n ((ip_a30 9).trans rfl)
theorem w30_10 (X : ip_X) (ls st : List Value) (M : ip_H) (K : Option Value → ip_H → Prop) : ip_wp X 30 10 ls st M K = ip_wp X 30 11 ls (.int 0 :: st) M K := wp_iconst ((ip_a30 10).trans rfl)
theorem w30_11 (X : ip_X) (ls st : List Value) (M : ip_H) (K : Option Value → ip_H → Prop) : ip_wp X 30 11 ls st M K = ip_ki (ip_get ls 2) (fun x => ip_wp X 30 12 ls (.int x :: st) M K) := wp_iload_n ((ip_a30 11).trans rfl)
theorem w30_12 (X : ip_X) (ls st : List Value) (M : ip_H) (K : Option Value → ip_H → Prop) (k : Nat) (x0 : Int32) (x1 : Int32) (x2 : Int32) (h0 : st.length ≤ 4) (h1 : (ip_sh M k).1 = 0) (h2 : (ip_sh M k).2.1 = 1) : ip_wp X 30 12 ls (.int x2 :: .int x1 :: .int x0 :: .ref k :: st) M K = ip_wp X 14 0 [.ref k, .int x0, .int x1, .int x2, .retAddr 1] [] M (fun r M1 => ip_wp X 30 15 ls (r.toList ++ st) M1 K) := (wp_callV1_4 ((ip_a30 12).trans rfl) ⟨h0, by exact Nat.le_of_ble_eq_true rfl, h1, h2⟩)
theorem w30_15 (X : ip_X) (ls st : List Value) (M : ip_H) (K : Option Value → ip_H → Prop) : ip_wp X 30 15 ls st M K = ip_ka (ip_get ls 0) (fun x => ip_wp X 30 16 ls (x :: st) M K) := wp_aload_n ((ip_a30 15).trans rfl)
theorem w30_16 (X : ip_X) (ls st : List Value) (M : ip_H) (K : Option Value → ip_H → Prop) : ip_wp X 30 16 ls st M K = ip_ka (ip_get ls 0) (fun x => ip_wp X 30 17 ls (x :: st) M K) := wp_aload_n ((ip_a30 16).trans rfl)
theorem w30_17 (X : ip_X) (ls st : List Value) (M : ip_H) (K : Option Value → ip_H → Prop) (k : Nat) (h0 : (ip_sh M k).1 = 0) (h1 : (ip_sh M k).2.1 = 1) : ip_wp X 30 17 ls (.ref k :: st) M K = ip_wp X 30 20 ls (.int (M.2.1 k 4) :: st) M K := (wp_getI ((ip_a30 17).trans rfl)).trans (if_pos ⟨h0, h1⟩)
theorem w30_20 (X : ip_X) (ls st : List Value) (M : ip_H) (K : Option Value → ip_H → Prop) : ip_wp X 30 20 ls st M K = ip_wp X 30 21 ls (.int 0 :: st) M K := wp_iconst ((ip_a30 20).trans rfl)
theorem w30_21 (X : ip_X) (ls st : List Value) (M : ip_H) (K : Option Value → ip_H → Prop) : ip_wp X 30 21 ls st M K = ip_ki (ip_get ls 2) (fun x => ip_wp X 30 22 ls (.int x :: st) M K) := wp_iload_n ((ip_a30 21).trans rfl)
theorem w30_22 (X : ip_X) (ls st : List Value) (M : ip_H) (K : Option Value → ip_H → Prop) (k : Nat) (x0 : Int32) (x1 : Int32) (x2 : Int32) (h0 : st.length ≤ 4) (h1 : (ip_sh M k).1 = 0) (h2 : (ip_sh M k).2.1 = 1) : ip_wp X 30 22 ls (.int x2 :: .int x1 :: .int x0 :: .ref k :: st) M K = ip_wp X 14 0 [.ref k, .int x0, .int x1, .int x2, .retAddr 1] [] M (fun r M1 => ip_wp X 30 25 ls (r.toList ++ st) M1 K) := (wp_callV1_4 ((ip_a30 22).trans rfl) ⟨h0, by exact Nat.le_of_ble_eq_true rfl, h1, h2⟩)
theorem w30_25 (X : ip_X) (ls st : List Value) (M : ip_H) (K : Option Value → ip_H → Prop) (x q : Int32) : ip_wp X 30 25 ls (.int q :: .int x :: st) M K = if x = q then ip_wp X 30 30 ls st M K else ip_wp X 30 28 ls st M K := wp_if_icmp_eq ((ip_a30 25).trans rfl)
theorem w30_28 (X : ip_X) (ls st : List Value) (M : ip_H) (K : Option Value → ip_H → Prop) : ip_wp X 30 28 ls st M K = ip_wp X 30 29 ls (.int 0 :: st) M K := wp_iconst ((ip_a30 28).trans rfl)
theorem w30_29 (X : ip_X) (ls : List Value) (M : ip_H) (K : Option Value → ip_H → Prop) (x : Int32) (h0 : x = 0 ∨ x = 1) : ip_wp X 30 29 ls [.int x] M K = K (some (.int x)) M := (wp_zret ((ip_a30 29).trans rfl)).trans (if_pos h0)
theorem w30_30 (X : ip_X) (ls st : List Value) (M : ip_H) (K : Option Value → ip_H → Prop) : ip_wp X 30 30 ls st M K = ip_ki (ip_get ls 2) (fun x => ip_wp X 30 33 (ip_set1 ls 2 (.int (x + 1))) st M K) := wp_iinc ((ip_a30 30).trans rfl)
theorem w30_33 (X : ip_X) (ls st : List Value) (M : ip_H) (K : Option Value → ip_H → Prop) : ip_wp X 30 33 ls st M K = ip_wp X 30 2 ls st M K := wp_goto ((ip_a30 33).trans rfl)
theorem w30_36 (X : ip_X) (ls st : List Value) (M : ip_H) (K : Option Value → ip_H → Prop) : ip_wp X 30 36 ls st M K = ip_wp X 30 37 ls (.int 1 :: st) M K := wp_iconst ((ip_a30 36).trans rfl)
theorem w30_37 (X : ip_X) (ls : List Value) (M : ip_H) (K : Option Value → ip_H → Prop) (x : Int32) (h0 : x = 0 ∨ x = 1) : ip_wp X 30 37 ls [.int x] M K = K (some (.int x)) M := (wp_zret ((ip_a30 37).trans rfl)).trans (if_pos h0)
theorem ip_a96 (pc : Nat) : ip_at 96 pc = ip_c96.lookup pc := rfl
theorem ip_s96 : lk_s 0 ip_c96 = true := by decide +kernel
theorem ip_l96_0 : ip_d96_0.length = 24 := rfl
theorem ip_f96_0 {k pc : Nat} {e : ip_E} (h : ip_d96_0[k]? = some (pc, e)) : ip_c96.lookup pc = some e := lk_of ip_s96 (lk_apl h)
theorem ip_f96_1 {k pc : Nat} {e : ip_E} (h : ip_d96_1[k]? = some (pc, e)) : ip_c96.lookup pc = some e := lk_of ip_s96 (lk_app ip_l96_0 h)
theorem w96_0 (X : ip_X) (ls st : List Value) (M : ip_H) (K : Option Value → ip_H → Prop) : ip_wp X 96 0 ls st M K = ip_ki (ip_get ls 2) (fun x => ip_wp X 96 1 ls (.int x :: st) M K) := wp_iload_n ((ip_a96 0).trans (ip_f96_0 (k := 0) rfl))
theorem w96_1 (X : ip_X) (ls st : List Value) (M : ip_H) (K : Option Value → ip_H → Prop) (x : Int32) : ip_wp X 96 1 ls (.int x :: st) M K = if x < 0 then ip_wp X 96 12 ls st M K else ip_wp X 96 4 ls st M K := wp_ifCond_lt ((ip_a96 1).trans (ip_f96_0 (k := 1) rfl))
theorem w96_4 (X : ip_X) (ls st : List Value) (M : ip_H) (K : Option Value → ip_H → Prop) : ip_wp X 96 4 ls st M K = ip_ki (ip_get ls 2) (fun x => ip_wp X 96 5 ls (.int x :: st) M K) := wp_iload_n ((ip_a96 4).trans (ip_f96_0 (k := 2) rfl))
theorem w96_5 (X : ip_X) (ls st : List Value) (M : ip_H) (K : Option Value → ip_H → Prop) : ip_wp X 96 5 ls st M K = ip_ka (ip_get ls 1) (fun x => ip_wp X 96 6 ls (x :: st) M K) := wp_aload_n ((ip_a96 5).trans (ip_f96_0 (k := 3) rfl))
theorem w96_6 (X : ip_X) (ls st : List Value) (M : ip_H) (K : Option Value → ip_H → Prop) (k : Nat) (h0 : (ip_sh M k).1 = 1) : ip_wp X 96 6 ls (.ref k :: st) M K = ip_wp X 96 7 ls (.int (Int32.ofNat (ip_sh M k).2.2) :: st) M K := (wp_alen ((ip_a96 6).trans (ip_f96_0 (k := 4) rfl))).trans (if_pos h0)
theorem w96_7 (X : ip_X) (ls st : List Value) (M : ip_H) (K : Option Value → ip_H → Prop) : ip_wp X 96 7 ls st M K = ip_wp X 96 8 ls (.int 4 :: st) M K := wp_iconst ((ip_a96 7).trans (ip_f96_0 (k := 5) rfl))
theorem w96_8 (X : ip_X) (ls st : List Value) (M : ip_H) (K : Option Value → ip_H → Prop) (x q : Int32) : ip_wp X 96 8 ls (.int q :: .int x :: st) M K = ip_wp X 96 9 ls (.int (x - q) :: st) M K := wp_isub ((ip_a96 8).trans (ip_f96_0 (k := 6) rfl))
theorem w96_9 (X : ip_X) (ls st : List Value) (M : ip_H) (K : Option Value → ip_H → Prop) (x q : Int32) : ip_wp X 96 9 ls (.int q :: .int x :: st) M K = if q < x then ip_wp X 96 12 ls st M K else ip_wp X 96 13 ls st M K := wp_if_icmp_le ((ip_a96 9).trans (ip_f96_0 (k := 7) rfl))
theorem w96_12 (X : ip_X) (ls : List Value) (M : ip_H) (K : Option Value → ip_H → Prop) : ip_wp X 96 12 ls [] M K = K none M := wp_vret ((ip_a96 12).trans (ip_f96_0 (k := 8) rfl))
theorem w96_13 (X : ip_X) (ls st : List Value) (M : ip_H) (K : Option Value → ip_H → Prop) : ip_wp X 96 13 ls st M K = ip_ka (ip_get ls 0) (fun x => ip_wp X 96 14 ls (x :: st) M K) := wp_aload_n ((ip_a96 13).trans (ip_f96_0 (k := 9) rfl))
theorem w96_14 (X : ip_X) (ls st : List Value) (M : ip_H) (K : Option Value → ip_H → Prop) : ip_wp X 96 14 ls st M K = ip_ka (ip_get ls 1) (fun x => ip_wp X 96 15 ls (x :: st) M K) := wp_aload_n ((ip_a96 14).trans (ip_f96_0 (k := 10) rfl))
theorem w96_15 (X : ip_X) (ls st : List Value) (M : ip_H) (K : Option Value → ip_H → Prop) : ip_wp X 96 15 ls st M K = ip_ki (ip_get ls 2) (fun x => ip_wp X 96 16 ls (.int x :: st) M K) := wp_iload_n ((ip_a96 15).trans (ip_f96_0 (k := 11) rfl))
theorem w96_16 (X : ip_X) (ls st : List Value) (M : ip_H) (K : Option Value → ip_H → Prop) (i : Int32) (k : Nat) (h0 : (ip_sh M k).1 = 1) (h1 : (ip_sh M k).2.1 = 0) (h2 : ip_ix i (ip_sh M k).2.2 = true) : ip_wp X 96 16 ls (.int i :: .ref k :: st) M K = ip_wp X 96 17 ls (.int (M.2.1 k i.toNatClampNeg) :: st) M K := (wp_iaload ((ip_a96 16).trans (ip_f96_0 (k := 12) rfl))).trans (if_pos ⟨h0, h1, h2⟩)
theorem w96_17 (X : ip_X) (ls st : List Value) (M : ip_H) (K : Option Value → ip_H → Prop) (x : Int32) : ip_wp X 96 17 ls (.int x :: st) M K = ip_wp X 96 18 ls (.long (x.toInt64) :: st) M K := wp_i2l ((ip_a96 17).trans (ip_f96_0 (k := 13) rfl))
theorem w96_18 (X : ip_X) (ls st : List Value) (M : ip_H) (K : Option Value → ip_H → Prop) (k : Nat) (x : Int64) (h0 : (ip_sh M k).1 = 0) (h1 : (ip_sh M k).2.1 = 8) : ip_wp X 96 18 ls (.long x :: .ref k :: st) M K = ip_wp X 96 21 ls st (ip_uL M k 0 x) K := (wp_putL ((ip_a96 18).trans (ip_f96_0 (k := 14) rfl))).trans (if_pos ⟨h0, h1⟩)
theorem w96_21 (X : ip_X) (ls st : List Value) (M : ip_H) (K : Option Value → ip_H → Prop) : ip_wp X 96 21 ls st M K = ip_ka (ip_get ls 0) (fun x => ip_wp X 96 22 ls (x :: st) M K) := wp_aload_n ((ip_a96 21).trans (ip_f96_0 (k := 15) rfl))
theorem w96_22 (X : ip_X) (ls st : List Value) (M : ip_H) (K : Option Value → ip_H → Prop) : ip_wp X 96 22 ls st M K = ip_ka (ip_get ls 1) (fun x => ip_wp X 96 23 ls (x :: st) M K) := wp_aload_n ((ip_a96 22).trans (ip_f96_0 (k := 16) rfl))
theorem w96_23 (X : ip_X) (ls st : List Value) (M : ip_H) (K : Option Value → ip_H → Prop) : ip_wp X 96 23 ls st M K = ip_ki (ip_get ls 2) (fun x => ip_wp X 96 24 ls (.int x :: st) M K) := wp_iload_n ((ip_a96 23).trans (ip_f96_0 (k := 17) rfl))
theorem w96_24 (X : ip_X) (ls st : List Value) (M : ip_H) (K : Option Value → ip_H → Prop) : ip_wp X 96 24 ls st M K = ip_wp X 96 25 ls (.int 1 :: st) M K := wp_iconst ((ip_a96 24).trans (ip_f96_0 (k := 18) rfl))
theorem w96_25 (X : ip_X) (ls st : List Value) (M : ip_H) (K : Option Value → ip_H → Prop) (x q : Int32) : ip_wp X 96 25 ls (.int q :: .int x :: st) M K = ip_wp X 96 26 ls (.int (x + q) :: st) M K := wp_iadd ((ip_a96 25).trans (ip_f96_0 (k := 19) rfl))
theorem w96_26 (X : ip_X) (ls st : List Value) (M : ip_H) (K : Option Value → ip_H → Prop) (i : Int32) (k : Nat) (h0 : (ip_sh M k).1 = 1) (h1 : (ip_sh M k).2.1 = 0) (h2 : ip_ix i (ip_sh M k).2.2 = true) : ip_wp X 96 26 ls (.int i :: .ref k :: st) M K = ip_wp X 96 27 ls (.int (M.2.1 k i.toNatClampNeg) :: st) M K := (wp_iaload ((ip_a96 26).trans (ip_f96_0 (k := 20) rfl))).trans (if_pos ⟨h0, h1, h2⟩)
theorem w96_27 (X : ip_X) (ls st : List Value) (M : ip_H) (K : Option Value → ip_H → Prop) (x : Int32) : ip_wp X 96 27 ls (.int x :: st) M K = ip_wp X 96 28 ls (.long (x.toInt64) :: st) M K := wp_i2l ((ip_a96 27).trans (ip_f96_0 (k := 21) rfl))
theorem w96_28 (X : ip_X) (ls st : List Value) (M : ip_H) (K : Option Value → ip_H → Prop) (k : Nat) (x : Int64) (h0 : (ip_sh M k).1 = 0) (h1 : (ip_sh M k).2.1 = 8) : ip_wp X 96 28 ls (.long x :: .ref k :: st) M K = ip_wp X 96 31 ls st (ip_uL M k 1 x) K := (wp_putL ((ip_a96 28).trans (ip_f96_0 (k := 22) rfl))).trans (if_pos ⟨h0, h1⟩)
theorem w96_31 (X : ip_X) (ls st : List Value) (M : ip_H) (K : Option Value → ip_H → Prop) : ip_wp X 96 31 ls st M K = ip_ka (ip_get ls 0) (fun x => ip_wp X 96 32 ls (x :: st) M K) := wp_aload_n ((ip_a96 31).trans (ip_f96_0 (k := 23) rfl))
theorem w96_32 (X : ip_X) (ls st : List Value) (M : ip_H) (K : Option Value → ip_H → Prop) : ip_wp X 96 32 ls st M K = ip_ka (ip_get ls 1) (fun x => ip_wp X 96 33 ls (x :: st) M K) := wp_aload_n ((ip_a96 32).trans (ip_f96_1 (k := 0) rfl))
theorem w96_33 (X : ip_X) (ls st : List Value) (M : ip_H) (K : Option Value → ip_H → Prop) : ip_wp X 96 33 ls st M K = ip_ki (ip_get ls 2) (fun x => ip_wp X 96 34 ls (.int x :: st) M K) := wp_iload_n ((ip_a96 33).trans (ip_f96_1 (k := 1) rfl))
theorem w96_34 (X : ip_X) (ls st : List Value) (M : ip_H) (K : Option Value → ip_H → Prop) : ip_wp X 96 34 ls st M K = ip_wp X 96 35 ls (.int 2 :: st) M K := wp_iconst ((ip_a96 34).trans (ip_f96_1 (k := 2) rfl))
theorem w96_35 (X : ip_X) (ls st : List Value) (M : ip_H) (K : Option Value → ip_H → Prop) (x q : Int32) : ip_wp X 96 35 ls (.int q :: .int x :: st) M K = ip_wp X 96 36 ls (.int (x + q) :: st) M K := wp_iadd ((ip_a96 35).trans (ip_f96_1 (k := 3) rfl))
theorem w96_36 (X : ip_X) (ls st : List Value) (M : ip_H) (K : Option Value → ip_H → Prop) (i : Int32) (k : Nat) (h0 : (ip_sh M k).1 = 1) (h1 : (ip_sh M k).2.1 = 0) (h2 : ip_ix i (ip_sh M k).2.2 = true) : ip_wp X 96 36 ls (.int i :: .ref k :: st) M K = ip_wp X 96 37 ls (.int (M.2.1 k i.toNatClampNeg) :: st) M K := (wp_iaload ((ip_a96 36).trans (ip_f96_1 (k := 4) rfl))).trans (if_pos ⟨h0, h1, h2⟩)
theorem w96_37 (X : ip_X) (ls st : List Value) (M : ip_H) (K : Option Value → ip_H → Prop) (x : Int32) : ip_wp X 96 37 ls (.int x :: st) M K = ip_wp X 96 38 ls (.long (x.toInt64) :: st) M K := wp_i2l ((ip_a96 37).trans (ip_f96_1 (k := 5) rfl))
theorem w96_38 (X : ip_X) (ls st : List Value) (M : ip_H) (K : Option Value → ip_H → Prop) (k : Nat) (x : Int64) (h0 : (ip_sh M k).1 = 0) (h1 : (ip_sh M k).2.1 = 8) : ip_wp X 96 38 ls (.long x :: .ref k :: st) M K = ip_wp X 96 41 ls st (ip_uL M k 2 x) K := (wp_putL ((ip_a96 38).trans (ip_f96_1 (k := 6) rfl))).trans (if_pos ⟨h0, h1⟩)
theorem w96_41 (X : ip_X) (ls st : List Value) (M : ip_H) (K : Option Value → ip_H → Prop) : ip_wp X 96 41 ls st M K = ip_ka (ip_get ls 0) (fun x => ip_wp X 96 42 ls (x :: st) M K) := wp_aload_n ((ip_a96 41).trans (ip_f96_1 (k := 7) rfl))
theorem w96_42 (X : ip_X) (ls st : List Value) (M : ip_H) (K : Option Value → ip_H → Prop) : ip_wp X 96 42 ls st M K = ip_ka (ip_get ls 1) (fun x => ip_wp X 96 43 ls (x :: st) M K) := wp_aload_n ((ip_a96 42).trans (ip_f96_1 (k := 8) rfl))
theorem w96_43 (X : ip_X) (ls st : List Value) (M : ip_H) (K : Option Value → ip_H → Prop) : ip_wp X 96 43 ls st M K = ip_ki (ip_get ls 2) (fun x => ip_wp X 96 44 ls (.int x :: st) M K) := wp_iload_n ((ip_a96 43).trans (ip_f96_1 (k := 9) rfl))
theorem w96_44 (X : ip_X) (ls st : List Value) (M : ip_H) (K : Option Value → ip_H → Prop) : ip_wp X 96 44 ls st M K = ip_wp X 96 45 ls (.int 3 :: st) M K := wp_iconst ((ip_a96 44).trans (ip_f96_1 (k := 10) rfl))
theorem w96_45 (X : ip_X) (ls st : List Value) (M : ip_H) (K : Option Value → ip_H → Prop) (x q : Int32) : ip_wp X 96 45 ls (.int q :: .int x :: st) M K = ip_wp X 96 46 ls (.int (x + q) :: st) M K := wp_iadd ((ip_a96 45).trans (ip_f96_1 (k := 11) rfl))
theorem w96_46 (X : ip_X) (ls st : List Value) (M : ip_H) (K : Option Value → ip_H → Prop) (i : Int32) (k : Nat) (h0 : (ip_sh M k).1 = 1) (h1 : (ip_sh M k).2.1 = 0) (h2 : ip_ix i (ip_sh M k).2.2 = true) : ip_wp X 96 46 ls (.int i :: .ref k :: st) M K = ip_wp X 96 47 ls (.int (M.2.1 k i.toNatClampNeg) :: st) M K := (wp_iaload ((ip_a96 46).trans (ip_f96_1 (k := 12) rfl))).trans (if_pos ⟨h0, h1, h2⟩)
theorem w96_47 (X : ip_X) (ls st : List Value) (M : ip_H) (K : Option Value → ip_H → Prop) (x : Int32) : ip_wp X 96 47 ls (.int x :: st) M K = ip_wp X 96 48 ls (.long (x.toInt64) :: st) M K := wp_i2l ((ip_a96 47).trans (ip_f96_1 (k := 13) rfl))
theorem w96_48 (X : ip_X) (ls st : List Value) (M : ip_H) (K : Option Value → ip_H → Prop) (k : Nat) (x : Int64) (h0 : (ip_sh M k).1 = 0) (h1 : (ip_sh M k).2.1 = 8) : ip_wp X 96 48 ls (.long x :: .ref k :: st) M K = ip_wp X 96 51 ls st (ip_uL M k 3 x) K := (wp_putL ((ip_a96 48).trans (ip_f96_1 (k := 14) rfl))).trans (if_pos ⟨h0, h1⟩)
theorem w96_51 (X : ip_X) (ls : List Value) (M : ip_H) (K : Option Value → ip_H → Prop) : ip_wp X 96 51 ls [] M K = K none M := wp_vret ((ip_a96 51).trans (ip_f96_1 (k := 15) rfl))
theorem ip_a97 (pc : Nat) : ip_at 97 pc = ip_c97.lookup pc := rfl
theorem ip_s97 : lk_s 0 ip_c97 = true := by decide +kernel
theorem ip_l97_0 : ip_d97_0.length = 24 := rfl
theorem ip_f97_0 {k pc : Nat} {e : ip_E} (h : ip_d97_0[k]? = some (pc, e)) : ip_c97.lookup pc = some e := lk_of ip_s97 (lk_apl h)
theorem ip_f97_1 {k pc : Nat} {e : ip_E} (h : ip_d97_1[k]? = some (pc, e)) : ip_c97.lookup pc = some e := lk_of ip_s97 (lk_app ip_l97_0 h)
theorem w97_0 (X : ip_X) (ls st : List Value) (M : ip_H) (K : Option Value → ip_H → Prop) : ip_wp X 97 0 ls st M K = ip_ki (ip_get ls 2) (fun x => ip_wp X 97 1 ls (.int x :: st) M K) := wp_iload_n ((ip_a97 0).trans (ip_f97_0 (k := 0) rfl))
theorem w97_1 (X : ip_X) (ls st : List Value) (M : ip_H) (K : Option Value → ip_H → Prop) (x : Int32) : ip_wp X 97 1 ls (.int x :: st) M K = if x < 0 then ip_wp X 97 12 ls st M K else ip_wp X 97 4 ls st M K := wp_ifCond_lt ((ip_a97 1).trans (ip_f97_0 (k := 1) rfl))
theorem w97_4 (X : ip_X) (ls st : List Value) (M : ip_H) (K : Option Value → ip_H → Prop) : ip_wp X 97 4 ls st M K = ip_ki (ip_get ls 2) (fun x => ip_wp X 97 5 ls (.int x :: st) M K) := wp_iload_n ((ip_a97 4).trans (ip_f97_0 (k := 2) rfl))
theorem w97_5 (X : ip_X) (ls st : List Value) (M : ip_H) (K : Option Value → ip_H → Prop) : ip_wp X 97 5 ls st M K = ip_ka (ip_get ls 1) (fun x => ip_wp X 97 6 ls (x :: st) M K) := wp_aload_n ((ip_a97 5).trans (ip_f97_0 (k := 3) rfl))
theorem w97_6 (X : ip_X) (ls st : List Value) (M : ip_H) (K : Option Value → ip_H → Prop) (k : Nat) (h0 : (ip_sh M k).1 = 1) : ip_wp X 97 6 ls (.ref k :: st) M K = ip_wp X 97 7 ls (.int (Int32.ofNat (ip_sh M k).2.2) :: st) M K := (wp_alen ((ip_a97 6).trans (ip_f97_0 (k := 4) rfl))).trans (if_pos h0)
theorem w97_7 (X : ip_X) (ls st : List Value) (M : ip_H) (K : Option Value → ip_H → Prop) : ip_wp X 97 7 ls st M K = ip_wp X 97 8 ls (.int 4 :: st) M K := wp_iconst ((ip_a97 7).trans (ip_f97_0 (k := 5) rfl))
theorem w97_8 (X : ip_X) (ls st : List Value) (M : ip_H) (K : Option Value → ip_H → Prop) (x q : Int32) : ip_wp X 97 8 ls (.int q :: .int x :: st) M K = ip_wp X 97 9 ls (.int (x - q) :: st) M K := wp_isub ((ip_a97 8).trans (ip_f97_0 (k := 6) rfl))
theorem w97_9 (X : ip_X) (ls st : List Value) (M : ip_H) (K : Option Value → ip_H → Prop) (x q : Int32) : ip_wp X 97 9 ls (.int q :: .int x :: st) M K = if q < x then ip_wp X 97 12 ls st M K else ip_wp X 97 13 ls st M K := wp_if_icmp_le ((ip_a97 9).trans (ip_f97_0 (k := 7) rfl))
theorem w97_12 (X : ip_X) (ls : List Value) (M : ip_H) (K : Option Value → ip_H → Prop) : ip_wp X 97 12 ls [] M K = K none M := wp_vret ((ip_a97 12).trans (ip_f97_0 (k := 8) rfl))
theorem w97_13 (X : ip_X) (ls st : List Value) (M : ip_H) (K : Option Value → ip_H → Prop) : ip_wp X 97 13 ls st M K = ip_ka (ip_get ls 1) (fun x => ip_wp X 97 14 ls (x :: st) M K) := wp_aload_n ((ip_a97 13).trans (ip_f97_0 (k := 9) rfl))
theorem w97_14 (X : ip_X) (ls st : List Value) (M : ip_H) (K : Option Value → ip_H → Prop) : ip_wp X 97 14 ls st M K = ip_ki (ip_get ls 2) (fun x => ip_wp X 97 15 ls (.int x :: st) M K) := wp_iload_n ((ip_a97 14).trans (ip_f97_0 (k := 10) rfl))
theorem w97_15 (X : ip_X) (ls st : List Value) (M : ip_H) (K : Option Value → ip_H → Prop) : ip_wp X 97 15 ls st M K = ip_ka (ip_get ls 0) (fun x => ip_wp X 97 16 ls (x :: st) M K) := wp_aload_n ((ip_a97 15).trans (ip_f97_0 (k := 11) rfl))
theorem w97_16 (X : ip_X) (ls st : List Value) (M : ip_H) (K : Option Value → ip_H → Prop) (k : Nat) (h0 : (ip_sh M k).1 = 0) (h1 : (ip_sh M k).2.1 = 8) : ip_wp X 97 16 ls (.ref k :: st) M K = ip_wp X 97 19 ls (.long (M.2.2.1 k 0) :: st) M K := (wp_getL ((ip_a97 16).trans (ip_f97_0 (k := 12) rfl))).trans (if_pos ⟨h0, h1⟩)
theorem w97_19 (X : ip_X) (ls st : List Value) (M : ip_H) (K : Option Value → ip_H → Prop) (x : Int64) : ip_wp X 97 19 ls (.long x :: st) M K = ip_wp X 97 20 ls (.int (x.toInt32) :: st) M K := wp_l2i ((ip_a97 19).trans (ip_f97_0 (k := 13) rfl))
theorem w97_20 (X : ip_X) (ls st : List Value) (M : ip_H) (K : Option Value → ip_H → Prop) (i x : Int32) (k : Nat) (h0 : (ip_sh M k).1 = 1) (h1 : (ip_sh M k).2.1 = 0) (h2 : ip_ix i (ip_sh M k).2.2 = true) : ip_wp X 97 20 ls (.int x :: .int i :: .ref k :: st) M K = ip_wp X 97 21 ls st (ip_uI M k i.toNatClampNeg x) K := (wp_iastore ((ip_a97 20).trans (ip_f97_0 (k := 14) rfl))).trans (if_pos ⟨h0, h1, h2⟩)
theorem w97_21 (X : ip_X) (ls st : List Value) (M : ip_H) (K : Option Value → ip_H → Prop) : ip_wp X 97 21 ls st M K = ip_ka (ip_get ls 1) (fun x => ip_wp X 97 22 ls (x :: st) M K) := wp_aload_n ((ip_a97 21).trans (ip_f97_0 (k := 15) rfl))
theorem w97_22 (X : ip_X) (ls st : List Value) (M : ip_H) (K : Option Value → ip_H → Prop) : ip_wp X 97 22 ls st M K = ip_ki (ip_get ls 2) (fun x => ip_wp X 97 23 ls (.int x :: st) M K) := wp_iload_n ((ip_a97 22).trans (ip_f97_0 (k := 16) rfl))
theorem w97_23 (X : ip_X) (ls st : List Value) (M : ip_H) (K : Option Value → ip_H → Prop) : ip_wp X 97 23 ls st M K = ip_wp X 97 24 ls (.int 1 :: st) M K := wp_iconst ((ip_a97 23).trans (ip_f97_0 (k := 17) rfl))
theorem w97_24 (X : ip_X) (ls st : List Value) (M : ip_H) (K : Option Value → ip_H → Prop) (x q : Int32) : ip_wp X 97 24 ls (.int q :: .int x :: st) M K = ip_wp X 97 25 ls (.int (x + q) :: st) M K := wp_iadd ((ip_a97 24).trans (ip_f97_0 (k := 18) rfl))
theorem w97_25 (X : ip_X) (ls st : List Value) (M : ip_H) (K : Option Value → ip_H → Prop) : ip_wp X 97 25 ls st M K = ip_ka (ip_get ls 0) (fun x => ip_wp X 97 26 ls (x :: st) M K) := wp_aload_n ((ip_a97 25).trans (ip_f97_0 (k := 19) rfl))
theorem w97_26 (X : ip_X) (ls st : List Value) (M : ip_H) (K : Option Value → ip_H → Prop) (k : Nat) (h0 : (ip_sh M k).1 = 0) (h1 : (ip_sh M k).2.1 = 8) : ip_wp X 97 26 ls (.ref k :: st) M K = ip_wp X 97 29 ls (.long (M.2.2.1 k 1) :: st) M K := (wp_getL ((ip_a97 26).trans (ip_f97_0 (k := 20) rfl))).trans (if_pos ⟨h0, h1⟩)
theorem w97_29 (X : ip_X) (ls st : List Value) (M : ip_H) (K : Option Value → ip_H → Prop) (x : Int64) : ip_wp X 97 29 ls (.long x :: st) M K = ip_wp X 97 30 ls (.int (x.toInt32) :: st) M K := wp_l2i ((ip_a97 29).trans (ip_f97_0 (k := 21) rfl))
theorem w97_30 (X : ip_X) (ls st : List Value) (M : ip_H) (K : Option Value → ip_H → Prop) (i x : Int32) (k : Nat) (h0 : (ip_sh M k).1 = 1) (h1 : (ip_sh M k).2.1 = 0) (h2 : ip_ix i (ip_sh M k).2.2 = true) : ip_wp X 97 30 ls (.int x :: .int i :: .ref k :: st) M K = ip_wp X 97 31 ls st (ip_uI M k i.toNatClampNeg x) K := (wp_iastore ((ip_a97 30).trans (ip_f97_0 (k := 22) rfl))).trans (if_pos ⟨h0, h1, h2⟩)
theorem w97_31 (X : ip_X) (ls st : List Value) (M : ip_H) (K : Option Value → ip_H → Prop) : ip_wp X 97 31 ls st M K = ip_ka (ip_get ls 1) (fun x => ip_wp X 97 32 ls (x :: st) M K) := wp_aload_n ((ip_a97 31).trans (ip_f97_0 (k := 23) rfl))
theorem w97_32 (X : ip_X) (ls st : List Value) (M : ip_H) (K : Option Value → ip_H → Prop) : ip_wp X 97 32 ls st M K = ip_ki (ip_get ls 2) (fun x => ip_wp X 97 33 ls (.int x :: st) M K) := wp_iload_n ((ip_a97 32).trans (ip_f97_1 (k := 0) rfl))
theorem w97_33 (X : ip_X) (ls st : List Value) (M : ip_H) (K : Option Value → ip_H → Prop) : ip_wp X 97 33 ls st M K = ip_wp X 97 34 ls (.int 2 :: st) M K := wp_iconst ((ip_a97 33).trans (ip_f97_1 (k := 1) rfl))
theorem w97_34 (X : ip_X) (ls st : List Value) (M : ip_H) (K : Option Value → ip_H → Prop) (x q : Int32) : ip_wp X 97 34 ls (.int q :: .int x :: st) M K = ip_wp X 97 35 ls (.int (x + q) :: st) M K := wp_iadd ((ip_a97 34).trans (ip_f97_1 (k := 2) rfl))
theorem w97_35 (X : ip_X) (ls st : List Value) (M : ip_H) (K : Option Value → ip_H → Prop) : ip_wp X 97 35 ls st M K = ip_ka (ip_get ls 0) (fun x => ip_wp X 97 36 ls (x :: st) M K) := wp_aload_n ((ip_a97 35).trans (ip_f97_1 (k := 3) rfl))
theorem w97_36 (X : ip_X) (ls st : List Value) (M : ip_H) (K : Option Value → ip_H → Prop) (k : Nat) (h0 : (ip_sh M k).1 = 0) (h1 : (ip_sh M k).2.1 = 8) : ip_wp X 97 36 ls (.ref k :: st) M K = ip_wp X 97 39 ls (.long (M.2.2.1 k 2) :: st) M K := (wp_getL ((ip_a97 36).trans (ip_f97_1 (k := 4) rfl))).trans (if_pos ⟨h0, h1⟩)
theorem w97_39 (X : ip_X) (ls st : List Value) (M : ip_H) (K : Option Value → ip_H → Prop) (x : Int64) : ip_wp X 97 39 ls (.long x :: st) M K = ip_wp X 97 40 ls (.int (x.toInt32) :: st) M K := wp_l2i ((ip_a97 39).trans (ip_f97_1 (k := 5) rfl))
theorem w97_40 (X : ip_X) (ls st : List Value) (M : ip_H) (K : Option Value → ip_H → Prop) (i x : Int32) (k : Nat) (h0 : (ip_sh M k).1 = 1) (h1 : (ip_sh M k).2.1 = 0) (h2 : ip_ix i (ip_sh M k).2.2 = true) : ip_wp X 97 40 ls (.int x :: .int i :: .ref k :: st) M K = ip_wp X 97 41 ls st (ip_uI M k i.toNatClampNeg x) K := (wp_iastore ((ip_a97 40).trans (ip_f97_1 (k := 6) rfl))).trans (if_pos ⟨h0, h1, h2⟩)
theorem w97_41 (X : ip_X) (ls st : List Value) (M : ip_H) (K : Option Value → ip_H → Prop) : ip_wp X 97 41 ls st M K = ip_ka (ip_get ls 1) (fun x => ip_wp X 97 42 ls (x :: st) M K) := wp_aload_n ((ip_a97 41).trans (ip_f97_1 (k := 7) rfl))
theorem w97_42 (X : ip_X) (ls st : List Value) (M : ip_H) (K : Option Value → ip_H → Prop) : ip_wp X 97 42 ls st M K = ip_ki (ip_get ls 2) (fun x => ip_wp X 97 43 ls (.int x :: st) M K) := wp_iload_n ((ip_a97 42).trans (ip_f97_1 (k := 8) rfl))
theorem w97_43 (X : ip_X) (ls st : List Value) (M : ip_H) (K : Option Value → ip_H → Prop) : ip_wp X 97 43 ls st M K = ip_wp X 97 44 ls (.int 3 :: st) M K := wp_iconst ((ip_a97 43).trans (ip_f97_1 (k := 9) rfl))
theorem w97_44 (X : ip_X) (ls st : List Value) (M : ip_H) (K : Option Value → ip_H → Prop) (x q : Int32) : ip_wp X 97 44 ls (.int q :: .int x :: st) M K = ip_wp X 97 45 ls (.int (x + q) :: st) M K := wp_iadd ((ip_a97 44).trans (ip_f97_1 (k := 10) rfl))
theorem w97_45 (X : ip_X) (ls st : List Value) (M : ip_H) (K : Option Value → ip_H → Prop) : ip_wp X 97 45 ls st M K = ip_ka (ip_get ls 0) (fun x => ip_wp X 97 46 ls (x :: st) M K) := wp_aload_n ((ip_a97 45).trans (ip_f97_1 (k := 11) rfl))
theorem w97_46 (X : ip_X) (ls st : List Value) (M : ip_H) (K : Option Value → ip_H → Prop) (k : Nat) (h0 : (ip_sh M k).1 = 0) (h1 : (ip_sh M k).2.1 = 8) : ip_wp X 97 46 ls (.ref k :: st) M K = ip_wp X 97 49 ls (.long (M.2.2.1 k 3) :: st) M K := (wp_getL ((ip_a97 46).trans (ip_f97_1 (k := 12) rfl))).trans (if_pos ⟨h0, h1⟩)
theorem w97_49 (X : ip_X) (ls st : List Value) (M : ip_H) (K : Option Value → ip_H → Prop) (x : Int64) : ip_wp X 97 49 ls (.long x :: st) M K = ip_wp X 97 50 ls (.int (x.toInt32) :: st) M K := wp_l2i ((ip_a97 49).trans (ip_f97_1 (k := 13) rfl))
theorem w97_50 (X : ip_X) (ls st : List Value) (M : ip_H) (K : Option Value → ip_H → Prop) (i x : Int32) (k : Nat) (h0 : (ip_sh M k).1 = 1) (h1 : (ip_sh M k).2.1 = 0) (h2 : ip_ix i (ip_sh M k).2.2 = true) : ip_wp X 97 50 ls (.int x :: .int i :: .ref k :: st) M K = ip_wp X 97 51 ls st (ip_uI M k i.toNatClampNeg x) K := (wp_iastore ((ip_a97 50).trans (ip_f97_1 (k := 14) rfl))).trans (if_pos ⟨h0, h1, h2⟩)
theorem w97_51 (X : ip_X) (ls : List Value) (M : ip_H) (K : Option Value → ip_H → Prop) : ip_wp X 97 51 ls [] M K = K none M := wp_vret ((ip_a97 51).trans (ip_f97_1 (k := 15) rfl))
theorem ip_a98 (pc : Nat) : ip_at 98 pc = ip_c98.lookup pc := rfl
theorem w98_0 (X : ip_X) (ls st : List Value) (M : ip_H) (K : Option Value → ip_H → Prop) : ip_wp X 98 0 ls st M K = ip_ka (ip_get ls 0) (fun x => ip_wp X 98 1 ls (x :: st) M K) := wp_aload_n ((ip_a98 0).trans rfl)
theorem w98_1_r (X : ip_X) (ls st : List Value) (M : ip_H) (K : Option Value → ip_H → Prop) (x : Nat) : ip_wp X 98 1 ls (.ref x :: st) M K = ip_wp X 98 2 ls (.ref x :: .ref x :: st) M K := wp_dup_r ((ip_a98 1).trans rfl)
theorem w98_1_i (X : ip_X) (ls st : List Value) (M : ip_H) (K : Option Value → ip_H → Prop) (x : Int32) : ip_wp X 98 1 ls (.int x :: st) M K = ip_wp X 98 2 ls (.int x :: .int x :: st) M K := wp_dup_i ((ip_a98 1).trans rfl)
theorem w98_2 (X : ip_X) (ls st : List Value) (M : ip_H) (K : Option Value → ip_H → Prop) (k : Nat) (h0 : (ip_sh M k).1 = 0) (h1 : (ip_sh M k).2.1 = 8) : ip_wp X 98 2 ls (.ref k :: st) M K = ip_wp X 98 5 ls (.long (M.2.2.1 k 0) :: st) M K := (wp_getL ((ip_a98 2).trans rfl)).trans (if_pos ⟨h0, h1⟩)
theorem w98_5 (X : ip_X) (ls st : List Value) (M : ip_H) (K : Option Value → ip_H → Prop) : ip_wp X 98 5 ls st M K = ip_kl (ip_get ls 1) (fun x => ip_wp X 98 6 ls (.long x :: st) M K) := wp_lload_n ((ip_a98 5).trans rfl)
theorem w98_6 (X : ip_X) (ls st : List Value) (M : ip_H) (K : Option Value → ip_H → Prop) : ip_wp X 98 6 ls st M K = ip_ka (ip_get ls 0) (fun x => ip_wp X 98 7 ls (x :: st) M K) := wp_aload_n ((ip_a98 6).trans rfl)
theorem w98_7 (X : ip_X) (ls st : List Value) (M : ip_H) (K : Option Value → ip_H → Prop) (k : Nat) (h0 : (ip_sh M k).1 = 0) (h1 : (ip_sh M k).2.1 = 8) : ip_wp X 98 7 ls (.ref k :: st) M K = ip_wp X 98 10 ls (.long (M.2.2.1 k 3) :: st) M K := (wp_getL ((ip_a98 7).trans rfl)).trans (if_pos ⟨h0, h1⟩)
theorem w98_10 (X : ip_X) (ls st : List Value) (M : ip_H) (K : Option Value → ip_H → Prop) (x q : Int64) : ip_wp X 98 10 ls (.long q :: .long x :: st) M K = ip_wp X 98 11 ls (.long (x * q) :: st) M K := wp_lmul ((ip_a98 10).trans rfl)
theorem w98_11 (X : ip_X) (ls st : List Value) (M : ip_H) (K : Option Value → ip_H → Prop) (x q : Int64) : ip_wp X 98 11 ls (.long q :: .long x :: st) M K = ip_wp X 98 12 ls (.long (x - q) :: st) M K := wp_lsub ((ip_a98 11).trans rfl)
theorem w98_12 (X : ip_X) (ls st : List Value) (M : ip_H) (K : Option Value → ip_H → Prop) (k : Nat) (x : Int64) (h0 : (ip_sh M k).1 = 0) (h1 : (ip_sh M k).2.1 = 8) : ip_wp X 98 12 ls (.long x :: .ref k :: st) M K = ip_wp X 98 15 ls st (ip_uL M k 0 x) K := (wp_putL ((ip_a98 12).trans rfl)).trans (if_pos ⟨h0, h1⟩)
theorem w98_15 (X : ip_X) (ls : List Value) (M : ip_H) (K : Option Value → ip_H → Prop) : ip_wp X 98 15 ls [] M K = K none M := wp_vret ((ip_a98 15).trans rfl)
theorem ip_a101 (pc : Nat) : ip_at 101 pc = ip_c101.lookup pc := rfl
theorem w101_0 (X : ip_X) (ls st : List Value) (M : ip_H) (K : Option Value → ip_H → Prop) : ip_wp X 101 0 ls st M K = ip_ka (ip_get ls 0) (fun x => ip_wp X 101 1 ls (x :: st) M K) := wp_aload_n ((ip_a101 0).trans rfl)
theorem w101_1 (X : ip_X) (ls st : List Value) (M : ip_H) (K : Option Value → ip_H → Prop) (k : Nat) (h0 : (ip_sh M k).1 = 0) (h1 : (ip_sh M k).2.1 = 8) : ip_wp X 101 1 ls (.ref k :: st) M K = ip_wp X 101 4 ls (.long (M.2.2.1 k 0) :: st) M K := (wp_getL ((ip_a101 1).trans rfl)).trans (if_pos ⟨h0, h1⟩)
theorem w101_4 (X : ip_X) (ls st : List Value) (M : ip_H) (K : Option Value → ip_H → Prop) : ip_wp X 101 4 ls st M K = ip_wp X 101 5 ls (.long 0 :: st) M K := wp_lconst ((ip_a101 4).trans rfl)
theorem w101_5 (X : ip_X) (ls st : List Value) (M : ip_H) (K : Option Value → ip_H → Prop) (x q : Int64) : ip_wp X 101 5 ls (.long q :: .long x :: st) M K = ip_wp X 101 6 ls (.int (lg_cmp x q) :: st) M K := wp_lcmp ((ip_a101 5).trans rfl)
theorem w101_6 (X : ip_X) (ls st : List Value) (M : ip_H) (K : Option Value → ip_H → Prop) (x : Int32) : ip_wp X 101 6 ls (.int x :: st) M K = if x = 0 then ip_wp X 101 9 ls st M K else ip_wp X 101 31 ls st M K := wp_ifCond_ne ((ip_a101 6).trans rfl)
theorem w101_9 (X : ip_X) (ls st : List Value) (M : ip_H) (K : Option Value → ip_H → Prop) : ip_wp X 101 9 ls st M K = ip_ka (ip_get ls 0) (fun x => ip_wp X 101 10 ls (x :: st) M K) := wp_aload_n ((ip_a101 9).trans rfl)
theorem w101_10 (X : ip_X) (ls st : List Value) (M : ip_H) (K : Option Value → ip_H → Prop) (k : Nat) (h0 : (ip_sh M k).1 = 0) (h1 : (ip_sh M k).2.1 = 8) : ip_wp X 101 10 ls (.ref k :: st) M K = ip_wp X 101 13 ls (.long (M.2.2.1 k 1) :: st) M K := (wp_getL ((ip_a101 10).trans rfl)).trans (if_pos ⟨h0, h1⟩)
theorem w101_13 (X : ip_X) (ls st : List Value) (M : ip_H) (K : Option Value → ip_H → Prop) : ip_wp X 101 13 ls st M K = ip_wp X 101 14 ls (.long 0 :: st) M K := wp_lconst ((ip_a101 13).trans rfl)
theorem w101_14 (X : ip_X) (ls st : List Value) (M : ip_H) (K : Option Value → ip_H → Prop) (x q : Int64) : ip_wp X 101 14 ls (.long q :: .long x :: st) M K = ip_wp X 101 15 ls (.int (lg_cmp x q) :: st) M K := wp_lcmp ((ip_a101 14).trans rfl)
theorem w101_15 (X : ip_X) (ls st : List Value) (M : ip_H) (K : Option Value → ip_H → Prop) (x : Int32) : ip_wp X 101 15 ls (.int x :: st) M K = if x = 0 then ip_wp X 101 18 ls st M K else ip_wp X 101 31 ls st M K := wp_ifCond_ne ((ip_a101 15).trans rfl)
theorem w101_18 (X : ip_X) (ls st : List Value) (M : ip_H) (K : Option Value → ip_H → Prop) : ip_wp X 101 18 ls st M K = ip_ka (ip_get ls 0) (fun x => ip_wp X 101 19 ls (x :: st) M K) := wp_aload_n ((ip_a101 18).trans rfl)
theorem w101_19 (X : ip_X) (ls st : List Value) (M : ip_H) (K : Option Value → ip_H → Prop) (k : Nat) (h0 : (ip_sh M k).1 = 0) (h1 : (ip_sh M k).2.1 = 8) : ip_wp X 101 19 ls (.ref k :: st) M K = ip_wp X 101 22 ls (.long (M.2.2.1 k 2) :: st) M K := (wp_getL ((ip_a101 19).trans rfl)).trans (if_pos ⟨h0, h1⟩)
theorem w101_22 (X : ip_X) (ls st : List Value) (M : ip_H) (K : Option Value → ip_H → Prop) : ip_wp X 101 22 ls st M K = ip_wp X 101 23 ls (.long 0 :: st) M K := wp_lconst ((ip_a101 22).trans rfl)
theorem w101_23 (X : ip_X) (ls st : List Value) (M : ip_H) (K : Option Value → ip_H → Prop) (x q : Int64) : ip_wp X 101 23 ls (.long q :: .long x :: st) M K = ip_wp X 101 24 ls (.int (lg_cmp x q) :: st) M K := wp_lcmp ((ip_a101 23).trans rfl)
theorem w101_24 (X : ip_X) (ls st : List Value) (M : ip_H) (K : Option Value → ip_H → Prop) (x : Int32) : ip_wp X 101 24 ls (.int x :: st) M K = if x = 0 then ip_wp X 101 27 ls st M K else ip_wp X 101 31 ls st M K := wp_ifCond_ne ((ip_a101 24).trans rfl)
theorem w101_27 (X : ip_X) (ls st : List Value) (M : ip_H) (K : Option Value → ip_H → Prop) : ip_wp X 101 27 ls st M K = ip_wp X 101 28 ls (.int 1 :: st) M K := wp_iconst ((ip_a101 27).trans rfl)
theorem w101_28 (X : ip_X) (ls st : List Value) (M : ip_H) (K : Option Value → ip_H → Prop) : ip_wp X 101 28 ls st M K = ip_wp X 101 32 ls st M K := wp_goto ((ip_a101 28).trans rfl)
theorem w101_31 (X : ip_X) (ls st : List Value) (M : ip_H) (K : Option Value → ip_H → Prop) : ip_wp X 101 31 ls st M K = ip_wp X 101 32 ls (.int 0 :: st) M K := wp_iconst ((ip_a101 31).trans rfl)
theorem w101_32 (X : ip_X) (ls : List Value) (M : ip_H) (K : Option Value → ip_H → Prop) (x : Int32) (h0 : x = 0 ∨ x = 1) : ip_wp X 101 32 ls [.int x] M K = K (some (.int x)) M := (wp_zret ((ip_a101 32).trans rfl)).trans (if_pos h0)
end
noncomputable section
-- PART c13yf07.course
-- A COURSE of the class: numbers
theorem he_k (k p w : Nat) : 10 * Int32.ofNat k + 5 * Int32.ofNat p + Int32.ofNat w = Int32.ofNat (10 * k + 5 * p + w) := by
  rw [show (10 : Int32) = Int32.ofNat 10 from rfl, show (5 : Int32) = Int32.ofNat 5 from rfl, ip_om, ip_om, ip_oa, ip_oa]
theorem he_2 (k p : Nat) : 10 * Int32.ofNat k + 5 * Int32.ofNat p = Int32.ofNat (10 * k + 5 * p) := by
  rw [show (10 : Int32) = Int32.ofNat 10 from rfl, show (5 : Int32) = Int32.ofNat 5 from rfl, ip_om, ip_om, ip_oa]
/-- four ints of a row, as a value -/
def qi (f : Nat → Int32) (j : Nat) : Int × Int × Int × Int := ((f j).toInt, (f (j + 1)).toInt, (f (j + 2)).toInt, (f (j + 3)).toInt)
/-- a value saved into a row -/
def k_sv (M : ip_H) (A j : Nat) (z : Int × Int × Int × Int) : ip_H := ip_uI (ip_uI (ip_uI (ip_uI M A j (Int32.ofInt z.1)) A (j + 1) (Int32.ofInt z.2.1)) A (j + 2) (Int32.ofInt z.2.2.1)) A (j + 3) (Int32.ofInt z.2.2.2)
theorem k_sv_R (M : ip_H) (A j : Nat) (z : Int × Int × Int × Int) : (k_sv M A j z).2.2.2 = M.2.2.2 := rfl
theorem k_sv_sh (M : ip_H) (A j : Nat) (z : Int × Int × Int × Int) (k : Nat) : ip_sh (k_sv M A j z) k = ip_sh M k := rfl
theorem gG_sv (M : ip_H) (A j : Nat) (z : Int × Int × Int × Int) (h : ip_G M) : ip_G (k_sv M A j z) := gG_uI _ _ _ _ (gG_uI _ _ _ _ (gG_uI _ _ _ _ (gG_uI _ _ _ _ h)))
theorem k_sv_I (M : ip_H) (A j : Nat) (z : Int × Int × Int × Int) (a b : Nat) : (k_sv M A j z).2.1 a b = if a = A ∧ b = j + 3 then Int32.ofInt z.2.2.2 else if a = A ∧ b = j + 2 then Int32.ofInt z.2.2.1 else if a = A ∧ b = j + 1 then Int32.ofInt z.2.1 else if a = A ∧ b = j then Int32.ofInt z.1 else M.2.1 a b := by
  unfold k_sv
  simp only [ip_uI_I]
theorem k_sv_o (M : ip_H) (A j : Nat) (z : Int × Int × Int × Int) (a : Nat) (h : ¬ a = A) : (k_sv M A j z).2.1 a = M.2.1 a := by
  funext b
  rw [k_sv_I]
  simp only [h, false_and, ↓reduceIte]
theorem qi_ld (M : ip_H) (v : Nat) (f : Nat → Int32) (j : Nat) : ip_uL (ip_uL (ip_uL (ip_uL M v 0 (f j).toInt64) v 1 (f (j + 1)).toInt64) v 2 (f (j + 2)).toInt64) v 3 (f (j + 3)).toInt64 = k_v M v (qi f j) := by
  unfold k_v qi
  dsimp only
  rw [z_w, z_w, z_w, z_w]
/-- no number but the lower one: nothing is left over -/
def k_iz (z : Int × Int × Int × Int) : Bool := decide (Int64.ofInt z.1 = 0) && (decide (Int64.ofInt z.2.1 = 0) && decide (Int64.ofInt z.2.2.1 = 0))
/-- STATE's number is whole -/
def k_wh (f : Nat → Int32) (j : Nat) : Bool := decide (f (j + 1) = 0) && (decide (f (j + 2) = 0) && decide (f (j + 3) = 1))
set_option maxHeartbeats 40000000 in
set_option maxRecDepth 100000 in
theorem s_96 (X : ip_X) (M : ip_H) (K : Option Value → ip_H → Prop) (v A n j : Nat) (hv : ip_sh M v = (0, 8, 4)) (ha : ip_sh M A = (1, 0, n)) (hn : n < 2147483648) (hj : j + 4 ≤ n) : ip_wp X 96 0 [.ref v, .ref A, .int (Int32.ofNat j)] [] M K = K none (k_v M v (qi (M.2.1 A) j)) := by
  have en : Int32.ofNat n - 4 = Int32.ofNat (n - 4) := by
    apply Int32.toInt_inj.mp
    rw [Int32.toInt_sub, ip_nt _ hn, ip_nt _ (by omega), show (4 : Int32).toInt = 4 from rfl, Int.bmod_eq_of_le_mul_two (by omega) (by omega)]
    omega
  have gl : (Int32.ofNat (n - 4) < Int32.ofNat j) = False := by rw [ip_nlt _ _ (by omega) (by omega)]; exact eq_false (by omega)
  have n0 := eq_false (ip_nn j (by omega))
  have c0 := ip_nc j (by omega)
  have l0 : (j < n) = True := eq_true (by omega)
  have n1 := eq_false (ip_nn (j + 1) (by omega))
  have c1 := ip_nc (j + 1) (by omega)
  have l1 : (j + 1 < n) = True := eq_true (by omega)
  have e1 : Int32.ofNat j + 1 = Int32.ofNat (j + 1) := ip_oa j 1
  have n2 := eq_false (ip_nn (j + 2) (by omega))
  have c2 := ip_nc (j + 2) (by omega)
  have l2 : (j + 2 < n) = True := eq_true (by omega)
  have e2 : Int32.ofNat j + 2 = Int32.ofNat (j + 2) := ip_oa j 2
  have n3 := eq_false (ip_nn (j + 3) (by omega))
  have c3 := ip_nc (j + 3) (by omega)
  have l3 : (j + 3 < n) = True := eq_true (by omega)
  have e3 : Int32.ofNat j + 3 = Int32.ofNat (j + 3) := ip_oa j 3
  rw [← qi_ld]
  simp (config := { maxSteps := 10000000, maxDischargeDepth := 30, decide := true }) only [w96_0, w96_1, w96_4, w96_5, w96_6, w96_7, w96_8, w96_9, w96_12, w96_13, w96_14, w96_15, w96_16, w96_17, w96_18, w96_21, w96_22, w96_23, w96_24, w96_25, w96_26, w96_27, w96_28, w96_31, w96_32, w96_33, w96_34, w96_35, w96_36, w96_37, w96_38, w96_41, w96_42, w96_43, w96_44, w96_45, w96_46, w96_47, w96_48, w96_51, ↓ip_ka0, ↓ip_ka1, ↓ip_ki2, ip_uL_I, ip_uL_sh, ↓reduceIte, and_self, not_false_eq_true, ip_ix_eq, hv, ha, en, gl, n0, c0, l0, n1, c1, l1, n2, c2, l2, n3, c3, l3, e1, e2, e3]

set_option maxHeartbeats 40000000 in
set_option maxRecDepth 100000 in
theorem s_97 (X : ip_X) (M : ip_H) (K : Option Value → ip_H → Prop) (v A n j : Nat) (hv : ip_sh M v = (0, 8, 4)) (ha : ip_sh M A = (1, 0, n)) (hn : n < 2147483648) (hj : j + 4 ≤ n) (z : Int × Int × Int × Int) (hz : cv M v z) : ip_wp X 97 0 [.ref v, .ref A, .int (Int32.ofNat j)] [] M K = K none (k_sv M A j z) := by
  have en : Int32.ofNat n - 4 = Int32.ofNat (n - 4) := by
    apply Int32.toInt_inj.mp
    rw [Int32.toInt_sub, ip_nt _ hn, ip_nt _ (by omega), show (4 : Int32).toInt = 4 from rfl, Int.bmod_eq_of_le_mul_two (by omega) (by omega)]
    omega
  have gl : (Int32.ofNat (n - 4) < Int32.ofNat j) = False := by rw [ip_nlt _ _ (by omega) (by omega)]; exact eq_false (by omega)
  have n0 := eq_false (ip_nn j (by omega))
  have c0 := ip_nc j (by omega)
  have l0 : (j < n) = True := eq_true (by omega)
  have n1 := eq_false (ip_nn (j + 1) (by omega))
  have c1 := ip_nc (j + 1) (by omega)
  have l1 : (j + 1 < n) = True := eq_true (by omega)
  have e1 : Int32.ofNat j + 1 = Int32.ofNat (j + 1) := ip_oa j 1
  have n2 := eq_false (ip_nn (j + 2) (by omega))
  have c2 := ip_nc (j + 2) (by omega)
  have l2 : (j + 2 < n) = True := eq_true (by omega)
  have e2 : Int32.ofNat j + 2 = Int32.ofNat (j + 2) := ip_oa j 2
  have n3 := eq_false (ip_nn (j + 3) (by omega))
  have c3 := ip_nc (j + 3) (by omega)
  have l3 : (j + 3 < n) = True := eq_true (by omega)
  have e3 : Int32.ofNat j + 3 = Int32.ofNat (j + 3) := ip_oa j 3
  obtain ⟨g0, g1, g2, g3⟩ := hz
  unfold k_sv
  simp (config := { maxSteps := 10000000, maxDischargeDepth := 30, decide := true }) only [w97_0, w97_1, w97_4, w97_5, w97_6, w97_7, w97_8, w97_9, w97_12, w97_13, w97_14, w97_15, w97_16, w97_19, w97_20, w97_21, w97_22, w97_23, w97_24, w97_25, w97_26, w97_29, w97_30, w97_31, w97_32, w97_33, w97_34, w97_35, w97_36, w97_39, w97_40, w97_41, w97_42, w97_43, w97_44, w97_45, w97_46, w97_49, w97_50, w97_51, ↓ip_ka0, ↓ip_ka1, ↓ip_ki2, ip_uI_L, ip_uI_sh, ↓reduceIte, and_self, not_false_eq_true, ip_ix_eq, hv, ha, g0, g1, g2, g3, z_l2i, en, gl, n0, c0, l0, n1, c1, l1, n2, c2, l2, n3, c3, l3, e1, e2, e3]

set_option maxHeartbeats 40000000 in
set_option maxRecDepth 100000 in
theorem s_98 (X : ip_X) (M : ip_H) (K : Option Value → ip_H → Prop) (v : Nat) (z : Int × Int × Int × Int) (m : Int) (hv : ip_sh M v = (0, 8, 4)) (hz : cv M v z) : ip_wp X 98 0 [.ref v, .long (Int64.ofInt m), .retAddr 1] [] M K = K none (ip_uL M v 0 (Int64.ofInt (z.1 - m * z.2.2.2))) := by
  obtain ⟨g0, g1, g2, g3⟩ := hz
  simp (config := { maxSteps := 10000000, maxDischargeDepth := 30, decide := true }) only [w98_0, w98_1_r, w98_1_i, w98_2, w98_5, w98_6, w98_7, w98_10, w98_11, w98_12, w98_15, ↓ip_ka0, ↓ip_kl1, hv, g0, g3, ← Int64.ofInt_mul, ← Int64.ofInt_sub]

set_option maxHeartbeats 40000000 in
set_option maxRecDepth 100000 in
theorem s_101 (X : ip_X) (M : ip_H) (K : Option Value → ip_H → Prop) (v : Nat) (z : Int × Int × Int × Int) (hv : ip_sh M v = (0, 8, 4)) (hz : cv M v z) : ip_wp X 101 0 [.ref v] [] M K = K (some (.int (ip_b (k_iz z)))) M := by
  obtain ⟨g0, g1, g2, g3⟩ := hz
  unfold k_iz
  by_cases e0 : Int64.ofInt z.1 = 0
  · skip
    by_cases e1 : Int64.ofInt z.2.1 = 0
    · skip
      by_cases e2 : Int64.ofInt z.2.2.1 = 0
      · simp (config := { maxSteps := 10000000, maxDischargeDepth := 30, decide := true }) only [w101_0, w101_1, w101_4, w101_5, w101_6, w101_9, w101_10, w101_13, w101_14, w101_15, w101_18, w101_19, w101_22, w101_23, w101_24, w101_27, w101_28, w101_31, w101_32, ↓ip_ka0, ↓reduceIte, or_true, ip_b_t, hv, g0, g1, g2, e0, e1, e2, decide_true, Bool.and_true]
      · simp (config := { maxSteps := 10000000, maxDischargeDepth := 30, decide := true }) only [w101_0, w101_1, w101_4, w101_5, w101_6, w101_9, w101_10, w101_13, w101_14, w101_15, w101_18, w101_19, w101_22, w101_23, w101_24, w101_27, w101_28, w101_31, w101_32, ↓ip_ka0, ↓reduceIte, or_false, ip_b_f, ip_cmp_eq, hv, g0, g1, g2, e0, e1, e2, decide_true, decide_false, Bool.and_false]
    · simp (config := { maxSteps := 10000000, maxDischargeDepth := 30, decide := true }) only [w101_0, w101_1, w101_4, w101_5, w101_6, w101_9, w101_10, w101_13, w101_14, w101_15, w101_18, w101_19, w101_22, w101_23, w101_24, w101_27, w101_28, w101_31, w101_32, ↓ip_ka0, ↓reduceIte, or_false, ip_b_f, ip_cmp_eq, hv, g0, g1, e0, e1, decide_true, decide_false, Bool.and_false, Bool.false_and]
  · simp (config := { maxSteps := 10000000, maxDischargeDepth := 30, decide := true }) only [w101_0, w101_1, w101_4, w101_5, w101_6, w101_9, w101_10, w101_13, w101_14, w101_15, w101_18, w101_19, w101_22, w101_23, w101_24, w101_27, w101_28, w101_31, w101_32, ↓ip_ka0, ↓reduceIte, or_false, ip_b_f, ip_cmp_eq, hv, g0, e0, decide_false, Bool.false_and]


set_option maxHeartbeats 40000000 in
set_option maxRecDepth 100000 in
theorem s_14_6 (X : ip_X) (M : ip_H) (K : Option Value → ip_H → Prop) (k j : Nat) (part what : Int32) (hk : k ≤ 60) (he : 10 * Int32.ofNat k + 5 * part + what = Int32.ofNat j) (hj : j < 610) (hG : ip_G M) : ip_wp X 14 0 [.ref 6, .int (Int32.ofNat k), .int part, .int what, .retAddr 1] [] M K = K (some (.int (M.2.1 7 j))) M := by
  have nk := eq_false (ip_nn k (by omega))
  have n0 := eq_false (ip_nn j (by omega))
  have c0 := ip_nc j (by omega)
  have l0 : (j < 610) = True := eq_true hj
  have g : (Int32.ofNat j < 610) = True := by rw [show (610 : Int32) = Int32.ofNat 610 from rfl, ip_nlt _ _ (by omega) (by decide)]; exact eq_true hj
  simp (config := { maxSteps := 10000000, maxDischargeDepth := 30, decide := true }) only [w14_0, w14_2, w14_3, w14_4, w14_5, w14_6, w14_7, w14_8, w14_9, w14_10, w14_12, w14_13, w14_16, w14_18, w14_21, w14_23, w14_24, w14_27, w14_28, w14_31, w14_32, w14_35, w14_37, w14_38, w14_41, w14_43, ↓ip_ka0, ↓ip_ki1, ↓ip_ki2, ↓ip_ki3, ↓ip_ki4, ip_get_0, ip_get_s, ip_set1, ip_clr_s, ip_cat_i, List.set_cons_zero, List.set_cons_succ, ip_vr_some, ↓reduceIte, Nat.reduceEqDiff, and_self, not_false_eq_true, ip_ix_eq, Int32.reduceOfNat, gS_6 hG, gS_7 hG, gR_6_0 hG, he, nk, n0, c0, l0, g]

set_option maxHeartbeats 40000000 in
set_option maxRecDepth 100000 in
theorem s_15_6_0 (X : ip_X) (M : ip_H) (K : Option Value → ip_H → Prop) (k : Nat) (hk : k ≤ 60) (hG : ip_G M) : ip_wp X 15 0 [.ref 6, .int (Int32.ofNat k), .int 0] [] M K = K (some (.int (M.2.1 7 (10 * k + 4)))) M := by
  have t := fun K => s_14_6 X M K k (10 * k + 4) 0 4 hk (he_k k 0 4) (by omega) hG
  simp (config := { maxSteps := 10000000, maxDischargeDepth := 30, decide := true }) only [w15_0, w15_1, w15_2, w15_3, w15_4, w15_7, ↓ip_ka0, ↓ip_ki1, ↓ip_ki2, Option.toList_some, List.nil_append, List.cons_append, List.length_nil, Nat.zero_le, gS_6 hG, t]

set_option maxHeartbeats 40000000 in
set_option maxRecDepth 100000 in
theorem s_16_6_0 (X : ip_X) (M : ip_H) (K : Option Value → ip_H → Prop) (k v : Nat) (hk : k ≤ 60) (hv : ip_sh M v = (0, 8, 4)) (hG : ip_G M) : ip_wp X 16 0 [.ref 6, .int (Int32.ofNat k), .int 0, .ref v] [] M K = K none (k_v M v (qi (M.2.1 7) (10 * k + 0))) := by
  have e : 10 * Int32.ofNat k + 0 = Int32.ofNat (10 * k + 0) := by
    have h := he_2 k 0
    rwa [show (5 : Int32) * Int32.ofNat 0 = 0 from by decide] at h
  have t := fun K => s_96 X M K v 7 610 (10 * k + 0) hv (gS_7 hG) (by decide) (by omega)
  simp (config := { maxSteps := 10000000, maxDischargeDepth := 30, decide := true }) only [w16_0, w16_1, w16_2, w16_5, w16_7, w16_8, w16_9, w16_10, w16_11, w16_12, w16_13, w16_16, ↓ip_ka0, ↓ip_ki1, ↓ip_ki2, ↓ip_ka3, ip_vr_some, Option.toList_none, List.nil_append, List.length_nil, Nat.zero_le, Int32.reduceMul, gS_6 hG, gR_6_0 hG, hv, t, e, Int32.reduceMul]

set_option maxHeartbeats 40000000 in
set_option maxRecDepth 100000 in
theorem s_24_6_0 (X : ip_X) (M : ip_H) (K : Option Value → ip_H → Prop) (k : Nat) (hk : k ≤ 60) (hs : M.2.1 6 4 = Int32.ofNat k) (hG : ip_G M) : ip_wp X 24 0 [.ref 6, .int 0] [] M K = K (some (.int (ip_b (k_wh (M.2.1 7) (10 * k + 0))))) M := by
  have t1 := fun K => s_14_6 X M K k (10 * k + 0 + 1) 0 1 hk (he_k k 0 1) (by omega) hG
  have t2 := fun K => s_14_6 X M K k (10 * k + 0 + 2) 0 2 hk (he_k k 0 2) (by omega) hG
  have t3 := fun K => s_14_6 X M K k (10 * k + 0 + 3) 0 3 hk (he_k k 0 3) (by omega) hG
  unfold k_wh
  by_cases e0 : M.2.1 7 (10 * k + 0 + 1) = 0
  · skip
    by_cases e1 : M.2.1 7 (10 * k + 0 + 2) = 0
    · skip
      by_cases e2 : M.2.1 7 (10 * k + 0 + 3) = 1
      · simp (config := { maxSteps := 10000000, maxDischargeDepth := 30, decide := true }) only [w24_0, w24_1, w24_2, w24_5, w24_6, w24_7, w24_10, w24_13, w24_14, w24_15, w24_18, w24_19, w24_20, w24_23, w24_26, w24_27, w24_28, w24_31, w24_32, w24_33, w24_36, w24_37, w24_40, w24_41, w24_44, w24_45, ↓ip_ka0, ↓ip_ki1, Option.toList_some, List.nil_append, List.cons_append, List.length_nil, ↓reduceIte, Nat.zero_le, or_true, ip_b_t, gS_6 hG, t1, t2, t3, hs, e0, e1, e2, decide_true, Bool.and_true]
      · simp (config := { maxSteps := 10000000, maxDischargeDepth := 30, decide := true }) only [w24_0, w24_1, w24_2, w24_5, w24_6, w24_7, w24_10, w24_13, w24_14, w24_15, w24_18, w24_19, w24_20, w24_23, w24_26, w24_27, w24_28, w24_31, w24_32, w24_33, w24_36, w24_37, w24_40, w24_41, w24_44, w24_45, ↓ip_ka0, ↓ip_ki1, Option.toList_some, List.nil_append, List.cons_append, List.length_nil, ↓reduceIte, Nat.zero_le, or_false, ip_b_f, gS_6 hG, t1, t2, t3, hs, e0, e1, e2, decide_true, decide_false, Bool.and_false]
    · simp (config := { maxSteps := 10000000, maxDischargeDepth := 30, decide := true }) only [w24_0, w24_1, w24_2, w24_5, w24_6, w24_7, w24_10, w24_13, w24_14, w24_15, w24_18, w24_19, w24_20, w24_23, w24_26, w24_27, w24_28, w24_31, w24_32, w24_33, w24_36, w24_37, w24_40, w24_41, w24_44, w24_45, ↓ip_ka0, ↓ip_ki1, Option.toList_some, List.nil_append, List.cons_append, List.length_nil, ↓reduceIte, Nat.zero_le, or_false, ip_b_f, gS_6 hG, t1, t2, t3, hs, e0, e1, decide_true, decide_false, Bool.and_false, Bool.false_and]
  · simp (config := { maxSteps := 10000000, maxDischargeDepth := 30, decide := true }) only [w24_0, w24_1, w24_2, w24_5, w24_6, w24_7, w24_10, w24_13, w24_14, w24_15, w24_18, w24_19, w24_20, w24_23, w24_26, w24_27, w24_28, w24_31, w24_32, w24_33, w24_36, w24_37, w24_40, w24_41, w24_44, w24_45, ↓ip_ka0, ↓ip_ki1, Option.toList_some, List.nil_append, List.cons_append, List.length_nil, ↓reduceIte, Nat.zero_le, or_false, ip_b_f, gS_6 hG, t1, t3, hs, e0, decide_false, Bool.false_and]

set_option maxHeartbeats 40000000 in
set_option maxRecDepth 100000 in
theorem s_15_6_1 (X : ip_X) (M : ip_H) (K : Option Value → ip_H → Prop) (k : Nat) (hk : k ≤ 60) (hG : ip_G M) : ip_wp X 15 0 [.ref 6, .int (Int32.ofNat k), .int 1] [] M K = K (some (.int (M.2.1 7 (10 * k + 9)))) M := by
  have t := fun K => s_14_6 X M K k (10 * k + 9) 1 4 hk (he_k k 1 4) (by omega) hG
  simp (config := { maxSteps := 10000000, maxDischargeDepth := 30, decide := true }) only [w15_0, w15_1, w15_2, w15_3, w15_4, w15_7, ↓ip_ka0, ↓ip_ki1, ↓ip_ki2, Option.toList_some, List.nil_append, List.cons_append, List.length_nil, Nat.zero_le, gS_6 hG, t]

set_option maxHeartbeats 40000000 in
set_option maxRecDepth 100000 in
theorem s_16_6_1 (X : ip_X) (M : ip_H) (K : Option Value → ip_H → Prop) (k v : Nat) (hk : k ≤ 60) (hv : ip_sh M v = (0, 8, 4)) (hG : ip_G M) : ip_wp X 16 0 [.ref 6, .int (Int32.ofNat k), .int 1, .ref v] [] M K = K none (k_v M v (qi (M.2.1 7) (10 * k + 5))) := by
  have e : 10 * Int32.ofNat k + 5 = Int32.ofNat (10 * k + 5) := by
    have h := he_2 k 1
    rwa [show (5 : Int32) * Int32.ofNat 1 = 5 from by decide] at h
  have t := fun K => s_96 X M K v 7 610 (10 * k + 5) hv (gS_7 hG) (by decide) (by omega)
  simp (config := { maxSteps := 10000000, maxDischargeDepth := 30, decide := true }) only [w16_0, w16_1, w16_2, w16_5, w16_7, w16_8, w16_9, w16_10, w16_11, w16_12, w16_13, w16_16, ↓ip_ka0, ↓ip_ki1, ↓ip_ki2, ↓ip_ka3, ip_vr_some, Option.toList_none, List.nil_append, List.length_nil, Nat.zero_le, Int32.reduceMul, gS_6 hG, gR_6_0 hG, hv, t, e, Int32.reduceMul]

set_option maxHeartbeats 40000000 in
set_option maxRecDepth 100000 in
theorem s_24_6_1 (X : ip_X) (M : ip_H) (K : Option Value → ip_H → Prop) (k : Nat) (hk : k ≤ 60) (hs : M.2.1 6 4 = Int32.ofNat k) (hG : ip_G M) : ip_wp X 24 0 [.ref 6, .int 1] [] M K = K (some (.int (ip_b (k_wh (M.2.1 7) (10 * k + 5))))) M := by
  have t1 := fun K => s_14_6 X M K k (10 * k + 5 + 1) 1 1 hk (he_k k 1 1) (by omega) hG
  have t2 := fun K => s_14_6 X M K k (10 * k + 5 + 2) 1 2 hk (he_k k 1 2) (by omega) hG
  have t3 := fun K => s_14_6 X M K k (10 * k + 5 + 3) 1 3 hk (he_k k 1 3) (by omega) hG
  unfold k_wh
  by_cases e0 : M.2.1 7 (10 * k + 5 + 1) = 0
  · skip
    by_cases e1 : M.2.1 7 (10 * k + 5 + 2) = 0
    · skip
      by_cases e2 : M.2.1 7 (10 * k + 5 + 3) = 1
      · simp (config := { maxSteps := 10000000, maxDischargeDepth := 30, decide := true }) only [w24_0, w24_1, w24_2, w24_5, w24_6, w24_7, w24_10, w24_13, w24_14, w24_15, w24_18, w24_19, w24_20, w24_23, w24_26, w24_27, w24_28, w24_31, w24_32, w24_33, w24_36, w24_37, w24_40, w24_41, w24_44, w24_45, ↓ip_ka0, ↓ip_ki1, Option.toList_some, List.nil_append, List.cons_append, List.length_nil, ↓reduceIte, Nat.zero_le, or_true, ip_b_t, gS_6 hG, t1, t2, t3, hs, e0, e1, e2, decide_true, Bool.and_true]
      · simp (config := { maxSteps := 10000000, maxDischargeDepth := 30, decide := true }) only [w24_0, w24_1, w24_2, w24_5, w24_6, w24_7, w24_10, w24_13, w24_14, w24_15, w24_18, w24_19, w24_20, w24_23, w24_26, w24_27, w24_28, w24_31, w24_32, w24_33, w24_36, w24_37, w24_40, w24_41, w24_44, w24_45, ↓ip_ka0, ↓ip_ki1, Option.toList_some, List.nil_append, List.cons_append, List.length_nil, ↓reduceIte, Nat.zero_le, or_false, ip_b_f, gS_6 hG, t1, t2, t3, hs, e0, e1, e2, decide_true, decide_false, Bool.and_false]
    · simp (config := { maxSteps := 10000000, maxDischargeDepth := 30, decide := true }) only [w24_0, w24_1, w24_2, w24_5, w24_6, w24_7, w24_10, w24_13, w24_14, w24_15, w24_18, w24_19, w24_20, w24_23, w24_26, w24_27, w24_28, w24_31, w24_32, w24_33, w24_36, w24_37, w24_40, w24_41, w24_44, w24_45, ↓ip_ka0, ↓ip_ki1, Option.toList_some, List.nil_append, List.cons_append, List.length_nil, ↓reduceIte, Nat.zero_le, or_false, ip_b_f, gS_6 hG, t1, t2, t3, hs, e0, e1, decide_true, decide_false, Bool.and_false, Bool.false_and]
  · simp (config := { maxSteps := 10000000, maxDischargeDepth := 30, decide := true }) only [w24_0, w24_1, w24_2, w24_5, w24_6, w24_7, w24_10, w24_13, w24_14, w24_15, w24_18, w24_19, w24_20, w24_23, w24_26, w24_27, w24_28, w24_31, w24_32, w24_33, w24_36, w24_37, w24_40, w24_41, w24_44, w24_45, ↓ip_ka0, ↓ip_ki1, Option.toList_some, List.nil_append, List.cons_append, List.length_nil, ↓reduceIte, Nat.zero_le, or_false, ip_b_f, gS_6 hG, t1, t3, hs, e0, decide_false, Bool.false_and]

/-- the COURSE ENDS -/
def k_en6 (M : ip_H) (k : Nat) : Bool := k_wh (M.2.1 7) (10 * k + 0) && (decide (M.2.1 6 3 = 0) || k_wh (M.2.1 7) (10 * k + 5))
set_option maxHeartbeats 40000000 in
set_option maxRecDepth 100000 in
theorem s_23_6 (X : ip_X) (M : ip_H) (K : Option Value → ip_H → Prop) (k : Nat) (hk : k ≤ 60) (hs : M.2.1 6 4 = Int32.ofNat k) (hG : ip_G M) : ip_wp X 23 0 [.ref 6] [] M K = K (some (.int (ip_b (k_en6 M k)))) M := by
  have t0 := fun K => s_24_6_0 X M K k hk hs hG
  have t1 := fun K => s_24_6_1 X M K k hk hs hG
  unfold k_en6
  cases h0 : k_wh (M.2.1 7) (10 * k + 0)
  · rw [h0] at t0
    simp (config := { maxSteps := 10000000, maxDischargeDepth := 30, decide := true }) only [w23_0, w23_1, w23_2, w23_5, w23_8, w23_9, w23_12, w23_15, w23_16, w23_17, w23_20, w23_23, w23_24, w23_27, w23_28, ↓ip_ka0, Option.toList_some, List.nil_append, List.cons_append, List.length_nil, ↓reduceIte, Nat.zero_le, or_false, ip_b_f, gS_6 hG, t0, Bool.false_and]
  · rw [h0] at t0
    by_cases hw : M.2.1 6 3 = 0
    · simp (config := { maxSteps := 10000000, maxDischargeDepth := 30, decide := true }) only [w23_0, w23_1, w23_2, w23_5, w23_8, w23_9, w23_12, w23_15, w23_16, w23_17, w23_20, w23_23, w23_24, w23_27, w23_28, ↓ip_ka0, Option.toList_some, List.nil_append, List.cons_append, List.length_nil, ↓reduceIte, Nat.zero_le, or_true, ip_b_t, gS_6 hG, t0, hw, decide_true, Bool.and_true, Bool.true_or]
    · cases h1 : k_wh (M.2.1 7) (10 * k + 5)
      · rw [h1] at t1
        simp (config := { maxSteps := 10000000, maxDischargeDepth := 30, decide := true }) only [w23_0, w23_1, w23_2, w23_5, w23_8, w23_9, w23_12, w23_15, w23_16, w23_17, w23_20, w23_23, w23_24, w23_27, w23_28, ↓ip_ka0, Option.toList_some, List.nil_append, List.cons_append, List.length_nil, ↓reduceIte, Nat.zero_le, or_false, ip_b_t, ip_b_f, gS_6 hG, t0, t1, hw, decide_false, Bool.and_false, Bool.or_false]
      · rw [h1] at t1
        simp (config := { maxSteps := 10000000, maxDischargeDepth := 30, decide := true }) only [w23_0, w23_1, w23_2, w23_5, w23_8, w23_9, w23_12, w23_15, w23_16, w23_17, w23_20, w23_23, w23_24, w23_27, w23_28, ↓ip_ka0, Option.toList_some, List.nil_append, List.cons_append, List.length_nil, ↓reduceIte, Nat.zero_le, or_true, ip_b_t, gS_6 hG, t0, t1, hw, decide_false, Bool.and_true, Bool.or_true]

set_option maxHeartbeats 40000000 in
set_option maxRecDepth 100000 in
theorem s_11_6 (X : ip_X) (M : ip_H) (K : Option Value → ip_H → Prop) (hG : ip_G M) : ip_wp X 11 0 [.ref 6] [] M K = K (some (.int (ip_b (!decide (M.2.1 6 3 = -1))))) M := by
  by_cases h : M.2.1 6 3 = -1
  · simp (config := { maxSteps := 10000000, maxDischargeDepth := 30, decide := true }) only [w11_0, w11_1, w11_4, w11_5, w11_8, w11_9, w11_12, w11_13, ↓ip_ka0, ↓reduceIte, or_false, ip_b_f, gS_6 hG, h, decide_true, Bool.not_true]
  · simp (config := { maxSteps := 10000000, maxDischargeDepth := 30, decide := true }) only [w11_0, w11_1, w11_4, w11_5, w11_8, w11_9, w11_12, w11_13, ↓ip_ka0, ↓reduceIte, or_true, ip_b_t, gS_6 hG, h, decide_false, Bool.not_false]

set_option maxHeartbeats 40000000 in
set_option maxRecDepth 100000 in
theorem s_12_6 (X : ip_X) (M : ip_H) (K : Option Value → ip_H → Prop) (hG : ip_G M) : ip_wp X 12 0 [.ref 6] [] M K = K (some (.int (ip_b (!decide (M.2.1 6 3 = -1) && !decide (M.2.1 6 5 = -1))))) M := by
  have t := fun K => s_11_6 X M K hG
  by_cases h : M.2.1 6 3 = -1
  · simp (config := { maxSteps := 10000000, maxDischargeDepth := 30, decide := true }) only [w12_0, w12_1, w12_4, w12_7, w12_8, w12_11, w12_12, w12_15, w12_16, w12_19, w12_20, ↓ip_ka0, Option.toList_some, List.nil_append, List.cons_append, List.length_nil, ↓reduceIte, Nat.zero_le, or_false, ip_b_f, gS_6 hG, t, h, decide_true, Bool.not_true, Bool.false_and]
  · by_cases h5 : M.2.1 6 5 = -1
    · simp (config := { maxSteps := 10000000, maxDischargeDepth := 30, decide := true }) only [w12_0, w12_1, w12_4, w12_7, w12_8, w12_11, w12_12, w12_15, w12_16, w12_19, w12_20, ↓ip_ka0, Option.toList_some, List.nil_append, List.cons_append, List.length_nil, ↓reduceIte, Nat.zero_le, or_false, ip_b_t, ip_b_f, gS_6 hG, t, h, h5, decide_true, decide_false, Bool.not_true, Bool.not_false, Bool.and_false]
    · simp (config := { maxSteps := 10000000, maxDischargeDepth := 30, decide := true }) only [w12_0, w12_1, w12_4, w12_7, w12_8, w12_11, w12_12, w12_15, w12_16, w12_19, w12_20, ↓ip_ka0, Option.toList_some, List.nil_append, List.cons_append, List.length_nil, ↓reduceIte, Nat.zero_le, or_true, ip_b_t, gS_6 hG, t, h, h5, decide_false, Bool.not_false, Bool.and_true]

set_option maxHeartbeats 40000000 in
set_option maxRecDepth 100000 in
theorem s_28_6 (X : ip_X) (M : ip_H) (K : Option Value → ip_H → Prop) (k : Nat) (hk : k ≤ 60) (hs : M.2.1 6 4 = Int32.ofNat k) (y z : Int × Int × Int × Int) (hy : cv M 15 y) (hz : cv M 16 z) (hG : ip_G M) : ip_wp X 28 0 [.ref 6, .retAddr 1] [] M K = K none (ip_uI (k_sv (ip_uI (k_sv M 7 (10 * k) y) 7 (10 * k + 4) (M.2.1 6 12)) 7 (10 * k + 5) z) 7 (10 * k + 9) (M.2.1 6 13)) := by
  have e10 : 10 * Int32.ofNat k = Int32.ofNat (10 * k) := by rw [show (10 : Int32) = Int32.ofNat 10 from rfl, ip_om]
  have nk := eq_false (ip_nn (10 * k) (by omega))
  have g : ((600 : Int32) < Int32.ofNat (10 * k)) = False := by rw [show (600 : Int32) = Int32.ofNat 600 from rfl, ip_nlt _ _ (by decide) (by omega)]; exact eq_false (by omega)
  have n4 := eq_false (ip_nn (10 * k + 4) (by omega))
  have c4 := ip_nc (10 * k + 4) (by omega)
  have l4 : (10 * k + 4 < 610) = True := eq_true (by omega)
  have e4 : Int32.ofNat (10 * k) + 4 = Int32.ofNat (10 * k + 4) := ip_oa (10 * k) 4
  have n5 := eq_false (ip_nn (10 * k + 5) (by omega))
  have c5 := ip_nc (10 * k + 5) (by omega)
  have l5 : (10 * k + 5 < 610) = True := eq_true (by omega)
  have e5 : Int32.ofNat (10 * k) + 5 = Int32.ofNat (10 * k + 5) := ip_oa (10 * k) 5
  have n9 := eq_false (ip_nn (10 * k + 9) (by omega))
  have c9 := ip_nc (10 * k + 9) (by omega)
  have l9 : (10 * k + 9 < 610) = True := eq_true (by omega)
  have e9 : Int32.ofNat (10 * k) + 9 = Int32.ofNat (10 * k + 9) := ip_oa (10 * k) 9
  have t1 := fun K => s_97 X M K 15 7 610 (10 * k) (gS_15 hG) (gS_7 hG) (by decide) (by omega) y hy
  have hz2 : cv (ip_uI (k_sv M 7 (10 * k) y) 7 (10 * k + 4) (M.2.1 6 12)) 16 z := hz
  have t2 := fun K => s_97 X (ip_uI (k_sv M 7 (10 * k) y) 7 (10 * k + 4) (M.2.1 6 12)) K 16 7 610 (10 * k + 5) (gS_16 hG) (gS_7 hG) (by decide) (by omega) z hz2
  simp (config := { maxSteps := 10000000, maxDischargeDepth := 30, decide := true }) only [w28_0, w28_2, w28_3, w28_6, w28_7, w28_8, w28_9, w28_12, w28_13, w28_14, w28_17, w28_18, w28_20, w28_21, w28_24, w28_25, w28_26, w28_29, w28_30, w28_33, w28_34, w28_37, w28_38, w28_41, w28_42, w28_43, w28_44, w28_45, w28_48, w28_49, w28_50, w28_53, w28_54, w28_57, w28_58, w28_59, w28_60, w28_63, w28_64, w28_67, w28_68, w28_70, w28_71, w28_72, w28_75, w28_76, ↓ip_ka0, ↓ip_ki1, ip_set1, ip_clr_s, List.set_cons_zero, List.set_cons_succ, ip_uI_I, ip_uI_R, ip_uI_sh, ip_vr_some, Option.toList_none, List.nil_append, List.length_nil, ↓reduceIte, Nat.reduceEqDiff, Nat.zero_le, false_and, and_self, not_false_eq_true, Int32.reduceSub, ip_ix_eq, Int32.reduceOfNat, gS_6 hG, gS_7 hG, gR_6_0 hG, gS_15 hG, gS_16 hG, gR_6_10 hG, gR_6_11 hG, hs, e10, nk, g, t1, t2, n4, c4, l4, e4, e5, n9, c9, l9, e9, k_sv_sh, k_sv_R, gG_sv, k_sv_I]

/-- STATE k is like the last one (m), from the j-th number on -/
def k_li (f : Nat → Int32) (k m : Nat) : Nat → Nat → Bool
  | 0, _ => true
  | n + 1, w => decide (f (10 * k + w) = f (10 * m + w)) && k_li f k m n (w + 1)
set_option maxHeartbeats 40000000 in
set_option maxRecDepth 100000 in
theorem s_30l_6 (X : ip_X) (M : ip_H) (K : Option Value → ip_H → Prop) (k m : Nat) (hk : k ≤ 60) (hm : m ≤ 60) (hs : M.2.1 6 4 = Int32.ofNat m) (hG : ip_G M) : ∀ (n w : Nat), w + n = 10 → ip_wp X 30 2 [.ref 6, .int (Int32.ofNat k), .int (Int32.ofNat w)] [] M K = K (some (.int (ip_b (k_li (M.2.1 7) k m n w)))) M := by
  intro n
  induction n with
  | zero =>
    intro w hw
    have hw2 : w = 10 := by omega
    subst hw2
    have g : ((Int32.ofNat 10) < 10) = False := by decide
    have e : k_li (M.2.1 7) k m 0 10 = true := rfl
    rw [e]
    simp (config := { maxSteps := 10000000, maxDischargeDepth := 30, decide := true }) only [w30_2, w30_3, w30_5, w30_36, w30_37, ↓ip_ki2, ↓reduceIte, or_true, ip_b_t, Int32.reduceOfNat]
  | succ n ih =>
    intro w hw
    have g : (Int32.ofNat w < 10) = True := by rw [show (10 : Int32) = Int32.ofNat 10 from rfl, ip_nlt _ _ (by omega) (by decide)]; exact eq_true (by omega)
    have t1 := fun K => s_14_6 X M K k (10 * k + w) 0 (Int32.ofNat w) hk (he_k k 0 w) (by omega) hG
    have t2 := fun K => s_14_6 X M K m (10 * m + w) 0 (Int32.ofNat w) hm (he_k m 0 w) (by omega) hG
    have ew : Int32.ofNat w + 1 = Int32.ofNat (w + 1) := ip_oa w 1
    have e : k_li (M.2.1 7) k m (n + 1) w = (decide (M.2.1 7 (10 * k + w) = M.2.1 7 (10 * m + w)) && k_li (M.2.1 7) k m n (w + 1)) := rfl
    rw [e]
    by_cases h : M.2.1 7 (10 * k + w) = M.2.1 7 (10 * m + w)
    · rw [decide_eq_true h, Bool.true_and, ← ih (w + 1) (by omega)]
      generalize hR : ip_wp X 30 2 [.ref 6, .int (Int32.ofNat k), .int (Int32.ofNat (w + 1))] [] M K = Q
      simp (config := { maxSteps := 10000000, maxDischargeDepth := 30, decide := true }) only [w30_2, w30_3, w30_5, w30_8, w30_9, w30_10, w30_11, w30_12, w30_15, w30_16, w30_17, w30_20, w30_21, w30_22, w30_25, w30_28, w30_29, w30_30, ↓ip_ka0, ↓ip_ki1, ↓ip_ki2, ip_get_0, ip_get_s, ip_set1, ip_clr_s, ip_cat_i, List.set_cons_zero, List.set_cons_succ, Option.toList_some, List.nil_append, List.cons_append, List.length_nil, List.length_cons, ↓reduceIte, Nat.reduceLeDiff, Nat.reduceEqDiff, Nat.zero_add, Nat.zero_le, gS_6 hG, hs, g, t1, t2, ew, h]
      rw [w30_33, hR]
    · rw [decide_eq_false h, Bool.false_and]
      simp (config := { maxSteps := 10000000, maxDischargeDepth := 30, decide := true }) only [w30_2, w30_3, w30_5, w30_8, w30_9, w30_10, w30_11, w30_12, w30_15, w30_16, w30_17, w30_20, w30_21, w30_22, w30_25, w30_28, w30_29, ↓ip_ka0, ↓ip_ki1, ↓ip_ki2, Option.toList_some, List.nil_append, List.cons_append, List.length_nil, List.length_cons, ↓reduceIte, Nat.reduceLeDiff, Nat.zero_add, Nat.zero_le, or_false, ip_b_f, gS_6 hG, hs, g, t1, t2, h]

set_option maxHeartbeats 40000000 in
set_option maxRecDepth 100000 in
theorem s_30_6 (X : ip_X) (M : ip_H) (K : Option Value → ip_H → Prop) (k m : Nat) (hk : k ≤ 60) (hm : m ≤ 60) (hs : M.2.1 6 4 = Int32.ofNat m) (hG : ip_G M) : ip_wp X 30 0 [.ref 6, .int (Int32.ofNat k), .retAddr 1] [] M K = K (some (.int (ip_b (k_li (M.2.1 7) k m 10 0)))) M := by
  rw [← s_30l_6 X M K k m hk hm hs hG 10 0 rfl]
  simp (config := { maxSteps := 10000000, maxDischargeDepth := 30, decide := true }) only [w30_0, w30_1, ip_get_0, ip_get_s, ip_set1, ip_clr_s, ip_cat_i, List.set_cons_zero, List.set_cons_succ, ↓reduceIte, Nat.reduceEqDiff, Int32.reduceOfNat]

set_option maxHeartbeats 40000000 in
set_option maxRecDepth 100000 in
theorem s_19 (X : ip_X) (M : ip_H) (K : Option Value → ip_H → Prop) (v : Nat) (z : Int × Int × Int × Int) (hG : ip_G M) (hv : ip_sh M v = (0, 8, 4)) (hz : cv M v z) : ip_wp X 19 0 [.ref 1, .ref v] [] M K = K (some (.int (ip_b (decide (0 < z_sg (zN (M.2.1 1 0).toInt (M.2.1 1 1).toInt (M.2.1 1 2).toInt z.1 z.2.1 z.2.2.1)) && !decide (99 < c_f4 (M.2.1 1 0).toInt (M.2.1 1 1).toInt (M.2.1 1 2).toInt z))))) M := by
  have t1 := fun K => s_46 X M K v z hG hv hz
  have t2 := fun K => s_49 X M K v z hG hv hz
  by_cases h1 : 0 < z_sg (zN (M.2.1 1 0).toInt (M.2.1 1 1).toInt (M.2.1 1 2).toInt z.1 z.2.1 z.2.2.1)
  · by_cases h2 : 99 < c_f4 (M.2.1 1 0).toInt (M.2.1 1 1).toInt (M.2.1 1 2).toInt z
    · simp (config := { maxSteps := 10000000, maxDischargeDepth := 30, decide := true }) only [w19_0, w19_1, w19_2, w19_5, w19_8, w19_9, w19_10, w19_13, w19_15, w19_18, w19_19, w19_22, w19_23, ↓ip_ka0, ↓ip_ka1, Option.toList_some, List.nil_append, List.cons_append, List.length_nil, ↓reduceIte, Nat.zero_le, or_false, ip_b_f, t1, t2, h1, h2, gS_1 hG, decide_true, Bool.not_true, Bool.and_false]
    · simp (config := { maxSteps := 10000000, maxDischargeDepth := 30, decide := true }) only [w19_0, w19_1, w19_2, w19_5, w19_8, w19_9, w19_10, w19_13, w19_15, w19_18, w19_19, w19_22, w19_23, ↓ip_ka0, ↓ip_ka1, Option.toList_some, List.nil_append, List.cons_append, List.length_nil, ↓reduceIte, Nat.zero_le, or_true, ip_b_t, t1, t2, h1, h2, gS_1 hG, decide_true, decide_false, Bool.not_false, Bool.and_true]
  · simp (config := { maxSteps := 10000000, maxDischargeDepth := 30, decide := true }) only [w19_0, w19_1, w19_2, w19_5, w19_8, w19_9, w19_10, w19_13, w19_15, w19_18, w19_19, w19_22, w19_23, ↓ip_ka0, ↓ip_ka1, Option.toList_some, List.nil_append, List.cons_append, List.length_nil, ↓reduceIte, Nat.zero_le, or_false, ip_b_f, t1, h1, gS_1 hG, decide_false, Bool.false_and]

set_option maxHeartbeats 40000000 in
set_option maxRecDepth 100000 in
theorem s_18 (X : ip_X) (M : ip_H) (K : Option Value → ip_H → Prop) (v w : Nat) (z y : Int × Int × Int × Int) (hG : ip_G M) (hv : ip_sh M v = (0, 8, 4)) (hz : cv M v z) (hw : ip_sh M w = (0, 8, 4)) (hy : cv M w y) : ip_wp X 18 0 [.ref 1, .ref v, .ref w] [] M K = K (some (.int (ip_b ((decide (0 < z_sg (zN (M.2.1 1 0).toInt (M.2.1 1 1).toInt (M.2.1 1 2).toInt z.1 z.2.1 z.2.2.1)) && !decide (99 < c_f4 (M.2.1 1 0).toInt (M.2.1 1 1).toInt (M.2.1 1 2).toInt z)) && (decide (0 < z_sg (zN (M.2.1 1 0).toInt (M.2.1 1 1).toInt (M.2.1 1 2).toInt y.1 y.2.1 y.2.2.1)) && !decide (99 < c_f4 (M.2.1 1 0).toInt (M.2.1 1 1).toInt (M.2.1 1 2).toInt y)))))) M := by
  have t1 := fun K => s_19 X M K v z hG hv hz
  have t2 := fun K => s_19 X M K w y hG hw hy
  cases h1 : (decide (0 < z_sg (zN (M.2.1 1 0).toInt (M.2.1 1 1).toInt (M.2.1 1 2).toInt z.1 z.2.1 z.2.2.1)) && !decide (99 < c_f4 (M.2.1 1 0).toInt (M.2.1 1 1).toInt (M.2.1 1 2).toInt z))
  · rw [h1] at t1
    simp (config := { maxSteps := 10000000, maxDischargeDepth := 30, decide := true }) only [w18_0, w18_1, w18_2, w18_5, w18_8, w18_9, w18_10, w18_13, w18_16, w18_17, w18_20, w18_21, ↓ip_ka0, ↓ip_ka1, Option.toList_some, List.nil_append, List.cons_append, List.length_nil, ↓reduceIte, Nat.zero_le, or_false, ip_b_f, t1, Bool.false_and]
  · rw [h1] at t1
    cases h2 : (decide (0 < z_sg (zN (M.2.1 1 0).toInt (M.2.1 1 1).toInt (M.2.1 1 2).toInt y.1 y.2.1 y.2.2.1)) && !decide (99 < c_f4 (M.2.1 1 0).toInt (M.2.1 1 1).toInt (M.2.1 1 2).toInt y))
    · rw [h2] at t2
      simp (config := { maxSteps := 10000000, maxDischargeDepth := 30, decide := true }) only [w18_0, w18_1, w18_2, w18_5, w18_8, w18_9, w18_10, w18_13, w18_16, w18_17, w18_20, w18_21, ↓ip_ka0, ↓ip_ka1, ↓ip_ka2, Option.toList_some, List.nil_append, List.cons_append, List.length_nil, ↓reduceIte, Nat.zero_le, or_false, ip_b_t, ip_b_f, t1, t2, Bool.and_false]
    · rw [h2] at t2
      simp (config := { maxSteps := 10000000, maxDischargeDepth := 30, decide := true }) only [w18_0, w18_1, w18_2, w18_5, w18_8, w18_9, w18_10, w18_13, w18_16, w18_17, w18_20, w18_21, ↓ip_ka0, ↓ip_ka1, ↓ip_ka2, Option.toList_some, List.nil_append, List.cons_append, List.length_nil, ↓reduceIte, Nat.zero_le, or_true, ip_b_t, t1, t2, Bool.and_true]
end
noncomputable section
-- PART c13yf08.cowalk2
-- equations of the instructions, by program counter
theorem ip_a20 (pc : Nat) : ip_at 20 pc = ip_c20.lookup pc := rfl
theorem ip_s20 : lk_s 0 ip_c20 = true := by decide +kernel
theorem w20_0 (X : ip_X) (ls st : List Value) (M : ip_H) (K : Option Value → ip_H → Prop) : ip_wp X 20 0 ls st M K = ip_ka (ip_get ls 0) (fun x => ip_wp X 20 1 ls (x :: st) M K) := wp_aload_n ((ip_a20 0).trans (lk_of ip_s20 (k := 0) rfl))
theorem w20_1 (X : ip_X) (ls st : List Value) (M : ip_H) (K : Option Value → ip_H → Prop) (k : Nat) (h0 : st.length ≤ 4) (h1 : (ip_sh M k).1 = 0) (h2 : (ip_sh M k).2.1 = 1) : ip_wp X 20 1 ls (.ref k :: st) M K = ip_wp X 21 0 [.ref k] [] M (fun r M1 => ip_wp X 20 4 ls (r.toList ++ st) M1 K) := (wp_callV1_1 ((ip_a20 1).trans (lk_of ip_s20 (k := 1) rfl)) ⟨h0, by exact Nat.le_of_ble_eq_true rfl, h1, h2⟩)
theorem w20_4 (X : ip_X) (ls st : List Value) (M : ip_H) (K : Option Value → ip_H → Prop) : ip_wp X 20 4 ls st M K = ip_ka (ip_get ls 0) (fun x => ip_wp X 20 5 ls (x :: st) M K) := wp_aload_n ((ip_a20 4).trans (lk_of ip_s20 (k := 2) rfl))
theorem w20_5 (X : ip_X) (ls st : List Value) (M : ip_H) (K : Option Value → ip_H → Prop) : ip_wp X 20 5 ls st M K = ip_ki (ip_get ls 4) (fun x => ip_wp X 20 7 ls (.int x :: st) M K) := wp_iload ((ip_a20 5).trans (lk_of ip_s20 (k := 3) rfl))
theorem w20_7 (X : ip_X) (ls st : List Value) (M : ip_H) (K : Option Value → ip_H → Prop) (k : Nat) (x : Int32) (h0 : (ip_sh M k).1 = 0) (h1 : (ip_sh M k).2.1 = 1) : ip_wp X 20 7 ls (.int x :: .ref k :: st) M K = ip_wp X 20 10 ls st (ip_uI M k 3 x) K := (wp_putI ((ip_a20 7).trans (lk_of ip_s20 (k := 4) rfl))).trans (if_pos ⟨h0, h1⟩)
theorem w20_10 (X : ip_X) (ls st : List Value) (M : ip_H) (K : Option Value → ip_H → Prop) : ip_wp X 20 10 ls st M K = ip_ka (ip_get ls 0) (fun x => ip_wp X 20 11 ls (x :: st) M K) := wp_aload_n ((ip_a20 10).trans (lk_of ip_s20 (k := 5) rfl))
theorem w20_11 (X : ip_X) (ls st : List Value) (M : ip_H) (K : Option Value → ip_H → Prop) (k : Nat) (h0 : (ip_sh M k).1 = 0) (h1 : (ip_sh M k).2.1 = 1) : ip_wp X 20 11 ls (.ref k :: st) M K = ip_wp X 20 14 ls (ip_vr (M.2.2.2 k 10) :: st) M K := (wp_getR ((ip_a20 11).trans (lk_of ip_s20 (k := 6) rfl))).trans (if_pos ⟨h0, h1⟩)
theorem w20_14 (X : ip_X) (ls st : List Value) (M : ip_H) (K : Option Value → ip_H → Prop) : ip_wp X 20 14 ls st M K = ip_ka (ip_get ls 2) (fun x => ip_wp X 20 15 ls (x :: st) M K) := wp_aload_n ((ip_a20 14).trans (lk_of ip_s20 (k := 7) rfl))
theorem w20_15 (X : ip_X) (ls st : List Value) (M : ip_H) (K : Option Value → ip_H → Prop) (k : Nat) (x0 : Nat) (h0 : st.length ≤ 4) (h1 : (ip_sh M k).1 = 0) (h2 : (ip_sh M k).2.1 = 8) : ip_wp X 20 15 ls (.ref x0 :: .ref k :: st) M K = ip_wp X 95 0 [.ref k, .ref x0] [] M (fun r M1 => ip_wp X 20 18 ls (r.toList ++ st) M1 K) := (wp_callV1_2 ((ip_a20 15).trans (lk_of ip_s20 (k := 8) rfl)) ⟨h0, by exact Nat.le_of_ble_eq_true rfl, h1, h2⟩)
theorem w20_18 (X : ip_X) (ls st : List Value) (M : ip_H) (K : Option Value → ip_H → Prop) : ip_wp X 20 18 ls st M K = ip_ka (ip_get ls 0) (fun x => ip_wp X 20 19 ls (x :: st) M K) := wp_aload_n ((ip_a20 18).trans (lk_of ip_s20 (k := 9) rfl))
theorem w20_19 (X : ip_X) (ls st : List Value) (M : ip_H) (K : Option Value → ip_H → Prop) (k : Nat) (h0 : (ip_sh M k).1 = 0) (h1 : (ip_sh M k).2.1 = 1) : ip_wp X 20 19 ls (.ref k :: st) M K = ip_wp X 20 22 ls (ip_vr (M.2.2.2 k 11) :: st) M K := (wp_getR ((ip_a20 19).trans (lk_of ip_s20 (k := 10) rfl))).trans (if_pos ⟨h0, h1⟩)
theorem w20_22 (X : ip_X) (ls st : List Value) (M : ip_H) (K : Option Value → ip_H → Prop) : ip_wp X 20 22 ls st M K = ip_ka (ip_get ls 3) (fun x => ip_wp X 20 23 ls (x :: st) M K) := wp_aload_n ((ip_a20 22).trans (lk_of ip_s20 (k := 11) rfl))
theorem w20_23 (X : ip_X) (ls st : List Value) (M : ip_H) (K : Option Value → ip_H → Prop) (k : Nat) (x0 : Nat) (h0 : st.length ≤ 4) (h1 : (ip_sh M k).1 = 0) (h2 : (ip_sh M k).2.1 = 8) : ip_wp X 20 23 ls (.ref x0 :: .ref k :: st) M K = ip_wp X 95 0 [.ref k, .ref x0] [] M (fun r M1 => ip_wp X 20 26 ls (r.toList ++ st) M1 K) := (wp_callV1_2 ((ip_a20 23).trans (lk_of ip_s20 (k := 12) rfl)) ⟨h0, by exact Nat.le_of_ble_eq_true rfl, h1, h2⟩)
theorem w20_26 (X : ip_X) (ls st : List Value) (M : ip_H) (K : Option Value → ip_H → Prop) : ip_wp X 20 26 ls st M K = ip_ka (ip_get ls 0) (fun x => ip_wp X 20 27 ls (x :: st) M K) := wp_aload_n ((ip_a20 26).trans (lk_of ip_s20 (k := 13) rfl))
theorem w20_27 (X : ip_X) (ls st : List Value) (M : ip_H) (K : Option Value → ip_H → Prop) : ip_wp X 20 27 ls st M K = ip_ka (ip_get ls 1) (fun x => ip_wp X 20 28 ls (x :: st) M K) := wp_aload_n ((ip_a20 27).trans (lk_of ip_s20 (k := 14) rfl))
theorem w20_28 (X : ip_X) (ls st : List Value) (M : ip_H) (K : Option Value → ip_H → Prop) : ip_wp X 20 28 ls st M K = ip_ka (ip_get ls 2) (fun x => ip_wp X 20 29 ls (x :: st) M K) := wp_aload_n ((ip_a20 28).trans (lk_of ip_s20 (k := 15) rfl))
theorem w20_29 (X : ip_X) (ls st : List Value) (M : ip_H) (K : Option Value → ip_H → Prop) (k : Nat) (x0 : Nat) (h0 : st.length ≤ 4) (h1 : (ip_sh M k).1 = 0) (h2 : (ip_sh M k).2.1 = 2) : ip_wp X 20 29 ls (.ref x0 :: .ref k :: st) M K = ip_wp X 49 0 [.ref k, .ref x0, .retAddr 1, .retAddr 1, .retAddr 1, .retAddr 1] [] M (fun r M1 => ip_wp X 20 32 ls (r.toList ++ st) M1 K) := (wp_callV1_2 ((ip_a20 29).trans (lk_of ip_s20 (k := 16) rfl)) ⟨h0, by exact Nat.le_of_ble_eq_true rfl, h1, h2⟩)
theorem w20_32 (X : ip_X) (ls st : List Value) (M : ip_H) (K : Option Value → ip_H → Prop) (k : Nat) (x : Int32) (h0 : (ip_sh M k).1 = 0) (h1 : (ip_sh M k).2.1 = 1) : ip_wp X 20 32 ls (.int x :: .ref k :: st) M K = ip_wp X 20 35 ls st (ip_uI M k 12 x) K := (wp_putI ((ip_a20 32).trans (lk_of ip_s20 (k := 17) rfl))).trans (if_pos ⟨h0, h1⟩)
theorem w20_35 (X : ip_X) (ls st : List Value) (M : ip_H) (K : Option Value → ip_H → Prop) : ip_wp X 20 35 ls st M K = ip_ka (ip_get ls 0) (fun x => ip_wp X 20 36 ls (x :: st) M K) := wp_aload_n ((ip_a20 35).trans (lk_of ip_s20 (k := 18) rfl))
theorem w20_36 (X : ip_X) (ls st : List Value) (M : ip_H) (K : Option Value → ip_H → Prop) : ip_wp X 20 36 ls st M K = ip_ka (ip_get ls 1) (fun x => ip_wp X 20 37 ls (x :: st) M K) := wp_aload_n ((ip_a20 36).trans (lk_of ip_s20 (k := 19) rfl))
theorem w20_37 (X : ip_X) (ls st : List Value) (M : ip_H) (K : Option Value → ip_H → Prop) : ip_wp X 20 37 ls st M K = ip_ka (ip_get ls 3) (fun x => ip_wp X 20 38 ls (x :: st) M K) := wp_aload_n ((ip_a20 37).trans (lk_of ip_s20 (k := 20) rfl))
theorem w20_38 (X : ip_X) (ls st : List Value) (M : ip_H) (K : Option Value → ip_H → Prop) (k : Nat) (x0 : Nat) (h0 : st.length ≤ 4) (h1 : (ip_sh M k).1 = 0) (h2 : (ip_sh M k).2.1 = 2) : ip_wp X 20 38 ls (.ref x0 :: .ref k :: st) M K = ip_wp X 49 0 [.ref k, .ref x0, .retAddr 1, .retAddr 1, .retAddr 1, .retAddr 1] [] M (fun r M1 => ip_wp X 20 41 ls (r.toList ++ st) M1 K) := (wp_callV1_2 ((ip_a20 38).trans (lk_of ip_s20 (k := 21) rfl)) ⟨h0, by exact Nat.le_of_ble_eq_true rfl, h1, h2⟩)
theorem w20_41 (X : ip_X) (ls st : List Value) (M : ip_H) (K : Option Value → ip_H → Prop) (k : Nat) (x : Int32) (h0 : (ip_sh M k).1 = 0) (h1 : (ip_sh M k).2.1 = 1) : ip_wp X 20 41 ls (.int x :: .ref k :: st) M K = ip_wp X 20 44 ls st (ip_uI M k 13 x) K := (wp_putI ((ip_a20 41).trans (lk_of ip_s20 (k := 22) rfl))).trans (if_pos ⟨h0, h1⟩)
theorem w20_44 (X : ip_X) (ls st : List Value) (M : ip_H) (K : Option Value → ip_H → Prop) : ip_wp X 20 44 ls st M K = ip_ka (ip_get ls 0) (fun x => ip_wp X 20 45 ls (x :: st) M K) := wp_aload_n ((ip_a20 44).trans (lk_of ip_s20 (k := 23) rfl))
theorem w20_45 (X : ip_X) (ls st : List Value) (M : ip_H) (K : Option Value → ip_H → Prop) (k : Nat) (h0 : st.length ≤ 4) (h1 : (ip_sh M k).1 = 0) (h2 : (ip_sh M k).2.1 = 1) : ip_wp X 20 45 ls (.ref k :: st) M K = ip_wp X 28 0 [.ref k, .retAddr 1] [] M (fun r M1 => ip_wp X 20 48 ls (r.toList ++ st) M1 K) := (wp_callV1_1 ((ip_a20 45).trans (lk_of ip_s20 (k := 24) rfl)) ⟨h0, by exact Nat.le_of_ble_eq_true rfl, h1, h2⟩)
theorem w20_48 (X : ip_X) (ls st : List Value) (M : ip_H) (K : Option Value → ip_H → Prop) : ip_wp X 20 48 ls st M K = ip_ka (ip_get ls 0) (fun x => ip_wp X 20 49 ls (x :: st) M K) := wp_aload_n ((ip_a20 48).trans (lk_of ip_s20 (k := 25) rfl))
theorem w20_49 (X : ip_X) (ls st : List Value) (M : ip_H) (K : Option Value → ip_H → Prop) (k : Nat) (h0 : (ip_sh M k).1 = 0) (h1 : (ip_sh M k).2.1 = 1) : ip_wp X 20 49 ls (.ref k :: st) M K = ip_wp X 20 52 ls (ip_vr (M.2.2.2 k 2) :: st) M K := (wp_getR ((ip_a20 49).trans (lk_of ip_s20 (k := 26) rfl))).trans (if_pos ⟨h0, h1⟩)
theorem w20_52 (X : ip_X) (ls st : List Value) (M : ip_H) (K : Option Value → ip_H → Prop) (k : Nat) (h0 : st.length ≤ 4) (h1 : (ip_sh M k).1 = 0) (h2 : (ip_sh M k).2.1 = 4) : ip_wp X 20 52 ls (.ref k :: st) M K = ip_wp X 64 0 [.ref k] [] M (fun r M1 => ip_wp X 20 55 ls (r.toList ++ st) M1 K) := (wp_callV1_1 ((ip_a20 52).trans (lk_of ip_s20 (k := 27) rfl)) ⟨h0, by exact Nat.le_of_ble_eq_true rfl, h1, h2⟩)
theorem w20_55 (X : ip_X) (ls : List Value) (M : ip_H) (K : Option Value → ip_H → Prop) : ip_wp X 20 55 ls [] M K = K none M := wp_vret ((ip_a20 55).trans (lk_of ip_s20 (k := 28) rfl))
theorem ip_a25 (pc : Nat) : ip_at 25 pc = ip_c25.lookup pc := rfl
theorem ip_s25 : lk_s 0 ip_c25 = true := by decide +kernel
theorem ip_l25_0 : ip_d25_0.length = 24 := rfl
theorem ip_l25_1 : ip_d25_1.length = 24 := rfl
theorem ip_l25_2 : ip_d25_2.length = 24 := rfl
theorem ip_l25_3 : ip_d25_3.length = 24 := rfl
theorem ip_f25_0 {k pc : Nat} {e : ip_E} (h : ip_d25_0[k]? = some (pc, e)) : ip_c25.lookup pc = some e := lk_of ip_s25 (lk_apl h)
theorem ip_f25_1 {k pc : Nat} {e : ip_E} (h : ip_d25_1[k]? = some (pc, e)) : ip_c25.lookup pc = some e := lk_of ip_s25 (lk_app ip_l25_0 (lk_apl h))
theorem ip_f25_2 {k pc : Nat} {e : ip_E} (h : ip_d25_2[k]? = some (pc, e)) : ip_c25.lookup pc = some e := lk_of ip_s25 (lk_app ip_l25_0 (lk_app ip_l25_1 (lk_apl h)))
theorem ip_f25_3 {k pc : Nat} {e : ip_E} (h : ip_d25_3[k]? = some (pc, e)) : ip_c25.lookup pc = some e := lk_of ip_s25 (lk_app ip_l25_0 (lk_app ip_l25_1 (lk_app ip_l25_2 (lk_apl h))))
theorem ip_f25_4 {k pc : Nat} {e : ip_E} (h : ip_d25_4[k]? = some (pc, e)) : ip_c25.lookup pc = some e := lk_of ip_s25 (lk_app ip_l25_0 (lk_app ip_l25_1 (lk_app ip_l25_2 (lk_app ip_l25_3 h))))
theorem w25_0 (X : ip_X) (ls st : List Value) (M : ip_H) (K : Option Value → ip_H → Prop) : ip_wp X 25 0 ls st M K = ip_ka (ip_get ls 0) (fun x => ip_wp X 25 1 ls (x :: st) M K) := wp_aload_n ((ip_a25 0).trans (ip_f25_0 (k := 0) rfl))
theorem w25_1 (X : ip_X) (ls st : List Value) (M : ip_H) (K : Option Value → ip_H → Prop) (k : Nat) (h0 : st.length ≤ 4) (h1 : (ip_sh M k).1 = 0) (h2 : (ip_sh M k).2.1 = 1) : ip_wp X 25 1 ls (.ref k :: st) M K = ip_wp X 11 0 [.ref k] [] M (fun r M1 => ip_wp X 25 4 ls (r.toList ++ st) M1 K) := (wp_callV1_1 ((ip_a25 1).trans (ip_f25_0 (k := 1) rfl)) ⟨h0, by exact Nat.le_of_ble_eq_true rfl, h1, h2⟩)
theorem w25_4 (X : ip_X) (ls st : List Value) (M : ip_H) (K : Option Value → ip_H → Prop) (x : Int32) : ip_wp X 25 4 ls (.int x :: st) M K = if x = 0 then ip_wp X 25 14 ls st M K else ip_wp X 25 7 ls st M K := wp_ifCond_eq ((ip_a25 4).trans (ip_f25_0 (k := 2) rfl))
theorem w25_7 (X : ip_X) (ls st : List Value) (M : ip_H) (K : Option Value → ip_H → Prop) : ip_wp X 25 7 ls st M K = ip_ka (ip_get ls 0) (fun x => ip_wp X 25 8 ls (x :: st) M K) := wp_aload_n ((ip_a25 7).trans (ip_f25_0 (k := 3) rfl))
theorem w25_8 (X : ip_X) (ls st : List Value) (M : ip_H) (K : Option Value → ip_H → Prop) (k : Nat) (h0 : st.length ≤ 4) (h1 : (ip_sh M k).1 = 0) (h2 : (ip_sh M k).2.1 = 1) : ip_wp X 25 8 ls (.ref k :: st) M K = ip_wp X 23 0 [.ref k] [] M (fun r M1 => ip_wp X 25 11 ls (r.toList ++ st) M1 K) := (wp_callV1_1 ((ip_a25 8).trans (ip_f25_0 (k := 4) rfl)) ⟨h0, by exact Nat.le_of_ble_eq_true rfl, h1, h2⟩)
theorem w25_11 (X : ip_X) (ls st : List Value) (M : ip_H) (K : Option Value → ip_H → Prop) (x : Int32) : ip_wp X 25 11 ls (.int x :: st) M K = if x = 0 then ip_wp X 25 17 ls st M K else ip_wp X 25 14 ls st M K := wp_ifCond_eq ((ip_a25 11).trans (ip_f25_0 (k := 5) rfl))
theorem w25_14 (X : ip_X) (ls st : List Value) (M : ip_H) (K : Option Value → ip_H → Prop) : ip_wp X 25 14 ls st M K = ip_wp X 25 16 ls (.int (-3) :: st) M K := wp_bipush ((ip_a25 14).trans (ip_f25_0 (k := 6) rfl))
theorem w25_16 (X : ip_X) (ls : List Value) (M : ip_H) (K : Option Value → ip_H → Prop) (x : Int32) : ip_wp X 25 16 ls [.int x] M K = K (some (.int x)) M := wp_iret ((ip_a25 16).trans (ip_f25_0 (k := 7) rfl))
theorem w25_17 (X : ip_X) (ls st : List Value) (M : ip_H) (K : Option Value → ip_H → Prop) : ip_wp X 25 17 ls st M K = ip_ka (ip_get ls 0) (fun x => ip_wp X 25 18 ls (x :: st) M K) := wp_aload_n ((ip_a25 17).trans (ip_f25_0 (k := 8) rfl))
theorem w25_18 (X : ip_X) (ls st : List Value) (M : ip_H) (K : Option Value → ip_H → Prop) (k : Nat) (h0 : (ip_sh M k).1 = 0) (h1 : (ip_sh M k).2.1 = 1) : ip_wp X 25 18 ls (.ref k :: st) M K = ip_wp X 25 21 ls (.int (M.2.1 k 4) :: st) M K := (wp_getI ((ip_a25 18).trans (ip_f25_0 (k := 9) rfl))).trans (if_pos ⟨h0, h1⟩)
theorem w25_21 (X : ip_X) (ls st : List Value) (M : ip_H) (K : Option Value → ip_H → Prop) : ip_wp X 25 21 ls st M K = ip_wp X 25 23 ls (.int 60 :: st) M K := wp_bipush ((ip_a25 21).trans (ip_f25_0 (k := 10) rfl))
theorem w25_23 (X : ip_X) (ls st : List Value) (M : ip_H) (K : Option Value → ip_H → Prop) (x q : Int32) : ip_wp X 25 23 ls (.int q :: .int x :: st) M K = if x < q then ip_wp X 25 29 ls st M K else ip_wp X 25 26 ls st M K := wp_if_icmp_lt ((ip_a25 23).trans (ip_f25_0 (k := 11) rfl))
theorem w25_26 (X : ip_X) (ls st : List Value) (M : ip_H) (K : Option Value → ip_H → Prop) : ip_wp X 25 26 ls st M K = ip_wp X 25 28 ls (.int (-5) :: st) M K := wp_bipush ((ip_a25 26).trans (ip_f25_0 (k := 12) rfl))
theorem w25_28 (X : ip_X) (ls : List Value) (M : ip_H) (K : Option Value → ip_H → Prop) (x : Int32) : ip_wp X 25 28 ls [.int x] M K = K (some (.int x)) M := wp_iret ((ip_a25 28).trans (ip_f25_0 (k := 13) rfl))
theorem w25_29 (X : ip_X) (ls st : List Value) (M : ip_H) (K : Option Value → ip_H → Prop) : ip_wp X 25 29 ls st M K = ip_ka (ip_get ls 0) (fun x => ip_wp X 25 30 ls (x :: st) M K) := wp_aload_n ((ip_a25 29).trans (ip_f25_0 (k := 14) rfl))
theorem w25_30 (X : ip_X) (ls st : List Value) (M : ip_H) (K : Option Value → ip_H → Prop) : ip_wp X 25 30 ls st M K = ip_ka (ip_get ls 1) (fun x => ip_wp X 25 31 ls (x :: st) M K) := wp_aload_n ((ip_a25 30).trans (ip_f25_0 (k := 15) rfl))
theorem w25_31 (X : ip_X) (ls st : List Value) (M : ip_H) (K : Option Value → ip_H → Prop) (k : Nat) (x0 : Nat) (h0 : st.length ≤ 4) (h1 : (ip_sh M k).1 = 0) (h2 : (ip_sh M k).2.1 = 1) : ip_wp X 25 31 ls (.ref x0 :: .ref k :: st) M K = ip_wp X 26 0 [.ref k, .ref x0] [] M (fun r M1 => ip_wp X 25 34 ls (r.toList ++ st) M1 K) := (wp_callV1_2 ((ip_a25 31).trans (ip_f25_0 (k := 16) rfl)) ⟨h0, by exact Nat.le_of_ble_eq_true rfl, h1, h2⟩)
theorem w25_34 (X : ip_X) (ls st : List Value) (M : ip_H) (K : Option Value → ip_H → Prop) : ip_wp X 25 34 ls st M K = ip_ka (ip_get ls 0) (fun x => ip_wp X 25 35 ls (x :: st) M K) := wp_aload_n ((ip_a25 34).trans (ip_f25_0 (k := 17) rfl))
theorem w25_35 (X : ip_X) (ls st : List Value) (M : ip_H) (K : Option Value → ip_H → Prop) (k : Nat) (h0 : (ip_sh M k).1 = 0) (h1 : (ip_sh M k).2.1 = 1) : ip_wp X 25 35 ls (.ref k :: st) M K = ip_wp X 25 38 ls (ip_vr (M.2.2.2 k 8) :: st) M K := (wp_getR ((ip_a25 35).trans (ip_f25_0 (k := 18) rfl))).trans (if_pos ⟨h0, h1⟩)
theorem w25_38 (X : ip_X) (ls st : List Value) (M : ip_H) (K : Option Value → ip_H → Prop) (k : Nat) (h0 : st.length ≤ 4) (h1 : (ip_sh M k).1 = 0) (h2 : (ip_sh M k).2.1 = 8) : ip_wp X 25 38 ls (.ref k :: st) M K = ip_wp X 101 0 [.ref k] [] M (fun r M1 => ip_wp X 25 41 ls (r.toList ++ st) M1 K) := (wp_callV1_1 ((ip_a25 38).trans (ip_f25_0 (k := 19) rfl)) ⟨h0, by exact Nat.le_of_ble_eq_true rfl, h1, h2⟩)
theorem w25_41 (X : ip_X) (ls st : List Value) (M : ip_H) (K : Option Value → ip_H → Prop) (x : Int32) : ip_wp X 25 41 ls (.int x :: st) M K = if x = 0 then ip_wp X 25 47 ls st M K else ip_wp X 25 44 ls st M K := wp_ifCond_eq ((ip_a25 41).trans (ip_f25_0 (k := 20) rfl))
theorem w25_44 (X : ip_X) (ls st : List Value) (M : ip_H) (K : Option Value → ip_H → Prop) : ip_wp X 25 44 ls st M K = ip_wp X 25 46 ls (.int (-3) :: st) M K := wp_bipush ((ip_a25 44).trans (ip_f25_0 (k := 21) rfl))
theorem w25_46 (X : ip_X) (ls : List Value) (M : ip_H) (K : Option Value → ip_H → Prop) (x : Int32) : ip_wp X 25 46 ls [.int x] M K = K (some (.int x)) M := wp_iret ((ip_a25 46).trans (ip_f25_0 (k := 22) rfl))
theorem w25_47 (X : ip_X) (ls st : List Value) (M : ip_H) (K : Option Value → ip_H → Prop) : ip_wp X 25 47 ls st M K = ip_ka (ip_get ls 1) (fun x => ip_wp X 25 48 ls (x :: st) M K) := wp_aload_n ((ip_a25 47).trans (ip_f25_0 (k := 23) rfl))
theorem w25_48 (X : ip_X) (ls st : List Value) (M : ip_H) (K : Option Value → ip_H → Prop) : ip_wp X 25 48 ls st M K = ip_ka (ip_get ls 0) (fun x => ip_wp X 25 49 ls (x :: st) M K) := wp_aload_n ((ip_a25 48).trans (ip_f25_1 (k := 0) rfl))
theorem w25_49 (X : ip_X) (ls st : List Value) (M : ip_H) (K : Option Value → ip_H → Prop) (k : Nat) (h0 : (ip_sh M k).1 = 0) (h1 : (ip_sh M k).2.1 = 1) : ip_wp X 25 49 ls (.ref k :: st) M K = ip_wp X 25 52 ls (ip_vr (M.2.2.2 k 9) :: st) M K := (wp_getR ((ip_a25 49).trans (ip_f25_1 (k := 1) rfl))).trans (if_pos ⟨h0, h1⟩)
theorem w25_52 (X : ip_X) (ls st : List Value) (M : ip_H) (K : Option Value → ip_H → Prop) : ip_wp X 25 52 ls st M K = ip_ka (ip_get ls 0) (fun x => ip_wp X 25 53 ls (x :: st) M K) := wp_aload_n ((ip_a25 52).trans (ip_f25_1 (k := 2) rfl))
theorem w25_53 (X : ip_X) (ls st : List Value) (M : ip_H) (K : Option Value → ip_H → Prop) (k : Nat) (h0 : (ip_sh M k).1 = 0) (h1 : (ip_sh M k).2.1 = 1) : ip_wp X 25 53 ls (.ref k :: st) M K = ip_wp X 25 56 ls (ip_vr (M.2.2.2 k 8) :: st) M K := (wp_getR ((ip_a25 53).trans (ip_f25_1 (k := 3) rfl))).trans (if_pos ⟨h0, h1⟩)
theorem w25_56 (X : ip_X) (ls st : List Value) (M : ip_H) (K : Option Value → ip_H → Prop) : ip_wp X 25 56 ls st M K = ip_ka (ip_get ls 0) (fun x => ip_wp X 25 57 ls (x :: st) M K) := wp_aload_n ((ip_a25 56).trans (ip_f25_1 (k := 4) rfl))
theorem w25_57 (X : ip_X) (ls st : List Value) (M : ip_H) (K : Option Value → ip_H → Prop) (k : Nat) (h0 : (ip_sh M k).1 = 0) (h1 : (ip_sh M k).2.1 = 1) : ip_wp X 25 57 ls (.ref k :: st) M K = ip_wp X 25 60 ls (ip_vr (M.2.2.2 k 10) :: st) M K := (wp_getR ((ip_a25 57).trans (ip_f25_1 (k := 5) rfl))).trans (if_pos ⟨h0, h1⟩)
theorem w25_60 (X : ip_X) (ls st : List Value) (M : ip_H) (K : Option Value → ip_H → Prop) (k : Nat) (x0 : Nat) (x1 : Nat) (x2 : Nat) (h0 : st.length ≤ 4) (h1 : (ip_sh M k).1 = 0) (h2 : (ip_sh M k).2.1 = 2) : ip_wp X 25 60 ls (.ref x2 :: .ref x1 :: .ref x0 :: .ref k :: st) M K = ip_wp X 52 0 [.ref k, .ref x0, .ref x1, .ref x2, .retAddr 1, .retAddr 1] [] M (fun r M1 => ip_wp X 25 63 ls (r.toList ++ st) M1 K) := (wp_callV1_4 ((ip_a25 60).trans (ip_f25_1 (k := 6) rfl)) ⟨h0, by exact Nat.le_of_ble_eq_true rfl, h1, h2⟩)
theorem w25_63 (X : ip_X) (ls st : List Value) (M : ip_H) (K : Option Value → ip_H → Prop) : ip_wp X 25 63 ls st M K = ip_ka (ip_get ls 0) (fun x => ip_wp X 25 64 ls (x :: st) M K) := wp_aload_n ((ip_a25 63).trans (ip_f25_1 (k := 7) rfl))
theorem w25_64 (X : ip_X) (ls st : List Value) (M : ip_H) (K : Option Value → ip_H → Prop) (k : Nat) (h0 : (ip_sh M k).1 = 0) (h1 : (ip_sh M k).2.1 = 1) : ip_wp X 25 64 ls (.ref k :: st) M K = ip_wp X 25 67 ls (ip_vr (M.2.2.2 k 11) :: st) M K := (wp_getR ((ip_a25 64).trans (ip_f25_1 (k := 8) rfl))).trans (if_pos ⟨h0, h1⟩)
theorem w25_67 (X : ip_X) (ls st : List Value) (M : ip_H) (K : Option Value → ip_H → Prop) : ip_wp X 25 67 ls st M K = ip_wp X 25 68 ls (.long 1 :: st) M K := wp_lconst ((ip_a25 67).trans (ip_f25_1 (k := 9) rfl))
theorem w25_68 (X : ip_X) (ls st : List Value) (M : ip_H) (K : Option Value → ip_H → Prop) : ip_wp X 25 68 ls st M K = ip_wp X 25 69 ls (.long 0 :: st) M K := wp_lconst ((ip_a25 68).trans (ip_f25_1 (k := 10) rfl))
theorem w25_69 (X : ip_X) (ls st : List Value) (M : ip_H) (K : Option Value → ip_H → Prop) : ip_wp X 25 69 ls st M K = ip_wp X 25 70 ls (.long 0 :: st) M K := wp_lconst ((ip_a25 69).trans (ip_f25_1 (k := 11) rfl))
theorem w25_70 (X : ip_X) (ls st : List Value) (M : ip_H) (K : Option Value → ip_H → Prop) : ip_wp X 25 70 ls st M K = ip_wp X 25 71 ls (.long 1 :: st) M K := wp_lconst ((ip_a25 70).trans (ip_f25_1 (k := 12) rfl))
theorem w25_71 (X : ip_X) (ls st : List Value) (M : ip_H) (K : Option Value → ip_H → Prop) (k : Nat) (x0 : Int64) (x1 : Int64) (x2 : Int64) (x3 : Int64) (h0 : st.length ≤ 4) (h1 : (ip_sh M k).1 = 0) (h2 : (ip_sh M k).2.1 = 8) : ip_wp X 25 71 ls (.long x3 :: .long x2 :: .long x1 :: .long x0 :: .ref k :: st) M K = ip_wp X 93 0 [.ref k, .long x0, .retAddr 1, .long x1, .retAddr 1, .long x2, .retAddr 1, .long x3, .retAddr 1, .retAddr 1, .retAddr 1, .retAddr 1] [] M (fun r M1 => ip_wp X 25 74 ls (r.toList ++ st) M1 K) := (wp_callV1_5 ((ip_a25 71).trans (ip_f25_1 (k := 13) rfl)) ⟨h0, by exact Nat.le_of_ble_eq_true rfl, h1, h2⟩)
theorem w25_74 (X : ip_X) (ls st : List Value) (M : ip_H) (K : Option Value → ip_H → Prop) : ip_wp X 25 74 ls st M K = ip_ka (ip_get ls 1) (fun x => ip_wp X 25 75 ls (x :: st) M K) := wp_aload_n ((ip_a25 74).trans (ip_f25_1 (k := 14) rfl))
theorem w25_75 (X : ip_X) (ls st : List Value) (M : ip_H) (K : Option Value → ip_H → Prop) : ip_wp X 25 75 ls st M K = ip_ka (ip_get ls 0) (fun x => ip_wp X 25 76 ls (x :: st) M K) := wp_aload_n ((ip_a25 75).trans (ip_f25_1 (k := 15) rfl))
theorem w25_76 (X : ip_X) (ls st : List Value) (M : ip_H) (K : Option Value → ip_H → Prop) (k : Nat) (h0 : (ip_sh M k).1 = 0) (h1 : (ip_sh M k).2.1 = 1) : ip_wp X 25 76 ls (.ref k :: st) M K = ip_wp X 25 79 ls (ip_vr (M.2.2.2 k 11) :: st) M K := (wp_getR ((ip_a25 76).trans (ip_f25_1 (k := 16) rfl))).trans (if_pos ⟨h0, h1⟩)
theorem w25_79 (X : ip_X) (ls st : List Value) (M : ip_H) (K : Option Value → ip_H → Prop) : ip_wp X 25 79 ls st M K = ip_ka (ip_get ls 0) (fun x => ip_wp X 25 80 ls (x :: st) M K) := wp_aload_n ((ip_a25 79).trans (ip_f25_1 (k := 17) rfl))
theorem w25_80 (X : ip_X) (ls st : List Value) (M : ip_H) (K : Option Value → ip_H → Prop) (k : Nat) (h0 : (ip_sh M k).1 = 0) (h1 : (ip_sh M k).2.1 = 1) : ip_wp X 25 80 ls (.ref k :: st) M K = ip_wp X 25 83 ls (ip_vr (M.2.2.2 k 8) :: st) M K := (wp_getR ((ip_a25 80).trans (ip_f25_1 (k := 18) rfl))).trans (if_pos ⟨h0, h1⟩)
theorem w25_83 (X : ip_X) (ls st : List Value) (M : ip_H) (K : Option Value → ip_H → Prop) : ip_wp X 25 83 ls st M K = ip_ka (ip_get ls 0) (fun x => ip_wp X 25 84 ls (x :: st) M K) := wp_aload_n ((ip_a25 83).trans (ip_f25_1 (k := 19) rfl))
theorem w25_84 (X : ip_X) (ls st : List Value) (M : ip_H) (K : Option Value → ip_H → Prop) (k : Nat) (h0 : (ip_sh M k).1 = 0) (h1 : (ip_sh M k).2.1 = 1) : ip_wp X 25 84 ls (.ref k :: st) M K = ip_wp X 25 87 ls (ip_vr (M.2.2.2 k 11) :: st) M K := (wp_getR ((ip_a25 84).trans (ip_f25_1 (k := 20) rfl))).trans (if_pos ⟨h0, h1⟩)
theorem w25_87 (X : ip_X) (ls st : List Value) (M : ip_H) (K : Option Value → ip_H → Prop) (k : Nat) (x0 : Nat) (x1 : Nat) (x2 : Nat) (h0 : st.length ≤ 4) (h1 : (ip_sh M k).1 = 0) (h2 : (ip_sh M k).2.1 = 2) : ip_wp X 25 87 ls (.ref x2 :: .ref x1 :: .ref x0 :: .ref k :: st) M K = ip_wp X 52 0 [.ref k, .ref x0, .ref x1, .ref x2, .retAddr 1, .retAddr 1] [] M (fun r M1 => ip_wp X 25 90 ls (r.toList ++ st) M1 K) := (wp_callV1_4 ((ip_a25 87).trans (ip_f25_1 (k := 21) rfl)) ⟨h0, by exact Nat.le_of_ble_eq_true rfl, h1, h2⟩)
theorem w25_90 (X : ip_X) (ls st : List Value) (M : ip_H) (K : Option Value → ip_H → Prop) : ip_wp X 25 90 ls st M K = ip_ka (ip_get ls 0) (fun x => ip_wp X 25 91 ls (x :: st) M K) := wp_aload_n ((ip_a25 90).trans (ip_f25_1 (k := 22) rfl))
theorem w25_91 (X : ip_X) (ls st : List Value) (M : ip_H) (K : Option Value → ip_H → Prop) (k : Nat) (h0 : (ip_sh M k).1 = 0) (h1 : (ip_sh M k).2.1 = 1) : ip_wp X 25 91 ls (.ref k :: st) M K = ip_wp X 25 94 ls (ip_vr (M.2.2.2 k 10) :: st) M K := (wp_getR ((ip_a25 91).trans (ip_f25_1 (k := 23) rfl))).trans (if_pos ⟨h0, h1⟩)
theorem w25_94 (X : ip_X) (ls st : List Value) (M : ip_H) (K : Option Value → ip_H → Prop) (k : Nat) (h0 : st.length ≤ 4) (h1 : (ip_sh M k).1 = 0) (h2 : (ip_sh M k).2.1 = 8) : ip_wp X 25 94 ls (.ref k :: st) M K = ip_wp X 99 0 [.ref k] [] M (fun r M1 => ip_wp X 25 97 ls (r.toList ++ st) M1 K) := (wp_callV1_1 ((ip_a25 94).trans (ip_f25_2 (k := 0) rfl)) ⟨h0, by exact Nat.le_of_ble_eq_true rfl, h1, h2⟩)
theorem w25_97 (X : ip_X) (ls st : List Value) (M : ip_H) (K : Option Value → ip_H → Prop) (x : Int32) : ip_wp X 25 97 ls (.int x :: st) M K = if x = 0 then ip_wp X 25 110 ls st M K else ip_wp X 25 100 ls st M K := wp_ifCond_eq ((ip_a25 97).trans (ip_f25_2 (k := 1) rfl))
theorem w25_100 (X : ip_X) (ls st : List Value) (M : ip_H) (K : Option Value → ip_H → Prop) : ip_wp X 25 100 ls st M K = ip_ka (ip_get ls 0) (fun x => ip_wp X 25 101 ls (x :: st) M K) := wp_aload_n ((ip_a25 100).trans (ip_f25_2 (k := 2) rfl))
theorem w25_101 (X : ip_X) (ls st : List Value) (M : ip_H) (K : Option Value → ip_H → Prop) (k : Nat) (h0 : (ip_sh M k).1 = 0) (h1 : (ip_sh M k).2.1 = 1) : ip_wp X 25 101 ls (.ref k :: st) M K = ip_wp X 25 104 ls (ip_vr (M.2.2.2 k 11) :: st) M K := (wp_getR ((ip_a25 101).trans (ip_f25_2 (k := 3) rfl))).trans (if_pos ⟨h0, h1⟩)
theorem w25_104 (X : ip_X) (ls st : List Value) (M : ip_H) (K : Option Value → ip_H → Prop) (k : Nat) (h0 : st.length ≤ 4) (h1 : (ip_sh M k).1 = 0) (h2 : (ip_sh M k).2.1 = 8) : ip_wp X 25 104 ls (.ref k :: st) M K = ip_wp X 99 0 [.ref k] [] M (fun r M1 => ip_wp X 25 107 ls (r.toList ++ st) M1 K) := (wp_callV1_1 ((ip_a25 104).trans (ip_f25_2 (k := 4) rfl)) ⟨h0, by exact Nat.le_of_ble_eq_true rfl, h1, h2⟩)
theorem w25_107 (X : ip_X) (ls st : List Value) (M : ip_H) (K : Option Value → ip_H → Prop) (x : Int32) : ip_wp X 25 107 ls (.int x :: st) M K = if x = 0 then ip_wp X 25 110 ls st M K else ip_wp X 25 113 ls st M K := wp_ifCond_ne ((ip_a25 107).trans (ip_f25_2 (k := 5) rfl))
theorem w25_110 (X : ip_X) (ls st : List Value) (M : ip_H) (K : Option Value → ip_H → Prop) : ip_wp X 25 110 ls st M K = ip_wp X 25 112 ls (.int (-5) :: st) M K := wp_bipush ((ip_a25 110).trans (ip_f25_2 (k := 6) rfl))
theorem w25_112 (X : ip_X) (ls : List Value) (M : ip_H) (K : Option Value → ip_H → Prop) (x : Int32) : ip_wp X 25 112 ls [.int x] M K = K (some (.int x)) M := wp_iret ((ip_a25 112).trans (ip_f25_2 (k := 7) rfl))
theorem w25_113 (X : ip_X) (ls st : List Value) (M : ip_H) (K : Option Value → ip_H → Prop) : ip_wp X 25 113 ls st M K = ip_ka (ip_get ls 0) (fun x => ip_wp X 25 114 ls (x :: st) M K) := wp_aload_n ((ip_a25 113).trans (ip_f25_2 (k := 8) rfl))
theorem w25_114 (X : ip_X) (ls st : List Value) (M : ip_H) (K : Option Value → ip_H → Prop) : ip_wp X 25 114 ls st M K = ip_ka (ip_get ls 1) (fun x => ip_wp X 25 115 ls (x :: st) M K) := wp_aload_n ((ip_a25 114).trans (ip_f25_2 (k := 9) rfl))
theorem w25_115 (X : ip_X) (ls st : List Value) (M : ip_H) (K : Option Value → ip_H → Prop) : ip_wp X 25 115 ls st M K = ip_ka (ip_get ls 0) (fun x => ip_wp X 25 116 ls (x :: st) M K) := wp_aload_n ((ip_a25 115).trans (ip_f25_2 (k := 10) rfl))
theorem w25_116 (X : ip_X) (ls st : List Value) (M : ip_H) (K : Option Value → ip_H → Prop) (k : Nat) (h0 : (ip_sh M k).1 = 0) (h1 : (ip_sh M k).2.1 = 1) : ip_wp X 25 116 ls (.ref k :: st) M K = ip_wp X 25 119 ls (ip_vr (M.2.2.2 k 10) :: st) M K := (wp_getR ((ip_a25 116).trans (ip_f25_2 (k := 11) rfl))).trans (if_pos ⟨h0, h1⟩)
theorem w25_119 (X : ip_X) (ls st : List Value) (M : ip_H) (K : Option Value → ip_H → Prop) (k : Nat) (x0 : Nat) (h0 : st.length ≤ 4) (h1 : (ip_sh M k).1 = 0) (h2 : (ip_sh M k).2.1 = 2) : ip_wp X 25 119 ls (.ref x0 :: .ref k :: st) M K = ip_wp X 49 0 [.ref k, .ref x0, .retAddr 1, .retAddr 1, .retAddr 1, .retAddr 1] [] M (fun r M1 => ip_wp X 25 122 ls (r.toList ++ st) M1 K) := (wp_callV1_2 ((ip_a25 119).trans (ip_f25_2 (k := 12) rfl)) ⟨h0, by exact Nat.le_of_ble_eq_true rfl, h1, h2⟩)
theorem w25_122 (X : ip_X) (ls st : List Value) (M : ip_H) (K : Option Value → ip_H → Prop) (k : Nat) (x : Int32) (h0 : (ip_sh M k).1 = 0) (h1 : (ip_sh M k).2.1 = 1) : ip_wp X 25 122 ls (.int x :: .ref k :: st) M K = ip_wp X 25 125 ls st (ip_uI M k 12 x) K := (wp_putI ((ip_a25 122).trans (ip_f25_2 (k := 13) rfl))).trans (if_pos ⟨h0, h1⟩)
theorem w25_125 (X : ip_X) (ls st : List Value) (M : ip_H) (K : Option Value → ip_H → Prop) : ip_wp X 25 125 ls st M K = ip_ka (ip_get ls 0) (fun x => ip_wp X 25 126 ls (x :: st) M K) := wp_aload_n ((ip_a25 125).trans (ip_f25_2 (k := 14) rfl))
theorem w25_126 (X : ip_X) (ls st : List Value) (M : ip_H) (K : Option Value → ip_H → Prop) : ip_wp X 25 126 ls st M K = ip_ka (ip_get ls 1) (fun x => ip_wp X 25 127 ls (x :: st) M K) := wp_aload_n ((ip_a25 126).trans (ip_f25_2 (k := 15) rfl))
theorem w25_127 (X : ip_X) (ls st : List Value) (M : ip_H) (K : Option Value → ip_H → Prop) : ip_wp X 25 127 ls st M K = ip_ka (ip_get ls 0) (fun x => ip_wp X 25 128 ls (x :: st) M K) := wp_aload_n ((ip_a25 127).trans (ip_f25_2 (k := 16) rfl))
theorem w25_128 (X : ip_X) (ls st : List Value) (M : ip_H) (K : Option Value → ip_H → Prop) (k : Nat) (h0 : (ip_sh M k).1 = 0) (h1 : (ip_sh M k).2.1 = 1) : ip_wp X 25 128 ls (.ref k :: st) M K = ip_wp X 25 131 ls (ip_vr (M.2.2.2 k 11) :: st) M K := (wp_getR ((ip_a25 128).trans (ip_f25_2 (k := 17) rfl))).trans (if_pos ⟨h0, h1⟩)
theorem w25_131 (X : ip_X) (ls st : List Value) (M : ip_H) (K : Option Value → ip_H → Prop) (k : Nat) (x0 : Nat) (h0 : st.length ≤ 4) (h1 : (ip_sh M k).1 = 0) (h2 : (ip_sh M k).2.1 = 2) : ip_wp X 25 131 ls (.ref x0 :: .ref k :: st) M K = ip_wp X 49 0 [.ref k, .ref x0, .retAddr 1, .retAddr 1, .retAddr 1, .retAddr 1] [] M (fun r M1 => ip_wp X 25 134 ls (r.toList ++ st) M1 K) := (wp_callV1_2 ((ip_a25 131).trans (ip_f25_2 (k := 18) rfl)) ⟨h0, by exact Nat.le_of_ble_eq_true rfl, h1, h2⟩)
theorem w25_134 (X : ip_X) (ls st : List Value) (M : ip_H) (K : Option Value → ip_H → Prop) (k : Nat) (x : Int32) (h0 : (ip_sh M k).1 = 0) (h1 : (ip_sh M k).2.1 = 1) : ip_wp X 25 134 ls (.int x :: .ref k :: st) M K = ip_wp X 25 137 ls st (ip_uI M k 13 x) K := (wp_putI ((ip_a25 134).trans (ip_f25_2 (k := 19) rfl))).trans (if_pos ⟨h0, h1⟩)
theorem w25_137 (X : ip_X) (ls st : List Value) (M : ip_H) (K : Option Value → ip_H → Prop) : ip_wp X 25 137 ls st M K = ip_ka (ip_get ls 0) (fun x => ip_wp X 25 138 ls (x :: st) M K) := wp_aload_n ((ip_a25 137).trans (ip_f25_2 (k := 20) rfl))
theorem w25_138 (X : ip_X) (ls st : List Value) (M : ip_H) (K : Option Value → ip_H → Prop) (k : Nat) (h0 : (ip_sh M k).1 = 0) (h1 : (ip_sh M k).2.1 = 1) : ip_wp X 25 138 ls (.ref k :: st) M K = ip_wp X 25 141 ls (.int (M.2.1 k 12) :: st) M K := (wp_getI ((ip_a25 138).trans (ip_f25_2 (k := 21) rfl))).trans (if_pos ⟨h0, h1⟩)
theorem w25_141 (X : ip_X) (ls st : List Value) (M : ip_H) (K : Option Value → ip_H → Prop) : ip_wp X 25 141 ls st M K = ip_wp X 25 143 ls (.int 99 :: st) M K := wp_bipush ((ip_a25 141).trans (ip_f25_2 (k := 22) rfl))
theorem w25_143 (X : ip_X) (ls st : List Value) (M : ip_H) (K : Option Value → ip_H → Prop) (x q : Int32) : ip_wp X 25 143 ls (.int q :: .int x :: st) M K = if q < x then ip_wp X 25 155 ls st M K else ip_wp X 25 146 ls st M K := wp_if_icmp_gt ((ip_a25 143).trans (ip_f25_2 (k := 23) rfl))
theorem w25_146 (X : ip_X) (ls st : List Value) (M : ip_H) (K : Option Value → ip_H → Prop) : ip_wp X 25 146 ls st M K = ip_ka (ip_get ls 0) (fun x => ip_wp X 25 147 ls (x :: st) M K) := wp_aload_n ((ip_a25 146).trans (ip_f25_3 (k := 0) rfl))
theorem w25_147 (X : ip_X) (ls st : List Value) (M : ip_H) (K : Option Value → ip_H → Prop) (k : Nat) (h0 : (ip_sh M k).1 = 0) (h1 : (ip_sh M k).2.1 = 1) : ip_wp X 25 147 ls (.ref k :: st) M K = ip_wp X 25 150 ls (.int (M.2.1 k 13) :: st) M K := (wp_getI ((ip_a25 147).trans (ip_f25_3 (k := 1) rfl))).trans (if_pos ⟨h0, h1⟩)
theorem w25_150 (X : ip_X) (ls st : List Value) (M : ip_H) (K : Option Value → ip_H → Prop) : ip_wp X 25 150 ls st M K = ip_wp X 25 152 ls (.int 99 :: st) M K := wp_bipush ((ip_a25 150).trans (ip_f25_3 (k := 2) rfl))
theorem w25_152 (X : ip_X) (ls st : List Value) (M : ip_H) (K : Option Value → ip_H → Prop) (x q : Int32) : ip_wp X 25 152 ls (.int q :: .int x :: st) M K = if q < x then ip_wp X 25 155 ls st M K else ip_wp X 25 158 ls st M K := wp_if_icmp_le ((ip_a25 152).trans (ip_f25_3 (k := 3) rfl))
theorem w25_155 (X : ip_X) (ls st : List Value) (M : ip_H) (K : Option Value → ip_H → Prop) : ip_wp X 25 155 ls st M K = ip_wp X 25 157 ls (.int (-5) :: st) M K := wp_bipush ((ip_a25 155).trans (ip_f25_3 (k := 4) rfl))
theorem w25_157 (X : ip_X) (ls : List Value) (M : ip_H) (K : Option Value → ip_H → Prop) (x : Int32) : ip_wp X 25 157 ls [.int x] M K = K (some (.int x)) M := wp_iret ((ip_a25 157).trans (ip_f25_3 (k := 5) rfl))
theorem w25_158 (X : ip_X) (ls st : List Value) (M : ip_H) (K : Option Value → ip_H → Prop) : ip_wp X 25 158 ls st M K = ip_ka (ip_get ls 0) (fun x => ip_wp X 25 159 ls (x :: st) M K) := wp_aload_n ((ip_a25 158).trans (ip_f25_3 (k := 6) rfl))
theorem w25_159 (X : ip_X) (ls st : List Value) (M : ip_H) (K : Option Value → ip_H → Prop) (k : Nat) (h0 : (ip_sh M k).1 = 0) (h1 : (ip_sh M k).2.1 = 1) : ip_wp X 25 159 ls (.ref k :: st) M K = ip_wp X 25 162 ls (ip_vr (M.2.2.2 k 7) :: st) M K := (wp_getR ((ip_a25 159).trans (ip_f25_3 (k := 7) rfl))).trans (if_pos ⟨h0, h1⟩)
theorem w25_162 (X : ip_X) (ls st : List Value) (M : ip_H) (K : Option Value → ip_H → Prop) : ip_wp X 25 162 ls st M K = ip_ka (ip_get ls 0) (fun x => ip_wp X 25 163 ls (x :: st) M K) := wp_aload_n ((ip_a25 162).trans (ip_f25_3 (k := 8) rfl))
theorem w25_163 (X : ip_X) (ls st : List Value) (M : ip_H) (K : Option Value → ip_H → Prop) (k : Nat) (h0 : (ip_sh M k).1 = 0) (h1 : (ip_sh M k).2.1 = 1) : ip_wp X 25 163 ls (.ref k :: st) M K = ip_wp X 25 166 ls (ip_vr (M.2.2.2 k 2) :: st) M K := (wp_getR ((ip_a25 163).trans (ip_f25_3 (k := 9) rfl))).trans (if_pos ⟨h0, h1⟩)
theorem w25_166 (X : ip_X) (ls st : List Value) (M : ip_H) (K : Option Value → ip_H → Prop) (k : Nat) (x0 : Nat) (h0 : st.length ≤ 4) (h1 : (ip_sh M k).1 = 0) (h2 : (ip_sh M k).2.1 = 4) : ip_wp X 25 166 ls (.ref x0 :: .ref k :: st) M K = ip_wp X 65 0 [.ref k, .ref x0] [] M (fun r M1 => ip_wp X 25 169 ls (r.toList ++ st) M1 K) := (wp_callV1_2 ((ip_a25 166).trans (ip_f25_3 (k := 10) rfl)) ⟨h0, by exact Nat.le_of_ble_eq_true rfl, h1, h2⟩)
theorem w25_169 (X : ip_X) (ls st : List Value) (M : ip_H) (K : Option Value → ip_H → Prop) : ip_wp X 25 169 ls st M K = ip_ka (ip_get ls 0) (fun x => ip_wp X 25 170 ls (x :: st) M K) := wp_aload_n ((ip_a25 169).trans (ip_f25_3 (k := 11) rfl))
theorem w25_170 (X : ip_X) (ls st : List Value) (M : ip_H) (K : Option Value → ip_H → Prop) (k : Nat) (h0 : (ip_sh M k).1 = 0) (h1 : (ip_sh M k).2.1 = 1) : ip_wp X 25 170 ls (.ref k :: st) M K = ip_wp X 25 173 ls (ip_vr (M.2.2.2 k 7) :: st) M K := (wp_getR ((ip_a25 170).trans (ip_f25_3 (k := 12) rfl))).trans (if_pos ⟨h0, h1⟩)
theorem w25_173 (X : ip_X) (ls st : List Value) (M : ip_H) (K : Option Value → ip_H → Prop) : ip_wp X 25 173 ls st M K = ip_ka (ip_get ls 0) (fun x => ip_wp X 25 174 ls (x :: st) M K) := wp_aload_n ((ip_a25 173).trans (ip_f25_3 (k := 13) rfl))
theorem w25_174 (X : ip_X) (ls st : List Value) (M : ip_H) (K : Option Value → ip_H → Prop) : ip_wp X 25 174 ls st M K = ip_ka (ip_get ls 0) (fun x => ip_wp X 25 175 ls (x :: st) M K) := wp_aload_n ((ip_a25 174).trans (ip_f25_3 (k := 14) rfl))
theorem w25_175 (X : ip_X) (ls st : List Value) (M : ip_H) (K : Option Value → ip_H → Prop) (k : Nat) (h0 : (ip_sh M k).1 = 0) (h1 : (ip_sh M k).2.1 = 1) : ip_wp X 25 175 ls (.ref k :: st) M K = ip_wp X 25 178 ls (.int (M.2.1 k 4) :: st) M K := (wp_getI ((ip_a25 175).trans (ip_f25_3 (k := 15) rfl))).trans (if_pos ⟨h0, h1⟩)
theorem w25_178 (X : ip_X) (ls st : List Value) (M : ip_H) (K : Option Value → ip_H → Prop) : ip_wp X 25 178 ls st M K = ip_wp X 25 179 ls (.int 0 :: st) M K := wp_iconst ((ip_a25 178).trans (ip_f25_3 (k := 16) rfl))
theorem w25_179 (X : ip_X) (ls st : List Value) (M : ip_H) (K : Option Value → ip_H → Prop) (k : Nat) (x0 : Int32) (x1 : Int32) (h0 : st.length ≤ 4) (h1 : (ip_sh M k).1 = 0) (h2 : (ip_sh M k).2.1 = 1) : ip_wp X 25 179 ls (.int x1 :: .int x0 :: .ref k :: st) M K = ip_wp X 15 0 [.ref k, .int x0, .int x1] [] M (fun r M1 => ip_wp X 25 182 ls (r.toList ++ st) M1 K) := (wp_callV1_3 ((ip_a25 179).trans (ip_f25_3 (k := 17) rfl)) ⟨h0, by exact Nat.le_of_ble_eq_true rfl, h1, h2⟩)
theorem w25_182 (X : ip_X) (ls st : List Value) (M : ip_H) (K : Option Value → ip_H → Prop) : ip_wp X 25 182 ls st M K = ip_ka (ip_get ls 0) (fun x => ip_wp X 25 183 ls (x :: st) M K) := wp_aload_n ((ip_a25 182).trans (ip_f25_3 (k := 18) rfl))
theorem w25_183 (X : ip_X) (ls st : List Value) (M : ip_H) (K : Option Value → ip_H → Prop) : ip_wp X 25 183 ls st M K = ip_ka (ip_get ls 0) (fun x => ip_wp X 25 184 ls (x :: st) M K) := wp_aload_n ((ip_a25 183).trans (ip_f25_3 (k := 19) rfl))
theorem w25_184 (X : ip_X) (ls st : List Value) (M : ip_H) (K : Option Value → ip_H → Prop) (k : Nat) (h0 : (ip_sh M k).1 = 0) (h1 : (ip_sh M k).2.1 = 1) : ip_wp X 25 184 ls (.ref k :: st) M K = ip_wp X 25 187 ls (.int (M.2.1 k 4) :: st) M K := (wp_getI ((ip_a25 184).trans (ip_f25_3 (k := 20) rfl))).trans (if_pos ⟨h0, h1⟩)
theorem w25_187 (X : ip_X) (ls st : List Value) (M : ip_H) (K : Option Value → ip_H → Prop) : ip_wp X 25 187 ls st M K = ip_wp X 25 188 ls (.int 1 :: st) M K := wp_iconst ((ip_a25 187).trans (ip_f25_3 (k := 21) rfl))
theorem w25_188 (X : ip_X) (ls st : List Value) (M : ip_H) (K : Option Value → ip_H → Prop) (k : Nat) (x0 : Int32) (x1 : Int32) (h0 : st.length ≤ 4) (h1 : (ip_sh M k).1 = 0) (h2 : (ip_sh M k).2.1 = 1) : ip_wp X 25 188 ls (.int x1 :: .int x0 :: .ref k :: st) M K = ip_wp X 15 0 [.ref k, .int x0, .int x1] [] M (fun r M1 => ip_wp X 25 191 ls (r.toList ++ st) M1 K) := (wp_callV1_3 ((ip_a25 188).trans (ip_f25_3 (k := 22) rfl)) ⟨h0, by exact Nat.le_of_ble_eq_true rfl, h1, h2⟩)
theorem w25_191 (X : ip_X) (ls st : List Value) (M : ip_H) (K : Option Value → ip_H → Prop) : ip_wp X 25 191 ls st M K = ip_ka (ip_get ls 0) (fun x => ip_wp X 25 192 ls (x :: st) M K) := wp_aload_n ((ip_a25 191).trans (ip_f25_3 (k := 23) rfl))
theorem w25_192 (X : ip_X) (ls st : List Value) (M : ip_H) (K : Option Value → ip_H → Prop) (k : Nat) (h0 : (ip_sh M k).1 = 0) (h1 : (ip_sh M k).2.1 = 1) : ip_wp X 25 192 ls (.ref k :: st) M K = ip_wp X 25 195 ls (.int (M.2.1 k 14) :: st) M K := (wp_getZ ((ip_a25 192).trans (ip_f25_4 (k := 0) rfl))).trans (if_pos ⟨h0, h1⟩)
theorem w25_195 (X : ip_X) (ls st : List Value) (M : ip_H) (K : Option Value → ip_H → Prop) (k : Nat) (x0 : Int32) (x1 : Int32) (x2 : Int32) (h0 : st.length ≤ 4) (h1 : (ip_sh M k).1 = 0) (h2 : (ip_sh M k).2.1 = 4) : ip_wp X 25 195 ls (.int x2 :: .int x1 :: .int x0 :: .ref k :: st) M K = ip_wp X 66 0 [.ref k, .int x0, .int x1, .int x2, .retAddr 1, .retAddr 1, .retAddr 1, .retAddr 1, .retAddr 1, .retAddr 1, .retAddr 1] [] M (fun r M1 => ip_wp X 25 198 ls (r.toList ++ st) M1 K) := (wp_callV1_4 ((ip_a25 195).trans (ip_f25_4 (k := 1) rfl)) ⟨h0, by exact Nat.le_of_ble_eq_true rfl, h1, h2⟩)
theorem w25_198 (X : ip_X) (ls st : List Value) (M : ip_H) (K : Option Value → ip_H → Prop) : ip_wp X 25 198 ls st M K = ip_ka (ip_get ls 0) (fun x => ip_wp X 25 199 ls (x :: st) M K) := wp_aload_n ((ip_a25 198).trans (ip_f25_4 (k := 2) rfl))
theorem w25_199 (X : ip_X) (ls st : List Value) (M : ip_H) (K : Option Value → ip_H → Prop) (k : Nat) (h0 : (ip_sh M k).1 = 0) (h1 : (ip_sh M k).2.1 = 1) : ip_wp X 25 199 ls (.ref k :: st) M K = ip_wp X 25 202 ls (ip_vr (M.2.2.2 k 7) :: st) M K := (wp_getR ((ip_a25 199).trans (ip_f25_4 (k := 3) rfl))).trans (if_pos ⟨h0, h1⟩)
theorem w25_202 (X : ip_X) (ls st : List Value) (M : ip_H) (K : Option Value → ip_H → Prop) (k : Nat) (h0 : st.length ≤ 4) (h1 : (ip_sh M k).1 = 0) (h2 : (ip_sh M k).2.1 = 4) : ip_wp X 25 202 ls (.ref k :: st) M K = ip_wp X 69 0 [.ref k, .retAddr 1] [] M (fun r M1 => ip_wp X 25 205 ls (r.toList ++ st) M1 K) := (wp_callV1_1 ((ip_a25 202).trans (ip_f25_4 (k := 4) rfl)) ⟨h0, by exact Nat.le_of_ble_eq_true rfl, h1, h2⟩)
theorem w25_205 (X : ip_X) (ls st : List Value) (M : ip_H) (K : Option Value → ip_H → Prop) (x : Int32) : ip_wp X 25 205 ls (.int x :: st) M K = if x = 0 then ip_wp X 25 213 ls st M K else ip_wp X 25 208 ls st M K := wp_ifCond_eq ((ip_a25 205).trans (ip_f25_4 (k := 5) rfl))
theorem w25_208 (X : ip_X) (ls st : List Value) (M : ip_H) (K : Option Value → ip_H → Prop) : ip_wp X 25 208 ls st M K = ip_wp X 25 210 ls (.int (-5) :: st) M K := wp_bipush ((ip_a25 208).trans (ip_f25_4 (k := 6) rfl))
theorem w25_210 (X : ip_X) (ls st : List Value) (M : ip_H) (K : Option Value → ip_H → Prop) : ip_wp X 25 210 ls st M K = ip_wp X 25 214 ls st M K := wp_goto ((ip_a25 210).trans (ip_f25_4 (k := 7) rfl))
theorem w25_213 (X : ip_X) (ls st : List Value) (M : ip_H) (K : Option Value → ip_H → Prop) : ip_wp X 25 213 ls st M K = ip_wp X 25 214 ls (.int 0 :: st) M K := wp_iconst ((ip_a25 213).trans (ip_f25_4 (k := 8) rfl))
theorem w25_214 (X : ip_X) (ls : List Value) (M : ip_H) (K : Option Value → ip_H → Prop) (x : Int32) : ip_wp X 25 214 ls [.int x] M K = K (some (.int x)) M := wp_iret ((ip_a25 214).trans (ip_f25_4 (k := 9) rfl))
theorem ip_a26 (pc : Nat) : ip_at 26 pc = ip_c26.lookup pc := rfl
theorem ip_s26 : lk_s 0 ip_c26 = true := by decide +kernel
theorem ip_l26_0 : ip_d26_0.length = 24 := rfl
theorem ip_l26_1 : ip_d26_1.length = 24 := rfl
theorem ip_f26_0 {k pc : Nat} {e : ip_E} (h : ip_d26_0[k]? = some (pc, e)) : ip_c26.lookup pc = some e := lk_of ip_s26 (lk_apl h)
theorem ip_f26_1 {k pc : Nat} {e : ip_E} (h : ip_d26_1[k]? = some (pc, e)) : ip_c26.lookup pc = some e := lk_of ip_s26 (lk_app ip_l26_0 (lk_apl h))
theorem ip_f26_2 {k pc : Nat} {e : ip_E} (h : ip_d26_2[k]? = some (pc, e)) : ip_c26.lookup pc = some e := lk_of ip_s26 (lk_app ip_l26_0 (lk_app ip_l26_1 h))
theorem w26_0 (X : ip_X) (ls st : List Value) (M : ip_H) (K : Option Value → ip_H → Prop) : ip_wp X 26 0 ls st M K = ip_ka (ip_get ls 0) (fun x => ip_wp X 26 1 ls (x :: st) M K) := wp_aload_n ((ip_a26 0).trans (ip_f26_0 (k := 0) rfl))
theorem w26_1 (X : ip_X) (ls st : List Value) (M : ip_H) (K : Option Value → ip_H → Prop) : ip_wp X 26 1 ls st M K = ip_ka (ip_get ls 0) (fun x => ip_wp X 26 2 ls (x :: st) M K) := wp_aload_n ((ip_a26 1).trans (ip_f26_0 (k := 1) rfl))
theorem w26_2 (X : ip_X) (ls st : List Value) (M : ip_H) (K : Option Value → ip_H → Prop) (k : Nat) (h0 : (ip_sh M k).1 = 0) (h1 : (ip_sh M k).2.1 = 1) : ip_wp X 26 2 ls (.ref k :: st) M K = ip_wp X 26 5 ls (.int (M.2.1 k 4) :: st) M K := (wp_getI ((ip_a26 2).trans (ip_f26_0 (k := 2) rfl))).trans (if_pos ⟨h0, h1⟩)
theorem w26_5 (X : ip_X) (ls st : List Value) (M : ip_H) (K : Option Value → ip_H → Prop) : ip_wp X 26 5 ls st M K = ip_wp X 26 6 ls (.int 0 :: st) M K := wp_iconst ((ip_a26 5).trans (ip_f26_0 (k := 3) rfl))
theorem w26_6 (X : ip_X) (ls st : List Value) (M : ip_H) (K : Option Value → ip_H → Prop) : ip_wp X 26 6 ls st M K = ip_ka (ip_get ls 0) (fun x => ip_wp X 26 7 ls (x :: st) M K) := wp_aload_n ((ip_a26 6).trans (ip_f26_0 (k := 4) rfl))
theorem w26_7 (X : ip_X) (ls st : List Value) (M : ip_H) (K : Option Value → ip_H → Prop) (k : Nat) (h0 : (ip_sh M k).1 = 0) (h1 : (ip_sh M k).2.1 = 1) : ip_wp X 26 7 ls (.ref k :: st) M K = ip_wp X 26 10 ls (ip_vr (M.2.2.2 k 8) :: st) M K := (wp_getR ((ip_a26 7).trans (ip_f26_0 (k := 5) rfl))).trans (if_pos ⟨h0, h1⟩)
theorem w26_10 (X : ip_X) (ls st : List Value) (M : ip_H) (K : Option Value → ip_H → Prop) (k : Nat) (x0 : Int32) (x1 : Int32) (x2 : Nat) (h0 : st.length ≤ 4) (h1 : (ip_sh M k).1 = 0) (h2 : (ip_sh M k).2.1 = 1) : ip_wp X 26 10 ls (.ref x2 :: .int x1 :: .int x0 :: .ref k :: st) M K = ip_wp X 16 0 [.ref k, .int x0, .int x1, .ref x2] [] M (fun r M1 => ip_wp X 26 13 ls (r.toList ++ st) M1 K) := (wp_callV1_4 ((ip_a26 10).trans (ip_f26_0 (k := 6) rfl)) ⟨h0, by exact Nat.le_of_ble_eq_true rfl, h1, h2⟩)
theorem w26_13 (X : ip_X) (ls st : List Value) (M : ip_H) (K : Option Value → ip_H → Prop) : ip_wp X 26 13 ls st M K = ip_ka (ip_get ls 0) (fun x => ip_wp X 26 14 ls (x :: st) M K) := wp_aload_n ((ip_a26 13).trans (ip_f26_0 (k := 7) rfl))
theorem w26_14 (X : ip_X) (ls st : List Value) (M : ip_H) (K : Option Value → ip_H → Prop) : ip_wp X 26 14 ls st M K = ip_ka (ip_get ls 0) (fun x => ip_wp X 26 15 ls (x :: st) M K) := wp_aload_n ((ip_a26 14).trans (ip_f26_0 (k := 8) rfl))
theorem w26_15 (X : ip_X) (ls st : List Value) (M : ip_H) (K : Option Value → ip_H → Prop) (k : Nat) (h0 : (ip_sh M k).1 = 0) (h1 : (ip_sh M k).2.1 = 1) : ip_wp X 26 15 ls (.ref k :: st) M K = ip_wp X 26 18 ls (.int (M.2.1 k 4) :: st) M K := (wp_getI ((ip_a26 15).trans (ip_f26_0 (k := 9) rfl))).trans (if_pos ⟨h0, h1⟩)
theorem w26_18 (X : ip_X) (ls st : List Value) (M : ip_H) (K : Option Value → ip_H → Prop) : ip_wp X 26 18 ls st M K = ip_wp X 26 19 ls (.int 1 :: st) M K := wp_iconst ((ip_a26 18).trans (ip_f26_0 (k := 10) rfl))
theorem w26_19 (X : ip_X) (ls st : List Value) (M : ip_H) (K : Option Value → ip_H → Prop) : ip_wp X 26 19 ls st M K = ip_ka (ip_get ls 0) (fun x => ip_wp X 26 20 ls (x :: st) M K) := wp_aload_n ((ip_a26 19).trans (ip_f26_0 (k := 11) rfl))
theorem w26_20 (X : ip_X) (ls st : List Value) (M : ip_H) (K : Option Value → ip_H → Prop) (k : Nat) (h0 : (ip_sh M k).1 = 0) (h1 : (ip_sh M k).2.1 = 1) : ip_wp X 26 20 ls (.ref k :: st) M K = ip_wp X 26 23 ls (ip_vr (M.2.2.2 k 9) :: st) M K := (wp_getR ((ip_a26 20).trans (ip_f26_0 (k := 12) rfl))).trans (if_pos ⟨h0, h1⟩)
theorem w26_23 (X : ip_X) (ls st : List Value) (M : ip_H) (K : Option Value → ip_H → Prop) (k : Nat) (x0 : Int32) (x1 : Int32) (x2 : Nat) (h0 : st.length ≤ 4) (h1 : (ip_sh M k).1 = 0) (h2 : (ip_sh M k).2.1 = 1) : ip_wp X 26 23 ls (.ref x2 :: .int x1 :: .int x0 :: .ref k :: st) M K = ip_wp X 16 0 [.ref k, .int x0, .int x1, .ref x2] [] M (fun r M1 => ip_wp X 26 26 ls (r.toList ++ st) M1 K) := (wp_callV1_4 ((ip_a26 23).trans (ip_f26_0 (k := 13) rfl)) ⟨h0, by exact Nat.le_of_ble_eq_true rfl, h1, h2⟩)
theorem w26_26 (X : ip_X) (ls st : List Value) (M : ip_H) (K : Option Value → ip_H → Prop) : ip_wp X 26 26 ls st M K = ip_ka (ip_get ls 0) (fun x => ip_wp X 26 27 ls (x :: st) M K) := wp_aload_n ((ip_a26 26).trans (ip_f26_0 (k := 14) rfl))
theorem w26_27 (X : ip_X) (ls st : List Value) (M : ip_H) (K : Option Value → ip_H → Prop) (k : Nat) (h0 : (ip_sh M k).1 = 0) (h1 : (ip_sh M k).2.1 = 1) : ip_wp X 26 27 ls (.ref k :: st) M K = ip_wp X 26 30 ls (ip_vr (M.2.2.2 k 8) :: st) M K := (wp_getR ((ip_a26 27).trans (ip_f26_0 (k := 15) rfl))).trans (if_pos ⟨h0, h1⟩)
theorem w26_30 (X : ip_X) (ls st : List Value) (M : ip_H) (K : Option Value → ip_H → Prop) : ip_wp X 26 30 ls st M K = ip_ka (ip_get ls 0) (fun x => ip_wp X 26 31 ls (x :: st) M K) := wp_aload_n ((ip_a26 30).trans (ip_f26_0 (k := 16) rfl))
theorem w26_31 (X : ip_X) (ls st : List Value) (M : ip_H) (K : Option Value → ip_H → Prop) : ip_wp X 26 31 ls st M K = ip_ka (ip_get ls 0) (fun x => ip_wp X 26 32 ls (x :: st) M K) := wp_aload_n ((ip_a26 31).trans (ip_f26_0 (k := 17) rfl))
theorem w26_32 (X : ip_X) (ls st : List Value) (M : ip_H) (K : Option Value → ip_H → Prop) (k : Nat) (h0 : (ip_sh M k).1 = 0) (h1 : (ip_sh M k).2.1 = 1) : ip_wp X 26 32 ls (.ref k :: st) M K = ip_wp X 26 35 ls (.int (M.2.1 k 4) :: st) M K := (wp_getI ((ip_a26 32).trans (ip_f26_0 (k := 18) rfl))).trans (if_pos ⟨h0, h1⟩)
theorem w26_35 (X : ip_X) (ls st : List Value) (M : ip_H) (K : Option Value → ip_H → Prop) : ip_wp X 26 35 ls st M K = ip_wp X 26 36 ls (.int 0 :: st) M K := wp_iconst ((ip_a26 35).trans (ip_f26_0 (k := 19) rfl))
theorem w26_36 (X : ip_X) (ls st : List Value) (M : ip_H) (K : Option Value → ip_H → Prop) (k : Nat) (x0 : Int32) (x1 : Int32) (h0 : st.length ≤ 4) (h1 : (ip_sh M k).1 = 0) (h2 : (ip_sh M k).2.1 = 1) : ip_wp X 26 36 ls (.int x1 :: .int x0 :: .ref k :: st) M K = ip_wp X 15 0 [.ref k, .int x0, .int x1] [] M (fun r M1 => ip_wp X 26 39 ls (r.toList ++ st) M1 K) := (wp_callV1_3 ((ip_a26 36).trans (ip_f26_0 (k := 20) rfl)) ⟨h0, by exact Nat.le_of_ble_eq_true rfl, h1, h2⟩)
theorem w26_39 (X : ip_X) (ls st : List Value) (M : ip_H) (K : Option Value → ip_H → Prop) (x : Int32) : ip_wp X 26 39 ls (.int x :: st) M K = ip_wp X 26 40 ls (.long (x.toInt64) :: st) M K := wp_i2l ((ip_a26 39).trans (ip_f26_0 (k := 21) rfl))
theorem w26_40 (X : ip_X) (ls st : List Value) (M : ip_H) (K : Option Value → ip_H → Prop) (k : Nat) (x0 : Int64) (h0 : st.length ≤ 4) (h1 : (ip_sh M k).1 = 0) (h2 : (ip_sh M k).2.1 = 8) : ip_wp X 26 40 ls (.long x0 :: .ref k :: st) M K = ip_wp X 98 0 [.ref k, .long x0, .retAddr 1] [] M (fun r M1 => ip_wp X 26 43 ls (r.toList ++ st) M1 K) := (wp_callV1_2 ((ip_a26 40).trans (ip_f26_0 (k := 22) rfl)) ⟨h0, by exact Nat.le_of_ble_eq_true rfl, h1, h2⟩)
theorem w26_43 (X : ip_X) (ls st : List Value) (M : ip_H) (K : Option Value → ip_H → Prop) : ip_wp X 26 43 ls st M K = ip_ka (ip_get ls 0) (fun x => ip_wp X 26 44 ls (x :: st) M K) := wp_aload_n ((ip_a26 43).trans (ip_f26_0 (k := 23) rfl))
theorem w26_44 (X : ip_X) (ls st : List Value) (M : ip_H) (K : Option Value → ip_H → Prop) (k : Nat) (h0 : (ip_sh M k).1 = 0) (h1 : (ip_sh M k).2.1 = 1) : ip_wp X 26 44 ls (.ref k :: st) M K = ip_wp X 26 47 ls (ip_vr (M.2.2.2 k 9) :: st) M K := (wp_getR ((ip_a26 44).trans (ip_f26_1 (k := 0) rfl))).trans (if_pos ⟨h0, h1⟩)
theorem w26_47 (X : ip_X) (ls st : List Value) (M : ip_H) (K : Option Value → ip_H → Prop) : ip_wp X 26 47 ls st M K = ip_ka (ip_get ls 0) (fun x => ip_wp X 26 48 ls (x :: st) M K) := wp_aload_n ((ip_a26 47).trans (ip_f26_1 (k := 1) rfl))
theorem w26_48 (X : ip_X) (ls st : List Value) (M : ip_H) (K : Option Value → ip_H → Prop) : ip_wp X 26 48 ls st M K = ip_ka (ip_get ls 0) (fun x => ip_wp X 26 49 ls (x :: st) M K) := wp_aload_n ((ip_a26 48).trans (ip_f26_1 (k := 2) rfl))
theorem w26_49 (X : ip_X) (ls st : List Value) (M : ip_H) (K : Option Value → ip_H → Prop) (k : Nat) (h0 : (ip_sh M k).1 = 0) (h1 : (ip_sh M k).2.1 = 1) : ip_wp X 26 49 ls (.ref k :: st) M K = ip_wp X 26 52 ls (.int (M.2.1 k 4) :: st) M K := (wp_getI ((ip_a26 49).trans (ip_f26_1 (k := 3) rfl))).trans (if_pos ⟨h0, h1⟩)
theorem w26_52 (X : ip_X) (ls st : List Value) (M : ip_H) (K : Option Value → ip_H → Prop) : ip_wp X 26 52 ls st M K = ip_wp X 26 53 ls (.int 1 :: st) M K := wp_iconst ((ip_a26 52).trans (ip_f26_1 (k := 4) rfl))
theorem w26_53 (X : ip_X) (ls st : List Value) (M : ip_H) (K : Option Value → ip_H → Prop) (k : Nat) (x0 : Int32) (x1 : Int32) (h0 : st.length ≤ 4) (h1 : (ip_sh M k).1 = 0) (h2 : (ip_sh M k).2.1 = 1) : ip_wp X 26 53 ls (.int x1 :: .int x0 :: .ref k :: st) M K = ip_wp X 15 0 [.ref k, .int x0, .int x1] [] M (fun r M1 => ip_wp X 26 56 ls (r.toList ++ st) M1 K) := (wp_callV1_3 ((ip_a26 53).trans (ip_f26_1 (k := 5) rfl)) ⟨h0, by exact Nat.le_of_ble_eq_true rfl, h1, h2⟩)
theorem w26_56 (X : ip_X) (ls st : List Value) (M : ip_H) (K : Option Value → ip_H → Prop) (x : Int32) : ip_wp X 26 56 ls (.int x :: st) M K = ip_wp X 26 57 ls (.long (x.toInt64) :: st) M K := wp_i2l ((ip_a26 56).trans (ip_f26_1 (k := 6) rfl))
theorem w26_57 (X : ip_X) (ls st : List Value) (M : ip_H) (K : Option Value → ip_H → Prop) (k : Nat) (x0 : Int64) (h0 : st.length ≤ 4) (h1 : (ip_sh M k).1 = 0) (h2 : (ip_sh M k).2.1 = 8) : ip_wp X 26 57 ls (.long x0 :: .ref k :: st) M K = ip_wp X 98 0 [.ref k, .long x0, .retAddr 1] [] M (fun r M1 => ip_wp X 26 60 ls (r.toList ++ st) M1 K) := (wp_callV1_2 ((ip_a26 57).trans (ip_f26_1 (k := 7) rfl)) ⟨h0, by exact Nat.le_of_ble_eq_true rfl, h1, h2⟩)
theorem w26_60 (X : ip_X) (ls st : List Value) (M : ip_H) (K : Option Value → ip_H → Prop) : ip_wp X 26 60 ls st M K = ip_ka (ip_get ls 0) (fun x => ip_wp X 26 61 ls (x :: st) M K) := wp_aload_n ((ip_a26 60).trans (ip_f26_1 (k := 8) rfl))
theorem w26_61 (X : ip_X) (ls st : List Value) (M : ip_H) (K : Option Value → ip_H → Prop) : ip_wp X 26 61 ls st M K = ip_ka (ip_get ls 0) (fun x => ip_wp X 26 62 ls (x :: st) M K) := wp_aload_n ((ip_a26 61).trans (ip_f26_1 (k := 9) rfl))
theorem w26_62 (X : ip_X) (ls st : List Value) (M : ip_H) (K : Option Value → ip_H → Prop) (k : Nat) (h0 : (ip_sh M k).1 = 0) (h1 : (ip_sh M k).2.1 = 1) : ip_wp X 26 62 ls (.ref k :: st) M K = ip_wp X 26 65 ls (.int (M.2.1 k 3) :: st) M K := (wp_getI ((ip_a26 62).trans (ip_f26_1 (k := 10) rfl))).trans (if_pos ⟨h0, h1⟩)
theorem w26_65 (X : ip_X) (ls st : List Value) (M : ip_H) (K : Option Value → ip_H → Prop) : ip_wp X 26 65 ls st M K = ip_wp X 26 66 ls (.int 1 :: st) M K := wp_iconst ((ip_a26 65).trans (ip_f26_1 (k := 11) rfl))
theorem w26_66 (X : ip_X) (ls st : List Value) (M : ip_H) (K : Option Value → ip_H → Prop) (x q : Int32) : ip_wp X 26 66 ls (.int q :: .int x :: st) M K = if x = q then ip_wp X 26 69 ls st M K else ip_wp X 26 88 ls st M K := wp_if_icmp_ne ((ip_a26 66).trans (ip_f26_1 (k := 12) rfl))
theorem w26_69 (X : ip_X) (ls st : List Value) (M : ip_H) (K : Option Value → ip_H → Prop) : ip_wp X 26 69 ls st M K = ip_ka (ip_get ls 1) (fun x => ip_wp X 26 70 ls (x :: st) M K) := wp_aload_n ((ip_a26 69).trans (ip_f26_1 (k := 13) rfl))
theorem w26_70 (X : ip_X) (ls st : List Value) (M : ip_H) (K : Option Value → ip_H → Prop) : ip_wp X 26 70 ls st M K = ip_ka (ip_get ls 0) (fun x => ip_wp X 26 71 ls (x :: st) M K) := wp_aload_n ((ip_a26 70).trans (ip_f26_1 (k := 14) rfl))
theorem w26_71 (X : ip_X) (ls st : List Value) (M : ip_H) (K : Option Value → ip_H → Prop) (k : Nat) (h0 : (ip_sh M k).1 = 0) (h1 : (ip_sh M k).2.1 = 1) : ip_wp X 26 71 ls (.ref k :: st) M K = ip_wp X 26 74 ls (ip_vr (M.2.2.2 k 8) :: st) M K := (wp_getR ((ip_a26 71).trans (ip_f26_1 (k := 15) rfl))).trans (if_pos ⟨h0, h1⟩)
theorem w26_74 (X : ip_X) (ls st : List Value) (M : ip_H) (K : Option Value → ip_H → Prop) : ip_wp X 26 74 ls st M K = ip_ka (ip_get ls 0) (fun x => ip_wp X 26 75 ls (x :: st) M K) := wp_aload_n ((ip_a26 74).trans (ip_f26_1 (k := 16) rfl))
theorem w26_75 (X : ip_X) (ls st : List Value) (M : ip_H) (K : Option Value → ip_H → Prop) (k : Nat) (h0 : (ip_sh M k).1 = 0) (h1 : (ip_sh M k).2.1 = 1) : ip_wp X 26 75 ls (.ref k :: st) M K = ip_wp X 26 78 ls (ip_vr (M.2.2.2 k 9) :: st) M K := (wp_getR ((ip_a26 75).trans (ip_f26_1 (k := 17) rfl))).trans (if_pos ⟨h0, h1⟩)
theorem w26_78 (X : ip_X) (ls st : List Value) (M : ip_H) (K : Option Value → ip_H → Prop) (k : Nat) (x0 : Nat) (x1 : Nat) (h0 : st.length ≤ 4) (h1 : (ip_sh M k).1 = 0) (h2 : (ip_sh M k).2.1 = 2) : ip_wp X 26 78 ls (.ref x1 :: .ref x0 :: .ref k :: st) M K = ip_wp X 48 0 [.ref k, .ref x0, .ref x1] [] M (fun r M1 => ip_wp X 26 81 ls (r.toList ++ st) M1 K) := (wp_callV1_3 ((ip_a26 78).trans (ip_f26_1 (k := 18) rfl)) ⟨h0, by exact Nat.le_of_ble_eq_true rfl, h1, h2⟩)
theorem w26_81 (X : ip_X) (ls st : List Value) (M : ip_H) (K : Option Value → ip_H → Prop) (x : Int32) : ip_wp X 26 81 ls (.int x :: st) M K = if x < 0 then ip_wp X 26 84 ls st M K else ip_wp X 26 88 ls st M K := wp_ifCond_ge ((ip_a26 81).trans (ip_f26_1 (k := 19) rfl))
theorem w26_84 (X : ip_X) (ls st : List Value) (M : ip_H) (K : Option Value → ip_H → Prop) : ip_wp X 26 84 ls st M K = ip_wp X 26 85 ls (.int 1 :: st) M K := wp_iconst ((ip_a26 84).trans (ip_f26_1 (k := 20) rfl))
theorem w26_85 (X : ip_X) (ls st : List Value) (M : ip_H) (K : Option Value → ip_H → Prop) : ip_wp X 26 85 ls st M K = ip_wp X 26 89 ls st M K := wp_goto ((ip_a26 85).trans (ip_f26_1 (k := 21) rfl))
theorem w26_88 (X : ip_X) (ls st : List Value) (M : ip_H) (K : Option Value → ip_H → Prop) : ip_wp X 26 88 ls st M K = ip_wp X 26 89 ls (.int 0 :: st) M K := wp_iconst ((ip_a26 88).trans (ip_f26_1 (k := 22) rfl))
theorem w26_89 (X : ip_X) (ls st : List Value) (M : ip_H) (K : Option Value → ip_H → Prop) (k : Nat) (x : Int32) (h0 : (ip_sh M k).1 = 0) (h1 : (ip_sh M k).2.1 = 1) (h2 : x = 0 ∨ x = 1) : ip_wp X 26 89 ls (.int x :: .ref k :: st) M K = ip_wp X 26 92 ls st (ip_uI M k 14 x) K := (wp_putZ ((ip_a26 89).trans (ip_f26_1 (k := 23) rfl))).trans (if_pos ⟨h0, h1, h2⟩)
theorem w26_92 (X : ip_X) (ls st : List Value) (M : ip_H) (K : Option Value → ip_H → Prop) : ip_wp X 26 92 ls st M K = ip_ka (ip_get ls 0) (fun x => ip_wp X 26 93 ls (x :: st) M K) := wp_aload_n ((ip_a26 92).trans (ip_f26_2 (k := 0) rfl))
theorem w26_93 (X : ip_X) (ls st : List Value) (M : ip_H) (K : Option Value → ip_H → Prop) (k : Nat) (h0 : (ip_sh M k).1 = 0) (h1 : (ip_sh M k).2.1 = 1) : ip_wp X 26 93 ls (.ref k :: st) M K = ip_wp X 26 96 ls (.int (M.2.1 k 14) :: st) M K := (wp_getZ ((ip_a26 93).trans (ip_f26_2 (k := 1) rfl))).trans (if_pos ⟨h0, h1⟩)
theorem w26_96 (X : ip_X) (ls st : List Value) (M : ip_H) (K : Option Value → ip_H → Prop) (x : Int32) : ip_wp X 26 96 ls (.int x :: st) M K = if x = 0 then ip_wp X 26 99 ls st M K else ip_wp X 26 100 ls st M K := wp_ifCond_ne ((ip_a26 96).trans (ip_f26_2 (k := 2) rfl))
theorem w26_99 (X : ip_X) (ls : List Value) (M : ip_H) (K : Option Value → ip_H → Prop) : ip_wp X 26 99 ls [] M K = K none M := wp_vret ((ip_a26 99).trans (ip_f26_2 (k := 3) rfl))
theorem w26_100 (X : ip_X) (ls st : List Value) (M : ip_H) (K : Option Value → ip_H → Prop) : ip_wp X 26 100 ls st M K = ip_ka (ip_get ls 0) (fun x => ip_wp X 26 101 ls (x :: st) M K) := wp_aload_n ((ip_a26 100).trans (ip_f26_2 (k := 4) rfl))
theorem w26_101 (X : ip_X) (ls st : List Value) (M : ip_H) (K : Option Value → ip_H → Prop) (k : Nat) (h0 : (ip_sh M k).1 = 0) (h1 : (ip_sh M k).2.1 = 1) : ip_wp X 26 101 ls (.ref k :: st) M K = ip_wp X 26 104 ls (ip_vr (M.2.2.2 k 10) :: st) M K := (wp_getR ((ip_a26 101).trans (ip_f26_2 (k := 5) rfl))).trans (if_pos ⟨h0, h1⟩)
theorem w26_104 (X : ip_X) (ls st : List Value) (M : ip_H) (K : Option Value → ip_H → Prop) : ip_wp X 26 104 ls st M K = ip_ka (ip_get ls 0) (fun x => ip_wp X 26 105 ls (x :: st) M K) := wp_aload_n ((ip_a26 104).trans (ip_f26_2 (k := 6) rfl))
theorem w26_105 (X : ip_X) (ls st : List Value) (M : ip_H) (K : Option Value → ip_H → Prop) (k : Nat) (h0 : (ip_sh M k).1 = 0) (h1 : (ip_sh M k).2.1 = 1) : ip_wp X 26 105 ls (.ref k :: st) M K = ip_wp X 26 108 ls (ip_vr (M.2.2.2 k 8) :: st) M K := (wp_getR ((ip_a26 105).trans (ip_f26_2 (k := 7) rfl))).trans (if_pos ⟨h0, h1⟩)
theorem w26_108 (X : ip_X) (ls st : List Value) (M : ip_H) (K : Option Value → ip_H → Prop) (k : Nat) (x0 : Nat) (h0 : st.length ≤ 4) (h1 : (ip_sh M k).1 = 0) (h2 : (ip_sh M k).2.1 = 8) : ip_wp X 26 108 ls (.ref x0 :: .ref k :: st) M K = ip_wp X 95 0 [.ref k, .ref x0] [] M (fun r M1 => ip_wp X 26 111 ls (r.toList ++ st) M1 K) := (wp_callV1_2 ((ip_a26 108).trans (ip_f26_2 (k := 8) rfl)) ⟨h0, by exact Nat.le_of_ble_eq_true rfl, h1, h2⟩)
theorem w26_111 (X : ip_X) (ls st : List Value) (M : ip_H) (K : Option Value → ip_H → Prop) : ip_wp X 26 111 ls st M K = ip_ka (ip_get ls 0) (fun x => ip_wp X 26 112 ls (x :: st) M K) := wp_aload_n ((ip_a26 111).trans (ip_f26_2 (k := 9) rfl))
theorem w26_112 (X : ip_X) (ls st : List Value) (M : ip_H) (K : Option Value → ip_H → Prop) (k : Nat) (h0 : (ip_sh M k).1 = 0) (h1 : (ip_sh M k).2.1 = 1) : ip_wp X 26 112 ls (.ref k :: st) M K = ip_wp X 26 115 ls (ip_vr (M.2.2.2 k 8) :: st) M K := (wp_getR ((ip_a26 112).trans (ip_f26_2 (k := 10) rfl))).trans (if_pos ⟨h0, h1⟩)
theorem w26_115 (X : ip_X) (ls st : List Value) (M : ip_H) (K : Option Value → ip_H → Prop) : ip_wp X 26 115 ls st M K = ip_ka (ip_get ls 0) (fun x => ip_wp X 26 116 ls (x :: st) M K) := wp_aload_n ((ip_a26 115).trans (ip_f26_2 (k := 11) rfl))
theorem w26_116 (X : ip_X) (ls st : List Value) (M : ip_H) (K : Option Value → ip_H → Prop) (k : Nat) (h0 : (ip_sh M k).1 = 0) (h1 : (ip_sh M k).2.1 = 1) : ip_wp X 26 116 ls (.ref k :: st) M K = ip_wp X 26 119 ls (ip_vr (M.2.2.2 k 9) :: st) M K := (wp_getR ((ip_a26 116).trans (ip_f26_2 (k := 12) rfl))).trans (if_pos ⟨h0, h1⟩)
theorem w26_119 (X : ip_X) (ls st : List Value) (M : ip_H) (K : Option Value → ip_H → Prop) (k : Nat) (x0 : Nat) (h0 : st.length ≤ 4) (h1 : (ip_sh M k).1 = 0) (h2 : (ip_sh M k).2.1 = 8) : ip_wp X 26 119 ls (.ref x0 :: .ref k :: st) M K = ip_wp X 95 0 [.ref k, .ref x0] [] M (fun r M1 => ip_wp X 26 122 ls (r.toList ++ st) M1 K) := (wp_callV1_2 ((ip_a26 119).trans (ip_f26_2 (k := 13) rfl)) ⟨h0, by exact Nat.le_of_ble_eq_true rfl, h1, h2⟩)
theorem w26_122 (X : ip_X) (ls st : List Value) (M : ip_H) (K : Option Value → ip_H → Prop) : ip_wp X 26 122 ls st M K = ip_ka (ip_get ls 0) (fun x => ip_wp X 26 123 ls (x :: st) M K) := wp_aload_n ((ip_a26 122).trans (ip_f26_2 (k := 14) rfl))
theorem w26_123 (X : ip_X) (ls st : List Value) (M : ip_H) (K : Option Value → ip_H → Prop) (k : Nat) (h0 : (ip_sh M k).1 = 0) (h1 : (ip_sh M k).2.1 = 1) : ip_wp X 26 123 ls (.ref k :: st) M K = ip_wp X 26 126 ls (ip_vr (M.2.2.2 k 9) :: st) M K := (wp_getR ((ip_a26 123).trans (ip_f26_2 (k := 15) rfl))).trans (if_pos ⟨h0, h1⟩)
theorem w26_126 (X : ip_X) (ls st : List Value) (M : ip_H) (K : Option Value → ip_H → Prop) : ip_wp X 26 126 ls st M K = ip_ka (ip_get ls 0) (fun x => ip_wp X 26 127 ls (x :: st) M K) := wp_aload_n ((ip_a26 126).trans (ip_f26_2 (k := 16) rfl))
theorem w26_127 (X : ip_X) (ls st : List Value) (M : ip_H) (K : Option Value → ip_H → Prop) (k : Nat) (h0 : (ip_sh M k).1 = 0) (h1 : (ip_sh M k).2.1 = 1) : ip_wp X 26 127 ls (.ref k :: st) M K = ip_wp X 26 130 ls (ip_vr (M.2.2.2 k 10) :: st) M K := (wp_getR ((ip_a26 127).trans (ip_f26_2 (k := 17) rfl))).trans (if_pos ⟨h0, h1⟩)
theorem w26_130 (X : ip_X) (ls st : List Value) (M : ip_H) (K : Option Value → ip_H → Prop) (k : Nat) (x0 : Nat) (h0 : st.length ≤ 4) (h1 : (ip_sh M k).1 = 0) (h2 : (ip_sh M k).2.1 = 8) : ip_wp X 26 130 ls (.ref x0 :: .ref k :: st) M K = ip_wp X 95 0 [.ref k, .ref x0] [] M (fun r M1 => ip_wp X 26 133 ls (r.toList ++ st) M1 K) := (wp_callV1_2 ((ip_a26 130).trans (ip_f26_2 (k := 18) rfl)) ⟨h0, by exact Nat.le_of_ble_eq_true rfl, h1, h2⟩)
theorem w26_133 (X : ip_X) (ls : List Value) (M : ip_H) (K : Option Value → ip_H → Prop) : ip_wp X 26 133 ls [] M K = K none M := wp_vret ((ip_a26 133).trans (ip_f26_2 (k := 19) rfl))
theorem ip_a27 (pc : Nat) : ip_at 27 pc = ip_c27.lookup pc := rfl
theorem ip_s27 : lk_s 0 ip_c27 = true := by decide +kernel
theorem ip_l27_0 : ip_d27_0.length = 24 := rfl
theorem ip_f27_0 {k pc : Nat} {e : ip_E} (h : ip_d27_0[k]? = some (pc, e)) : ip_c27.lookup pc = some e := lk_of ip_s27 (lk_apl h)
theorem ip_f27_1 {k pc : Nat} {e : ip_E} (h : ip_d27_1[k]? = some (pc, e)) : ip_c27.lookup pc = some e := lk_of ip_s27 (lk_app ip_l27_0 h)
theorem w27_0 (X : ip_X) (ls st : List Value) (M : ip_H) (K : Option Value → ip_H → Prop) : ip_wp X 27 0 ls st M K = ip_ka (ip_get ls 0) (fun x => ip_wp X 27 1 ls (x :: st) M K) := wp_aload_n ((ip_a27 0).trans (ip_f27_0 (k := 0) rfl))
theorem w27_1 (X : ip_X) (ls st : List Value) (M : ip_H) (K : Option Value → ip_H → Prop) (k : Nat) (h0 : (ip_sh M k).1 = 0) (h1 : (ip_sh M k).2.1 = 1) : ip_wp X 27 1 ls (.ref k :: st) M K = ip_wp X 27 4 ls (.int (M.2.1 k 4) :: st) M K := (wp_getI ((ip_a27 1).trans (ip_f27_0 (k := 1) rfl))).trans (if_pos ⟨h0, h1⟩)
theorem w27_4 (X : ip_X) (ls st : List Value) (M : ip_H) (K : Option Value → ip_H → Prop) : ip_wp X 27 4 ls st M K = ip_wp X 27 6 ls (.int 60 :: st) M K := wp_bipush ((ip_a27 4).trans (ip_f27_0 (k := 2) rfl))
theorem w27_6 (X : ip_X) (ls st : List Value) (M : ip_H) (K : Option Value → ip_H → Prop) (x q : Int32) : ip_wp X 27 6 ls (.int q :: .int x :: st) M K = if x < q then ip_wp X 27 10 ls st M K else ip_wp X 27 9 ls st M K := wp_if_icmp_lt ((ip_a27 6).trans (ip_f27_0 (k := 3) rfl))
theorem w27_10 (X : ip_X) (ls st : List Value) (M : ip_H) (K : Option Value → ip_H → Prop) : ip_wp X 27 10 ls st M K = ip_ka (ip_get ls 0) (fun x => ip_wp X 27 11 ls (x :: st) M K) := wp_aload_n ((ip_a27 10).trans (ip_f27_0 (k := 5) rfl))
theorem w27_11_r (X : ip_X) (ls st : List Value) (M : ip_H) (K : Option Value → ip_H → Prop) (x : Nat) : ip_wp X 27 11 ls (.ref x :: st) M K = ip_wp X 27 12 ls (.ref x :: .ref x :: st) M K := wp_dup_r ((ip_a27 11).trans (ip_f27_0 (k := 6) rfl))
theorem w27_12 (X : ip_X) (ls st : List Value) (M : ip_H) (K : Option Value → ip_H → Prop) (k : Nat) (h0 : (ip_sh M k).1 = 0) (h1 : (ip_sh M k).2.1 = 1) : ip_wp X 27 12 ls (.ref k :: st) M K = ip_wp X 27 15 ls (.int (M.2.1 k 4) :: st) M K := (wp_getI ((ip_a27 12).trans (ip_f27_0 (k := 7) rfl))).trans (if_pos ⟨h0, h1⟩)
theorem w27_15 (X : ip_X) (ls st : List Value) (M : ip_H) (K : Option Value → ip_H → Prop) : ip_wp X 27 15 ls st M K = ip_wp X 27 16 ls (.int 1 :: st) M K := wp_iconst ((ip_a27 15).trans (ip_f27_0 (k := 8) rfl))
theorem w27_16 (X : ip_X) (ls st : List Value) (M : ip_H) (K : Option Value → ip_H → Prop) (x q : Int32) : ip_wp X 27 16 ls (.int q :: .int x :: st) M K = ip_wp X 27 17 ls (.int (x + q) :: st) M K := wp_iadd ((ip_a27 16).trans (ip_f27_0 (k := 9) rfl))
theorem w27_17 (X : ip_X) (ls st : List Value) (M : ip_H) (K : Option Value → ip_H → Prop) (k : Nat) (x : Int32) (h0 : (ip_sh M k).1 = 0) (h1 : (ip_sh M k).2.1 = 1) : ip_wp X 27 17 ls (.int x :: .ref k :: st) M K = ip_wp X 27 20 ls st (ip_uI M k 4 x) K := (wp_putI ((ip_a27 17).trans (ip_f27_0 (k := 10) rfl))).trans (if_pos ⟨h0, h1⟩)
theorem w27_20 (X : ip_X) (ls st : List Value) (M : ip_H) (K : Option Value → ip_H → Prop) : ip_wp X 27 20 ls st M K = ip_ka (ip_get ls 0) (fun x => ip_wp X 27 21 ls (x :: st) M K) := wp_aload_n ((ip_a27 20).trans (ip_f27_0 (k := 11) rfl))
theorem w27_21 (X : ip_X) (ls st : List Value) (M : ip_H) (K : Option Value → ip_H → Prop) (k : Nat) (h0 : (ip_sh M k).1 = 0) (h1 : (ip_sh M k).2.1 = 1) : ip_wp X 27 21 ls (.ref k :: st) M K = ip_wp X 27 24 ls (ip_vr (M.2.2.2 k 1) :: st) M K := (wp_getR ((ip_a27 21).trans (ip_f27_0 (k := 12) rfl))).trans (if_pos ⟨h0, h1⟩)
theorem w27_24 (X : ip_X) (ls st : List Value) (M : ip_H) (K : Option Value → ip_H → Prop) : ip_wp X 27 24 ls st M K = ip_ka (ip_get ls 0) (fun x => ip_wp X 27 25 ls (x :: st) M K) := wp_aload_n ((ip_a27 24).trans (ip_f27_0 (k := 13) rfl))
theorem w27_25 (X : ip_X) (ls st : List Value) (M : ip_H) (K : Option Value → ip_H → Prop) (k : Nat) (h0 : (ip_sh M k).1 = 0) (h1 : (ip_sh M k).2.1 = 1) : ip_wp X 27 25 ls (.ref k :: st) M K = ip_wp X 27 28 ls (.int (M.2.1 k 4) :: st) M K := (wp_getI ((ip_a27 25).trans (ip_f27_0 (k := 14) rfl))).trans (if_pos ⟨h0, h1⟩)
theorem w27_28 (X : ip_X) (ls st : List Value) (M : ip_H) (K : Option Value → ip_H → Prop) : ip_wp X 27 28 ls st M K = ip_ka (ip_get ls 0) (fun x => ip_wp X 27 29 ls (x :: st) M K) := wp_aload_n ((ip_a27 28).trans (ip_f27_0 (k := 15) rfl))
theorem w27_29 (X : ip_X) (ls st : List Value) (M : ip_H) (K : Option Value → ip_H → Prop) (k : Nat) (h0 : (ip_sh M k).1 = 0) (h1 : (ip_sh M k).2.1 = 1) : ip_wp X 27 29 ls (.ref k :: st) M K = ip_wp X 27 32 ls (.int (M.2.1 k 14) :: st) M K := (wp_getZ ((ip_a27 29).trans (ip_f27_0 (k := 16) rfl))).trans (if_pos ⟨h0, h1⟩)
theorem w27_32 (X : ip_X) (ls st : List Value) (M : ip_H) (K : Option Value → ip_H → Prop) (x : Int32) : ip_wp X 27 32 ls (.int x :: st) M K = if x = 0 then ip_wp X 27 39 ls st M K else ip_wp X 27 35 ls st M K := wp_ifCond_eq ((ip_a27 32).trans (ip_f27_0 (k := 17) rfl))
theorem w27_35 (X : ip_X) (ls st : List Value) (M : ip_H) (K : Option Value → ip_H → Prop) : ip_wp X 27 35 ls st M K = ip_wp X 27 36 ls (.int 1 :: st) M K := wp_iconst ((ip_a27 35).trans (ip_f27_0 (k := 18) rfl))
theorem w27_36 (X : ip_X) (ls st : List Value) (M : ip_H) (K : Option Value → ip_H → Prop) : ip_wp X 27 36 ls st M K = ip_wp X 27 40 ls st M K := wp_goto ((ip_a27 36).trans (ip_f27_0 (k := 19) rfl))
theorem w27_39 (X : ip_X) (ls st : List Value) (M : ip_H) (K : Option Value → ip_H → Prop) : ip_wp X 27 39 ls st M K = ip_wp X 27 40 ls (.int 0 :: st) M K := wp_iconst ((ip_a27 39).trans (ip_f27_0 (k := 20) rfl))
theorem w27_40 (X : ip_X) (ls st : List Value) (M : ip_H) (K : Option Value → ip_H → Prop) (x : Int32) : ip_wp X 27 40 ls (.int x :: st) M K = ip_wp X 27 41 ls (.int (x.toInt8.toInt32) :: st) M K := wp_i2b ((ip_a27 40).trans (ip_f27_0 (k := 21) rfl))
theorem w27_41 (X : ip_X) (ls st : List Value) (M : ip_H) (K : Option Value → ip_H → Prop) (i x : Int32) (k : Nat) (h0 : (ip_sh M k).1 = 1) (h1 : (ip_sh M k).2.1 = 2 ∨ (ip_sh M k).2.1 = 3) (h2 : ip_ix i (ip_sh M k).2.2 = true) : ip_wp X 27 41 ls (.int x :: .int i :: .ref k :: st) M K = ip_wp X 27 42 ls st (ip_uI M k i.toNatClampNeg (if (ip_sh M k).2.1 = 2 then x.toInt8.toInt32 else x &&& 1)) K := (wp_bastore ((ip_a27 41).trans (ip_f27_0 (k := 22) rfl))).trans (if_pos ⟨h0, h1, h2⟩)
theorem w27_42 (X : ip_X) (ls st : List Value) (M : ip_H) (K : Option Value → ip_H → Prop) : ip_wp X 27 42 ls st M K = ip_ka (ip_get ls 0) (fun x => ip_wp X 27 43 ls (x :: st) M K) := wp_aload_n ((ip_a27 42).trans (ip_f27_0 (k := 23) rfl))
theorem w27_43 (X : ip_X) (ls st : List Value) (M : ip_H) (K : Option Value → ip_H → Prop) (k : Nat) (h0 : st.length ≤ 4) (h1 : (ip_sh M k).1 = 0) (h2 : (ip_sh M k).2.1 = 1) : ip_wp X 27 43 ls (.ref k :: st) M K = ip_wp X 28 0 [.ref k, .retAddr 1] [] M (fun r M1 => ip_wp X 27 46 ls (r.toList ++ st) M1 K) := (wp_callV1_1 ((ip_a27 43).trans (ip_f27_1 (k := 0) rfl)) ⟨h0, by exact Nat.le_of_ble_eq_true rfl, h1, h2⟩)
theorem w27_46 (X : ip_X) (ls st : List Value) (M : ip_H) (K : Option Value → ip_H → Prop) : ip_wp X 27 46 ls st M K = ip_ka (ip_get ls 0) (fun x => ip_wp X 27 47 ls (x :: st) M K) := wp_aload_n ((ip_a27 46).trans (ip_f27_1 (k := 1) rfl))
theorem w27_47 (X : ip_X) (ls st : List Value) (M : ip_H) (K : Option Value → ip_H → Prop) (k : Nat) (h0 : (ip_sh M k).1 = 0) (h1 : (ip_sh M k).2.1 = 1) : ip_wp X 27 47 ls (.ref k :: st) M K = ip_wp X 27 50 ls (ip_vr (M.2.2.2 k 2) :: st) M K := (wp_getR ((ip_a27 47).trans (ip_f27_1 (k := 2) rfl))).trans (if_pos ⟨h0, h1⟩)
theorem w27_50 (X : ip_X) (ls st : List Value) (M : ip_H) (K : Option Value → ip_H → Prop) : ip_wp X 27 50 ls st M K = ip_ka (ip_get ls 0) (fun x => ip_wp X 27 51 ls (x :: st) M K) := wp_aload_n ((ip_a27 50).trans (ip_f27_1 (k := 3) rfl))
theorem w27_51 (X : ip_X) (ls st : List Value) (M : ip_H) (K : Option Value → ip_H → Prop) (k : Nat) (h0 : (ip_sh M k).1 = 0) (h1 : (ip_sh M k).2.1 = 1) : ip_wp X 27 51 ls (.ref k :: st) M K = ip_wp X 27 54 ls (ip_vr (M.2.2.2 k 7) :: st) M K := (wp_getR ((ip_a27 51).trans (ip_f27_1 (k := 4) rfl))).trans (if_pos ⟨h0, h1⟩)
theorem w27_54 (X : ip_X) (ls st : List Value) (M : ip_H) (K : Option Value → ip_H → Prop) (k : Nat) (x0 : Nat) (h0 : st.length ≤ 4) (h1 : (ip_sh M k).1 = 0) (h2 : (ip_sh M k).2.1 = 4) : ip_wp X 27 54 ls (.ref x0 :: .ref k :: st) M K = ip_wp X 65 0 [.ref k, .ref x0] [] M (fun r M1 => ip_wp X 27 57 ls (r.toList ++ st) M1 K) := (wp_callV1_2 ((ip_a27 54).trans (ip_f27_1 (k := 5) rfl)) ⟨h0, by exact Nat.le_of_ble_eq_true rfl, h1, h2⟩)
theorem w27_57 (X : ip_X) (ls st : List Value) (M : ip_H) (K : Option Value → ip_H → Prop) : ip_wp X 27 57 ls st M K = ip_ka (ip_get ls 0) (fun x => ip_wp X 27 58 ls (x :: st) M K) := wp_aload_n ((ip_a27 57).trans (ip_f27_1 (k := 6) rfl))
theorem w27_58 (X : ip_X) (ls st : List Value) (M : ip_H) (K : Option Value → ip_H → Prop) (k : Nat) (h0 : (ip_sh M k).1 = 0) (h1 : (ip_sh M k).2.1 = 1) : ip_wp X 27 58 ls (.ref k :: st) M K = ip_wp X 27 61 ls (.int (M.2.1 k 5) :: st) M K := (wp_getI ((ip_a27 58).trans (ip_f27_1 (k := 7) rfl))).trans (if_pos ⟨h0, h1⟩)
theorem w27_61 (X : ip_X) (ls st : List Value) (M : ip_H) (K : Option Value → ip_H → Prop) : ip_wp X 27 61 ls st M K = ip_wp X 27 62 ls (.int (-1) :: st) M K := wp_iconst ((ip_a27 61).trans (ip_f27_1 (k := 8) rfl))
theorem w27_62 (X : ip_X) (ls st : List Value) (M : ip_H) (K : Option Value → ip_H → Prop) (x q : Int32) : ip_wp X 27 62 ls (.int q :: .int x :: st) M K = if x = q then ip_wp X 27 65 ls st M K else ip_wp X 27 69 ls st M K := wp_if_icmp_ne ((ip_a27 62).trans (ip_f27_1 (k := 9) rfl))
theorem w27_65 (X : ip_X) (ls st : List Value) (M : ip_H) (K : Option Value → ip_H → Prop) : ip_wp X 27 65 ls st M K = ip_ka (ip_get ls 0) (fun x => ip_wp X 27 66 ls (x :: st) M K) := wp_aload_n ((ip_a27 65).trans (ip_f27_1 (k := 10) rfl))
theorem w27_66 (X : ip_X) (ls st : List Value) (M : ip_H) (K : Option Value → ip_H → Prop) (k : Nat) (h0 : st.length ≤ 4) (h1 : (ip_sh M k).1 = 0) (h2 : (ip_sh M k).2.1 = 1) : ip_wp X 27 66 ls (.ref k :: st) M K = ip_wp X 29 0 [.ref k, .retAddr 1] [] M (fun r M1 => ip_wp X 27 69 ls (r.toList ++ st) M1 K) := (wp_callV1_1 ((ip_a27 66).trans (ip_f27_1 (k := 11) rfl)) ⟨h0, by exact Nat.le_of_ble_eq_true rfl, h1, h2⟩)
theorem w27_69 (X : ip_X) (ls : List Value) (M : ip_H) (K : Option Value → ip_H → Prop) : ip_wp X 27 69 ls [] M K = K none M := wp_vret ((ip_a27 69).trans (ip_f27_1 (k := 12) rfl))
theorem ip_a29 (pc : Nat) : ip_at 29 pc = ip_c29.lookup pc := rfl
theorem w29_0 (X : ip_X) (ls st : List Value) (M : ip_H) (K : Option Value → ip_H → Prop) : ip_wp X 29 0 ls st M K = ip_wp X 29 1 ls (.int 0 :: st) M K := wp_iconst ((ip_a29 0).trans rfl)
theorem w29_1 (X : ip_X) (ls st : List Value) (M : ip_H) (K : Option Value → ip_H → Prop) (x : Int32) : ip_wp X 29 1 ls (.int x :: st) M K = ip_wp X 29 2 (ip_set1 ls 1 (.int x)) st M K := wp_istore_n ((ip_a29 1).trans rfl)
theorem w29_2 (X : ip_X) (ls st : List Value) (M : ip_H) (K : Option Value → ip_H → Prop) : ip_wp X 29 2 ls st M K = ip_ki (ip_get ls 1) (fun x => ip_wp X 29 3 ls (.int x :: st) M K) := wp_iload_n ((ip_a29 2).trans rfl)
theorem w29_3 (X : ip_X) (ls st : List Value) (M : ip_H) (K : Option Value → ip_H → Prop) : ip_wp X 29 3 ls st M K = ip_ka (ip_get ls 0) (fun x => ip_wp X 29 4 ls (x :: st) M K) := wp_aload_n ((ip_a29 3).trans rfl)
theorem w29_4 (X : ip_X) (ls st : List Value) (M : ip_H) (K : Option Value → ip_H → Prop) (k : Nat) (h0 : (ip_sh M k).1 = 0) (h1 : (ip_sh M k).2.1 = 1) : ip_wp X 29 4 ls (.ref k :: st) M K = ip_wp X 29 7 ls (.int (M.2.1 k 4) :: st) M K := (wp_getI ((ip_a29 4).trans rfl)).trans (if_pos ⟨h0, h1⟩)
theorem w29_7 (X : ip_X) (ls st : List Value) (M : ip_H) (K : Option Value → ip_H → Prop) (x q : Int32) : ip_wp X 29 7 ls (.int q :: .int x :: st) M K = if x < q then ip_wp X 29 10 ls st M K else ip_wp X 29 43 ls st M K := wp_if_icmp_ge ((ip_a29 7).trans rfl)
theorem w29_10 (X : ip_X) (ls st : List Value) (M : ip_H) (K : Option Value → ip_H → Prop) : ip_wp X 29 10 ls st M K = ip_ka (ip_get ls 0) (fun x => ip_wp X 29 11 ls (x :: st) M K) := wp_aload_n ((ip_a29 10).trans rfl)
theorem w29_11 (X : ip_X) (ls st : List Value) (M : ip_H) (K : Option Value → ip_H → Prop) : ip_wp X 29 11 ls st M K = ip_ki (ip_get ls 1) (fun x => ip_wp X 29 12 ls (.int x :: st) M K) := wp_iload_n ((ip_a29 11).trans rfl)
theorem w29_12 (X : ip_X) (ls st : List Value) (M : ip_H) (K : Option Value → ip_H → Prop) (k : Nat) (x0 : Int32) (h0 : st.length ≤ 4) (h1 : (ip_sh M k).1 = 0) (h2 : (ip_sh M k).2.1 = 1) : ip_wp X 29 12 ls (.int x0 :: .ref k :: st) M K = ip_wp X 30 0 [.ref k, .int x0, .retAddr 1] [] M (fun r M1 => ip_wp X 29 15 ls (r.toList ++ st) M1 K) := (wp_callV1_2 ((ip_a29 12).trans rfl) ⟨h0, by exact Nat.le_of_ble_eq_true rfl, h1, h2⟩)
theorem w29_15 (X : ip_X) (ls st : List Value) (M : ip_H) (K : Option Value → ip_H → Prop) (x : Int32) : ip_wp X 29 15 ls (.int x :: st) M K = if x = 0 then ip_wp X 29 18 ls st M K else ip_wp X 29 21 ls st M K := wp_ifCond_ne ((ip_a29 15).trans rfl)
theorem w29_18 (X : ip_X) (ls st : List Value) (M : ip_H) (K : Option Value → ip_H → Prop) : ip_wp X 29 18 ls st M K = ip_wp X 29 37 ls st M K := wp_goto ((ip_a29 18).trans rfl)
theorem w29_21 (X : ip_X) (ls st : List Value) (M : ip_H) (K : Option Value → ip_H → Prop) : ip_wp X 29 21 ls st M K = ip_ka (ip_get ls 0) (fun x => ip_wp X 29 22 ls (x :: st) M K) := wp_aload_n ((ip_a29 21).trans rfl)
theorem w29_22 (X : ip_X) (ls st : List Value) (M : ip_H) (K : Option Value → ip_H → Prop) : ip_wp X 29 22 ls st M K = ip_ki (ip_get ls 1) (fun x => ip_wp X 29 23 ls (.int x :: st) M K) := wp_iload_n ((ip_a29 22).trans rfl)
theorem w29_23 (X : ip_X) (ls st : List Value) (M : ip_H) (K : Option Value → ip_H → Prop) (k : Nat) (x : Int32) (h0 : (ip_sh M k).1 = 0) (h1 : (ip_sh M k).2.1 = 1) : ip_wp X 29 23 ls (.int x :: .ref k :: st) M K = ip_wp X 29 26 ls st (ip_uI M k 5 x) K := (wp_putI ((ip_a29 23).trans rfl)).trans (if_pos ⟨h0, h1⟩)
theorem w29_26 (X : ip_X) (ls st : List Value) (M : ip_H) (K : Option Value → ip_H → Prop) : ip_wp X 29 26 ls st M K = ip_ka (ip_get ls 0) (fun x => ip_wp X 29 27 ls (x :: st) M K) := wp_aload_n ((ip_a29 26).trans rfl)
theorem w29_27 (X : ip_X) (ls st : List Value) (M : ip_H) (K : Option Value → ip_H → Prop) : ip_wp X 29 27 ls st M K = ip_ka (ip_get ls 0) (fun x => ip_wp X 29 28 ls (x :: st) M K) := wp_aload_n ((ip_a29 27).trans rfl)
theorem w29_28 (X : ip_X) (ls st : List Value) (M : ip_H) (K : Option Value → ip_H → Prop) (k : Nat) (h0 : (ip_sh M k).1 = 0) (h1 : (ip_sh M k).2.1 = 1) : ip_wp X 29 28 ls (.ref k :: st) M K = ip_wp X 29 31 ls (.int (M.2.1 k 4) :: st) M K := (wp_getI ((ip_a29 28).trans rfl)).trans (if_pos ⟨h0, h1⟩)
theorem w29_31 (X : ip_X) (ls st : List Value) (M : ip_H) (K : Option Value → ip_H → Prop) : ip_wp X 29 31 ls st M K = ip_ki (ip_get ls 1) (fun x => ip_wp X 29 32 ls (.int x :: st) M K) := wp_iload_n ((ip_a29 31).trans rfl)
theorem w29_32 (X : ip_X) (ls st : List Value) (M : ip_H) (K : Option Value → ip_H → Prop) (x q : Int32) : ip_wp X 29 32 ls (.int q :: .int x :: st) M K = ip_wp X 29 33 ls (.int (x - q) :: st) M K := wp_isub ((ip_a29 32).trans rfl)
theorem w29_33 (X : ip_X) (ls st : List Value) (M : ip_H) (K : Option Value → ip_H → Prop) (k : Nat) (x : Int32) (h0 : (ip_sh M k).1 = 0) (h1 : (ip_sh M k).2.1 = 1) : ip_wp X 29 33 ls (.int x :: .ref k :: st) M K = ip_wp X 29 36 ls st (ip_uI M k 6 x) K := (wp_putI ((ip_a29 33).trans rfl)).trans (if_pos ⟨h0, h1⟩)
theorem w29_36 (X : ip_X) (ls : List Value) (M : ip_H) (K : Option Value → ip_H → Prop) : ip_wp X 29 36 ls [] M K = K none M := wp_vret ((ip_a29 36).trans rfl)
theorem w29_37 (X : ip_X) (ls st : List Value) (M : ip_H) (K : Option Value → ip_H → Prop) : ip_wp X 29 37 ls st M K = ip_ki (ip_get ls 1) (fun x => ip_wp X 29 40 (ip_set1 ls 1 (.int (x + 1))) st M K) := wp_iinc ((ip_a29 37).trans rfl)
theorem w29_40 (X : ip_X) (ls st : List Value) (M : ip_H) (K : Option Value → ip_H → Prop) : ip_wp X 29 40 ls st M K = ip_wp X 29 2 ls st M K := wp_goto ((ip_a29 40).trans rfl)
theorem w29_43 (X : ip_X) (ls : List Value) (M : ip_H) (K : Option Value → ip_H → Prop) : ip_wp X 29 43 ls [] M K = K none M := wp_vret ((ip_a29 43).trans rfl)
end
noncomputable section
-- PART c13yf09.prep
-- A COURSE of the class: the next STEP
/-- what laying out a STEP may change -/
def pf (c : Nat) (M M1 : ip_H) : Prop := M1.1 = M.1 ∧ M1.2.2.2 = M.2.2.2 ∧ (∀ a b, ¬ (a = c ∧ 12 ≤ b ∧ b ≤ 14) → M1.2.1 a b = M.2.1 a b) ∧ ∀ a, ¬ (a = 3 ∨ (c + 6 ≤ a ∧ a ≤ c + 10)) → M1.2.2.1 a = M.2.2.1 a
theorem pf_r (c : Nat) (M : ip_H) : pf c M M := ⟨rfl, rfl, fun _ _ _ => rfl, fun _ _ => rfl⟩
theorem pf_t {c : Nat} {M M1 M2 : ip_H} (h : pf c M M1) (g : pf c M1 M2) : pf c M M2 := ⟨g.1.trans h.1, g.2.1.trans h.2.1, fun a b q => (g.2.2.1 a b q).trans (h.2.2.1 a b q), fun a q => (g.2.2.2 a q).trans (h.2.2.2 a q)⟩
theorem pf_uI {c : Nat} {M N : ip_H} {k j : Nat} {v : Int32} (h : pf c M N) (q : k = c ∧ 12 ≤ j ∧ j ≤ 14) : pf c M (ip_uI N k j v) := by
  refine ⟨h.1, h.2.1, fun a b hab => ?_, h.2.2.2⟩
  rw [ip_uI_I, if_neg, h.2.2.1 a b hab]
  rintro ⟨rfl, rfl⟩
  exact hab q
theorem pf_uL {c : Nat} {M N : ip_H} {k j : Nat} {v : Int64} (h : pf c M N) (q : k = 3 ∨ (c + 6 ≤ k ∧ k ≤ c + 10)) : pf c M (ip_uL N k j v) := by
  refine ⟨h.1, h.2.1, h.2.2.1, fun a ha => ?_⟩
  rw [← h.2.2.2 a ha]
  funext b
  rw [ip_uL_L, if_neg]
  rintro ⟨rfl, rfl⟩
  exact ha q
theorem pf_kv {c : Nat} {M N : ip_H} {v : Nat} {z : Int × Int × Int × Int} (h : pf c M N) (q : v = 3 ∨ (c + 6 ≤ v ∧ v ≤ c + 10)) : pf c M (k_v N v z) := pf_uL (pf_uL (pf_uL (pf_uL h q) q) q) q
theorem pf_sL {c : Nat} {M N : ip_H} {A : Nat} {f : Nat → Int64} (h : pf c M N) (q : A = 3 ∨ (c + 6 ≤ A ∧ A ≤ c + 10)) : pf c M (ip_sL N A f) := by
  refine ⟨h.1, h.2.1, h.2.2.1, fun a ha => ?_⟩
  rw [← h.2.2.2 a ha]
  funext b
  rw [ip_sL_L, if_neg]
  rintro rfl
  exact ha q
theorem pf_cpL {c : Nat} {M N : ip_H} {B A : Nat} (h : pf c M N) (q : A = 3 ∨ (c + 6 ≤ A ∧ A ≤ c + 10)) : pf c M (ip_cpL N B A 0 0 9) := by
  refine ⟨h.1, h.2.1, h.2.2.1, fun a ha => ?_⟩
  rw [← h.2.2.2 a ha]
  funext b
  rw [ip_cpL_L, if_neg]
  rintro ⟨rfl, -⟩
  exact ha q
theorem pf_G {c : Nat} {M M1 : ip_H} (h : pf c M M1) (hG : ip_G M) : ip_G M1 := ⟨h.1.trans hG.1, fun k j a b => by rw [h.2.1]; exact hG.2 k j a b⟩
theorem k_nx_c {g h : Nat → Int64} (e : ∀ j, j < 9 → g j = h j) (a b : Int32) (t : Bool) : ∀ j, j < 9 → k_nx g a b t j = k_nx h a b t j := fun j hj => by
  unfold k_nx
  rw [e 0 (by decide), e 1 (by decide), e 2 (by decide), e 3 (by decide), e 4 (by decide), e 5 (by decide), e 6 (by decide), e 7 (by decide), e 8 (by decide), e j hj]
theorem k_bn_cc {g h : Nat → Int64} : ∀ (n k : Nat), (∀ j, k ≤ j → j < k + n → g j = h j) → k_bn g n k = k_bn h n k := by
  intro n
  induction n with
  | zero => intro k e; rfl
  | succ n ih =>
    intro k e
    unfold k_bn
    rw [e k (Nat.le_refl _) (by omega), ih (k + 1) (fun j h1 h2 => e j (by omega) (by omega))]
theorem k_bn_c {g h : Nat → Int64} (e : ∀ j, j < 9 → g j = h j) : k_bn g 9 0 = k_bn h 9 0 := k_bn_cc 9 0 (fun j _ hj => e j (by omega))
/-- what is left over of a STATE's number -/
def k_rs (f : Nat → Int32) (j : Nat) : Int × Int × Int × Int := ((qi f j).1 - (f (j + 4)).toInt * (qi f j).2.2.2, (qi f j).2.1, (qi f j).2.2.1, (qi f j).2.2.2)

set_option maxHeartbeats 40000000 in
set_option maxRecDepth 100000 in
theorem o_52 (X : ip_X) (M : ip_H) (K : Option Value → ip_H → Prop) (v w u : Nat) (z y : Int × Int × Int × Int) (hG : ip_G M) (hv : ip_sh M v = (0, 8, 4)) (hz : cv M v z) (hw : ip_sh M w = (0, 8, 4)) (hy : cv M w y) (hu : ip_sh M u = (0, 8, 4)) (hv3 : ¬ v = 3) (hw3 : ¬ w = 3) (hF : zF (M.2.1 1 0).toInt (M.2.1 1 1).toInt (M.2.1 1 2).toInt = true) (bz : c_fb z) (bw : c_fb y) (nz : c_nz y) (h : ∀ M1, M1.1 = M.1 → M1.2.1 = M.2.1 → M1.2.2.2 = M.2.2.2 → (∀ a, ¬ (a = 3 ∨ a = u) → M1.2.2.1 a = M.2.2.1 a) → cv M1 u (zl (kQ (M.2.1 1 0).toInt (M.2.1 1 1).toInt (M.2.1 1 2).toInt z y)) → K none M1) : ip_wp X 52 0 [.ref 1, .ref v, .ref w, .ref u, .retAddr 1, .retAddr 1] [] M K := by
  obtain ⟨q0, q1, q2, q3, q4⟩ := kQ_b hF bz bw nz
  have w' : ∀ x, zb 13500000000000000 x → zb 9223372036854775807 x := fun x h => zb_w h (by decide)
  rw [s_52_1 X M K v w z y hG hv hz hw hy u hu hv3 hw3 (w' _ q0) (w' _ q1) (w' _ q2) (w' _ q3) q4]
  refine h _ ((k_v_1 _ _ _).trans (k_rw_1 _ _ _ _ _ _ _ _)) ((k_v_I _ _ _).trans (k_rw_I _ _ _ _ _ _ _ _)) ((k_v_R _ _ _).trans (k_rw_R _ _ _ _ _ _ _ _)) (fun a ha => ?_) (cv_kv _ _ _)
  funext b
  rw [k_v_L, if_neg (by omega), if_neg (by omega), if_neg (by omega), if_neg (by omega), k_rw_o _ _ _ _ _ _ _ _ _ (by omega)]

/-- both rests laid -/
def k_r4_6 (M : ip_H) (k : Nat) : ip_H := (ip_uL (ip_uL (k_v (k_v M 13 (qi (M.2.1 7) (10 * k + 0))) 14 (qi (M.2.1 7) (10 * k + 5))) 13 0 (Int64.ofInt ((k_rs (M.2.1 7) (10 * k + 0)).1))) 14 0 (Int64.ofInt ((k_rs (M.2.1 7) (10 * k + 5)).1)))
theorem k_r4_6_f (M : ip_H) (k : Nat) : cv (k_r4_6 M k) 13 (k_rs (M.2.1 7) (10 * k + 0)) ∧ cv (k_r4_6 M k) 14 (k_rs (M.2.1 7) (10 * k + 5)) := by
  unfold k_r4_6 cv
  simp (decide := true) only [ip_uL_L, k_v_L, true_and, false_and, and_true, ↓reduceIte, and_self]
  exact ⟨⟨rfl, rfl, rfl⟩, ⟨rfl, rfl, rfl⟩⟩
theorem k_r4_6_pf (M : ip_H) (k : Nat) : pf 6 M (k_r4_6 M k) := pf_uL (pf_uL (pf_kv (pf_kv (pf_r _ _) (by omega)) (by omega)) (by omega)) (by omega)
set_option maxHeartbeats 40000000 in
set_option maxRecDepth 100000 in
theorem s_26a_6 (X : ip_X) (M : ip_H) (K : Option Value → ip_H → Prop) (k : Nat) (hk : k ≤ 60) (hs : M.2.1 6 4 = Int32.ofNat k) (hG : ip_G M) : ip_wp X 26 0 [.ref 6, .ref 1] [] M K = ip_wp X 26 60 [.ref 6, .ref 1] [] (k_r4_6 M k) K := by
  have hG1 : ip_G (k_v M 13 (qi (M.2.1 7) (10 * k + 0))) := gG_kv _ _ _ hG
  have hG2 : ip_G (k_v (k_v M 13 (qi (M.2.1 7) (10 * k + 0))) 14 (qi (M.2.1 7) (10 * k + 5))) := gG_kv _ _ _ (gG_kv _ _ _ hG)
  have hG3 : ip_G (ip_uL (k_v (k_v M 13 (qi (M.2.1 7) (10 * k + 0))) 14 (qi (M.2.1 7) (10 * k + 5))) 13 0 (Int64.ofInt ((k_rs (M.2.1 7) (10 * k + 0)).1))) := gG_uL _ _ _ _ (gG_kv _ _ _ (gG_kv _ _ _ hG))
  have a1 := fun K => s_16_6_0 X M K k 13 hk (gS_13 hG) hG
  have a2 := fun K => s_16_6_1 X (k_v M 13 (qi (M.2.1 7) (10 * k + 0))) K k 14 hk (gS_14 hG1) hG1
  have a3 := fun K => s_15_6_0 X (k_v (k_v M 13 (qi (M.2.1 7) (10 * k + 0))) 14 (qi (M.2.1 7) (10 * k + 5))) K k hk hG2
  have c1 : cv (k_v (k_v M 13 (qi (M.2.1 7) (10 * k + 0))) 14 (qi (M.2.1 7) (10 * k + 5))) 13 (qi (M.2.1 7) (10 * k + 0)) := cv_kv_ne (by decide) (cv_kv M 13 _)
  have c2 : cv (k_v (k_v M 13 (qi (M.2.1 7) (10 * k + 0))) 14 (qi (M.2.1 7) (10 * k + 5))) 14 (qi (M.2.1 7) (10 * k + 5)) := cv_kv _ 14 _
  have a4 := fun K => s_98 X (k_v (k_v M 13 (qi (M.2.1 7) (10 * k + 0))) 14 (qi (M.2.1 7) (10 * k + 5))) K 13 (qi (M.2.1 7) (10 * k + 0)) (M.2.1 7 (10 * k + 0 + 4)).toInt (gS_13 hG2) c1
  have a5 := fun K => s_15_6_1 X (ip_uL (k_v (k_v M 13 (qi (M.2.1 7) (10 * k + 0))) 14 (qi (M.2.1 7) (10 * k + 5))) 13 0 (Int64.ofInt ((k_rs (M.2.1 7) (10 * k + 0)).1))) K k hk hG3
  have c3 : cv (ip_uL (k_v (k_v M 13 (qi (M.2.1 7) (10 * k + 0))) 14 (qi (M.2.1 7) (10 * k + 5))) 13 0 (Int64.ofInt ((k_rs (M.2.1 7) (10 * k + 0)).1))) 14 (qi (M.2.1 7) (10 * k + 5)) := by
    obtain ⟨x0, x1, x2, x3⟩ := c2
    unfold cv
    simp (decide := true) only [ip_uL_L, false_and, ↓reduceIte]
    exact ⟨x0, x1, x2, x3⟩
  have a6 := fun K => s_98 X (ip_uL (k_v (k_v M 13 (qi (M.2.1 7) (10 * k + 0))) 14 (qi (M.2.1 7) (10 * k + 5))) 13 0 (Int64.ofInt ((k_rs (M.2.1 7) (10 * k + 0)).1))) K 14 (qi (M.2.1 7) (10 * k + 5)) (M.2.1 7 (10 * k + 5 + 4)).toInt (gS_14 hG3) c3
  clear c1 c2 c3
  unfold k_r4_6
  unfold k_rs at *
  dsimp only at a5 a6 ⊢
  simp only [Nat.add_zero] at a1 a2 a3 a4 a5 a6 ⊢
  simp (config := { maxSteps := 10000000, maxDischargeDepth := 30, decide := true }) only [w26_0, w26_1, w26_2, w26_5, w26_6, w26_7, w26_10, w26_13, w26_14, w26_15, w26_18, w26_19, w26_20, w26_23, w26_26, w26_27, w26_30, w26_31, w26_32, w26_35, w26_36, w26_39, w26_40, w26_43, w26_44, w26_47, w26_48, w26_49, w26_52, w26_53, w26_56, w26_57, ↓ip_ka0, ip_uL_I, ip_uL_R, ip_uL_sh, ip_vr_some, Option.toList_some, Option.toList_none, List.nil_append, List.cons_append, List.length_nil, List.length_cons, Nat.reduceLeDiff, Nat.zero_add, Nat.zero_le, gS_6 hG, gS_13 hG, gS_14 hG, gR_6_8 hG, gR_6_9 hG, hs, a1, a2, a3, a4, a5, a6, z_w, k_v_I, k_v_R, k_v_sh, gG_kv, Nat.add_zero]

set_option maxHeartbeats 40000000 in
set_option maxRecDepth 100000 in
theorem o_26t_6 (X : ip_X) (M : ip_H) (K : Option Value → ip_H → Prop) (f g : Int × Int × Int × Int) (hG : ip_G M) (hf : cv M 13 f) (hg : cv M 14 g) (hw : M.2.1 6 3 = 1) (hl : r_lt (M.2.1 1 0).toInt (M.2.1 1 1).toInt (M.2.1 1 2).toInt f g = true) (h : ∀ M1, pf 6 M M1 → cv M1 13 g → cv M1 14 f → M1.2.1 6 14 = 1 → K none M1) : ip_wp X 26 60 [.ref 6, .ref 1] [] M K := by
  have hGm := hG
  have t48 := fun K => s_48 X M K 13 14 f g hG (gS_13 hG) hf (gS_14 hG) hg
  unfold r_lt at hl
  rw [decide_eq_true_eq] at hl
  have hf0 : cv (ip_uI M 6 14 1) 13 f := hf
  have e1 := fun K => s_95 X (ip_uI M 6 14 1) K 15 13 f (gS_15 hG) (gS_13 hG) (by decide) hf0
  have hg1 : cv (k_v (ip_uI M 6 14 1) 15 f) 14 g := cv_kv_ne (by decide) (show cv (ip_uI M 6 14 1) 14 g from hg)
  have e2 := fun K => s_95 X (k_v (ip_uI M 6 14 1) 15 f) K 13 14 g (gS_13 hG) (gS_14 hG) (by decide) hg1
  have hu2 : cv (k_v (k_v (ip_uI M 6 14 1) 15 f) 13 g) 15 f := cv_kv_ne (by decide) (cv_kv _ 15 f)
  have e3 := fun K => s_95 X (k_v (k_v (ip_uI M 6 14 1) 15 f) 13 g) K 14 15 f (gS_14 hG) (gS_15 hG) (by decide) hu2
  simp (config := { maxSteps := 10000000, maxDischargeDepth := 30, decide := true }) only [w26_60, w26_61, w26_62, w26_65, w26_66, w26_69, w26_70, w26_71, w26_74, w26_75, w26_78, w26_81, w26_84, w26_85, w26_89, w26_92, w26_93, w26_96, w26_100, w26_101, w26_104, w26_105, w26_108, w26_111, w26_112, w26_115, w26_116, w26_119, w26_122, w26_123, w26_126, w26_127, w26_130, w26_133, ↓ip_ka0, ↓ip_ka1, ip_uI_I, ip_uI_R, ip_uI_sh, ip_vr_some, Option.toList_some, Option.toList_none, List.nil_append, List.cons_append, List.length_nil, List.length_cons, ↓reduceIte, Nat.reduceLeDiff, Nat.zero_add, Nat.zero_le, or_true, gS_6 hG, gS_13 hG, gS_14 hG, gS_15 hG, gS_1 hG, gR_6_8 hG, gR_6_9 hG, gR_6_10 hG, t48, hw, hl, e1, e2, e3, k_v_R, k_v_sh, gG_kv]
  refine h _ (pf_kv (pf_kv (pf_kv (pf_uI (pf_r _ _) (by omega)) (by omega)) (by omega)) (by omega)) (cv_kv_ne (by decide) (cv_kv _ 13 g)) (cv_kv _ 14 f) ?_
  rfl

set_option maxHeartbeats 40000000 in
set_option maxRecDepth 100000 in
theorem o_26n_6 (X : ip_X) (M : ip_H) (K : Option Value → ip_H → Prop) (f g : Int × Int × Int × Int) (hG : ip_G M) (hf : cv M 13 f) (hg : cv M 14 g) (hw : M.2.1 6 3 = 1 → r_lt (M.2.1 1 0).toInt (M.2.1 1 1).toInt (M.2.1 1 2).toInt f g = false) (h : ∀ M1, pf 6 M M1 → cv M1 13 f → cv M1 14 g → M1.2.1 6 14 = 0 → K none M1) : ip_wp X 26 60 [.ref 6, .ref 1] [] M K := by
  have hGm := hG
  have t48 := fun K => s_48 X M K 13 14 f g hG (gS_13 hG) hf (gS_14 hG) hg
  unfold r_lt at hw
  by_cases hw1 : M.2.1 6 3 = 1
  · have hl := hw hw1
    rw [decide_eq_false_iff_not] at hl
    simp (config := { maxSteps := 10000000, maxDischargeDepth := 30, decide := true }) only [w26_60, w26_61, w26_62, w26_65, w26_66, w26_69, w26_70, w26_71, w26_74, w26_75, w26_78, w26_81, w26_88, w26_89, w26_92, w26_93, w26_96, w26_99, ↓ip_ka0, ↓ip_ka1, ip_uI_I, ip_uI_sh, ip_vr_some, Option.toList_some, List.nil_append, List.cons_append, List.length_nil, List.length_cons, ↓reduceIte, Nat.reduceLeDiff, Nat.zero_add, or_false, gS_6 hG, gS_1 hG, gR_6_8 hG, gR_6_9 hG, t48, hw1, hl]
    refine h _ (pf_uI (pf_r _ _) (by omega)) hf hg ?_
    rfl
  · simp (config := { maxSteps := 10000000, maxDischargeDepth := 30, decide := true }) only [w26_60, w26_61, w26_62, w26_65, w26_66, w26_88, w26_89, w26_92, w26_93, w26_96, w26_99, ↓ip_ka0, ip_uI_I, ip_uI_sh, ↓reduceIte, or_false, gS_6 hG, hw1]
    refine h _ (pf_uI (pf_r _ _) (by omega)) hf hg ?_
    rfl

set_option maxHeartbeats 40000000 in
set_option maxRecDepth 100000 in
theorem o_25a_6 (X : ip_X) (M : ip_H) (K : Option Value → ip_H → Prop) (f g : Int × Int × Int × Int) (hG : ip_G M) (hF : zF (M.2.1 1 0).toInt (M.2.1 1 1).toInt (M.2.1 1 2).toInt = true) (bf : c_fb f) (bg : c_fb g) (nz : c_nz f) (hf : cv M 13 f) (hg : cv M 14 g) (h5 : ∀ M1, pf 6 M M1 → (k_can (zl (kQ (M.2.1 1 0).toInt (M.2.1 1 1).toInt (M.2.1 1 2).toInt g f)) && k_can (zl (kQ (M.2.1 1 0).toInt (M.2.1 1 1).toInt (M.2.1 1 2).toInt (1, 0, 0, 1) f))) = false → K (some (.int (-5))) M1) (h0 : ∀ M1, pf 6 M M1 → M1.2.1 = M.2.1 → cv M1 15 (zl (kQ (M.2.1 1 0).toInt (M.2.1 1 1).toInt (M.2.1 1 2).toInt g f)) → cv M1 16 (zl (kQ (M.2.1 1 0).toInt (M.2.1 1 1).toInt (M.2.1 1 2).toInt (1, 0, 0, 1) f)) → (k_can (zl (kQ (M.2.1 1 0).toInt (M.2.1 1 1).toInt (M.2.1 1 2).toInt g f)) && k_can (zl (kQ (M.2.1 1 0).toInt (M.2.1 1 1).toInt (M.2.1 1 2).toInt (1, 0, 0, 1) f))) = true → ip_wp X 25 113 [.ref 6, .ref 1] [] M1 K) : ip_wp X 25 47 [.ref 6, .ref 1] [] M K := by
  have b1 : c_fb (1, 0, 0, 1) := ⟨⟨by decide, by decide⟩, ⟨by decide, by decide⟩, ⟨by decide, by decide⟩, by decide, by decide⟩
  have ez : zl (1, 0, 0, 1) = (1, 0, 0, 1) := by decide
  have i0 : zb 9223372036854775807 0 := ⟨by decide, by decide⟩
  have i1 : zb 9223372036854775807 1 := ⟨by decide, by decide⟩
  simp (config := { maxSteps := 10000000, maxDischargeDepth := 30, decide := true }) only [w25_47, w25_48, w25_49, w25_52, w25_53, w25_56, w25_57, w25_60, ↓ip_ka0, ↓ip_ka1, ip_vr_some, List.length_nil, Nat.zero_le, gS_6 hG, gS_1 hG, gR_6_8 hG, gR_6_9 hG, gR_6_10 hG]
  refine o_52 X M _ 14 13 15 g f hG (gS_14 hG) hg (gS_13 hG) hf (gS_15 hG) (by decide) (by decide) hF bg bf nz (fun M1 d1 d2 d3 d4 d5 => ?_)
  have hG1 : ip_G M1 := ⟨d1.trans hG.1, fun k j a b => by rw [d3]; exact hG.2 k j a b⟩
  have f1 : cv M1 13 f := by
    unfold cv
    rw [d4 13 (by decide)]
    exact hf
  have t93 := fun K => s_93 X M1 K 16 1 0 0 1 (gS_16 hG1) i1 i0 i0 i1 (by decide)
  rw [ez, z_o0, z_o1] at t93
  have hG2 : ip_G (k_v M1 16 (1, 0, 0, 1)) := gG_kv _ _ _ hG1
  simp (config := { maxSteps := 10000000, maxDischargeDepth := 30, decide := true }) only [w25_63, w25_64, w25_67, w25_68, w25_69, w25_70, w25_71, w25_74, w25_75, w25_76, w25_79, w25_80, w25_83, w25_84, w25_87, ↓ip_ka0, ↓ip_ka1, ip_vr_some, Option.toList_none, List.nil_append, List.length_nil, Nat.zero_le, gS_6 hG1, gS_7 hG1, gS_13 hG1, gS_14 hG1, gS_15 hG1, gS_16 hG1, gR_6_0 hG1, gR_6_1 hG1, gR_6_2 hG1, gR_6_7 hG1, gR_6_8 hG1, gR_6_9 hG1, gR_6_10 hG1, gR_6_11 hG1, gS_6 hG2, gS_7 hG2, gS_13 hG2, gS_14 hG2, gS_15 hG2, gS_16 hG2, gS_1 hG2, gR_6_0 hG2, gR_6_1 hG2, gR_6_2 hG2, gR_6_7 hG2, gR_6_8 hG2, gR_6_9 hG2, gR_6_10 hG2, gR_6_11 hG2, t93, k_m9_I, k_m9_R, k_m9_sh, gG_m9, k_rw_I, k_rw_R, k_rw_sh, gG_rw, gG_kv]
  refine o_52 X (k_v M1 16 (1, 0, 0, 1)) _ 16 13 16 (1, 0, 0, 1) f hG2 (gS_16 hG2) (cv_kv _ _ _) (gS_13 hG2) (cv_kv_ne (by decide) f1) (gS_16 hG2) (by decide) (by decide) (by rw [k_v_I, d2]; exact hF) b1 bf nz (fun M2 e1 e2 e3 e4 e5 => ?_)
  rw [k_v_I, d2] at e5
  have eI : M2.2.1 = M.2.1 := e2.trans d2
  have hG3 : ip_G M2 := ⟨(e1.trans (k_v_1 _ _ _)).trans hG1.1, fun k j a b => by rw [e3]; exact hG1.2 k j a b⟩
  have cu : cv M2 15 (zl (kQ (M.2.1 1 0).toInt (M.2.1 1 1).toInt (M.2.1 1 2).toInt g f)) := by
    unfold cv
    rw [e4 15 (by decide)]
    exact cv_kv_ne (by decide) d5
  have fr : pf 6 M M2 := by
    refine ⟨(e1.trans (k_v_1 _ _ _)).trans d1, (e3.trans (k_v_R _ _ _)).trans d3, fun a b _ => by rw [eI], fun a ha => ?_⟩
    rw [e4 a (by omega)]
    have e : (k_v M1 16 (1, 0, 0, 1)).2.2.1 a = M1.2.2.1 a := by
      funext b
      rw [k_v_L, if_neg (by omega), if_neg (by omega), if_neg (by omega), if_neg (by omega)]
    rw [e, d4 a (by omega)]
  have a4 := fun K => s_99 X M2 K 15 _ (gS_15 hG3) cu
  have a5 := fun K => s_99 X M2 K 16 _ (gS_16 hG3) e5
  have h5 := h5 M2 fr
  have h0 := h0 M2 fr eI cu e5
  clear e1 e2 e3 e4 d1 d2 d3 d4 t93
  cases e1 : k_can (zl (kQ (M.2.1 1 0).toInt (M.2.1 1 1).toInt (M.2.1 1 2).toInt g f))
  · rw [e1] at a4 h5
    have h := h5 (Bool.false_and _)
    clear h0 h5
    simp (config := { maxSteps := 10000000, maxDischargeDepth := 30, decide := true }) only [w25_90, w25_91, w25_94, w25_97, w25_110, w25_112, ↓ip_ka0, ip_vr_some, Option.toList_some, Option.toList_none, List.nil_append, List.cons_append, List.length_nil, ↓reduceIte, Nat.zero_le, ip_b_f, gS_6 hG3, gS_7 hG3, gS_13 hG3, gS_14 hG3, gS_15 hG3, gS_16 hG3, gS_1 hG3, gR_6_0 hG3, gR_6_1 hG3, gR_6_2 hG3, gR_6_7 hG3, gR_6_8 hG3, gR_6_9 hG3, gR_6_10 hG3, gR_6_11 hG3, a4]
    exact h
  · rw [e1] at a4 h5 h0
    cases e2 : k_can (zl (kQ (M.2.1 1 0).toInt (M.2.1 1 1).toInt (M.2.1 1 2).toInt (1, 0, 0, 1) f))
    · rw [e2] at a5 h5
      have h := h5 rfl
      clear h0 h5
      simp (config := { maxSteps := 10000000, maxDischargeDepth := 30, decide := true }) only [w25_90, w25_91, w25_94, w25_97, w25_100, w25_101, w25_104, w25_107, w25_110, w25_112, ↓ip_ka0, ip_vr_some, Option.toList_some, Option.toList_none, List.nil_append, List.cons_append, List.length_nil, ↓reduceIte, Nat.zero_le, ip_b_t, ip_b_f, gS_6 hG3, gS_7 hG3, gS_13 hG3, gS_14 hG3, gS_15 hG3, gS_16 hG3, gS_1 hG3, gR_6_0 hG3, gR_6_1 hG3, gR_6_2 hG3, gR_6_7 hG3, gR_6_8 hG3, gR_6_9 hG3, gR_6_10 hG3, gR_6_11 hG3, a4, a5]
      exact h
    · rw [e2] at a5 h0
      have h := h0 rfl
      clear h0 h5
      simp (config := { maxSteps := 10000000, maxDischargeDepth := 30, decide := true }) only [w25_90, w25_91, w25_94, w25_97, w25_100, w25_101, w25_104, w25_107, ↓ip_ka0, ip_vr_some, Option.toList_some, Option.toList_none, List.nil_append, List.cons_append, List.length_nil, ↓reduceIte, Nat.zero_le, ip_b_t, gS_6 hG3, gS_7 hG3, gS_13 hG3, gS_14 hG3, gS_15 hG3, gS_16 hG3, gS_1 hG3, gR_6_0 hG3, gR_6_1 hG3, gR_6_2 hG3, gR_6_7 hG3, gR_6_8 hG3, gR_6_9 hG3, gR_6_10 hG3, gR_6_11 hG3, a4, a5]
      exact h

set_option maxHeartbeats 40000000 in
set_option maxRecDepth 100000 in
theorem o_25b_6 (X : ip_X) (M : ip_H) (K : Option Value → ip_H → Prop) (u v : Int × Int × Int × Int) (hG : ip_G M) (hu : cv M 15 u) (hv : cv M 16 v) (h5 : (decide (99 < c_f4 (M.2.1 1 0).toInt (M.2.1 1 1).toInt (M.2.1 1 2).toInt u) || decide (99 < c_f4 (M.2.1 1 0).toInt (M.2.1 1 1).toInt (M.2.1 1 2).toInt v)) = true → ∀ M1, pf 6 M M1 → K (some (.int (-5))) M1) (h0 : (decide (99 < c_f4 (M.2.1 1 0).toInt (M.2.1 1 1).toInt (M.2.1 1 2).toInt u) || decide (99 < c_f4 (M.2.1 1 0).toInt (M.2.1 1 1).toInt (M.2.1 1 2).toInt v)) = false → ip_wp X 25 158 [.ref 6, .ref 1] [] (ip_uI (ip_uI M 6 12 (c_f4 (M.2.1 1 0).toInt (M.2.1 1 1).toInt (M.2.1 1 2).toInt u)) 6 13 (c_f4 (M.2.1 1 0).toInt (M.2.1 1 1).toInt (M.2.1 1 2).toInt v)) K) : ip_wp X 25 113 [.ref 6, .ref 1] [] M K := by
  have a1 := fun K => s_49 X M K 15 u hG (gS_15 hG) hu
  have hG1 : ip_G (ip_uI M 6 12 (c_f4 (M.2.1 1 0).toInt (M.2.1 1 1).toInt (M.2.1 1 2).toInt u)) := hG
  have hv1 : cv (ip_uI M 6 12 (c_f4 (M.2.1 1 0).toInt (M.2.1 1 1).toInt (M.2.1 1 2).toInt u)) 16 v := hv
  have a2 := fun K => s_49 X (ip_uI M 6 12 (c_f4 (M.2.1 1 0).toInt (M.2.1 1 1).toInt (M.2.1 1 2).toInt u)) K 16 v hG1 (gS_16 hG1) hv1
  have ep : ∀ j, (ip_uI M 6 12 (c_f4 (M.2.1 1 0).toInt (M.2.1 1 1).toInt (M.2.1 1 2).toInt u)).2.1 1 j = M.2.1 1 j := fun j => by rw [ip_uI_I, if_neg (by omega)]
  simp only [ep] at a2
  have fr : pf 6 M (ip_uI (ip_uI M 6 12 (c_f4 (M.2.1 1 0).toInt (M.2.1 1 1).toInt (M.2.1 1 2).toInt u)) 6 13 (c_f4 (M.2.1 1 0).toInt (M.2.1 1 1).toInt (M.2.1 1 2).toInt v)) := pf_uI (pf_uI (pf_r _ _) (by omega)) (by omega)
  by_cases e1 : 99 < c_f4 (M.2.1 1 0).toInt (M.2.1 1 1).toInt (M.2.1 1 2).toInt u
  · have h := h5 (by rw [decide_eq_true e1]; rfl) (ip_uI (ip_uI M 6 12 (c_f4 (M.2.1 1 0).toInt (M.2.1 1 1).toInt (M.2.1 1 2).toInt u)) 6 13 (c_f4 (M.2.1 1 0).toInt (M.2.1 1 1).toInt (M.2.1 1 2).toInt v)) fr
    simp (config := { maxSteps := 10000000, maxDischargeDepth := 30, decide := true }) only [w25_113, w25_114, w25_115, w25_116, w25_119, w25_122, w25_125, w25_126, w25_127, w25_128, w25_131, w25_134, w25_137, w25_138, w25_141, w25_143, w25_155, w25_157, ↓ip_ka0, ↓ip_ka1, ip_uI_I, ip_uI_R, ip_uI_sh, ip_vr_some, Option.toList_some, List.nil_append, List.cons_append, List.length_nil, List.length_cons, ↓reduceIte, Nat.reduceLeDiff, Nat.zero_add, gS_6 hG, gS_1 hG, gR_6_10 hG, gR_6_11 hG, a1, a2, e1]
    exact h
  · by_cases e2 : 99 < c_f4 (M.2.1 1 0).toInt (M.2.1 1 1).toInt (M.2.1 1 2).toInt v
    · have h := h5 (by rw [decide_eq_true e2, Bool.or_true]) (ip_uI (ip_uI M 6 12 (c_f4 (M.2.1 1 0).toInt (M.2.1 1 1).toInt (M.2.1 1 2).toInt u)) 6 13 (c_f4 (M.2.1 1 0).toInt (M.2.1 1 1).toInt (M.2.1 1 2).toInt v)) fr
      simp (config := { maxSteps := 10000000, maxDischargeDepth := 30, decide := true }) only [w25_113, w25_114, w25_115, w25_116, w25_119, w25_122, w25_125, w25_126, w25_127, w25_128, w25_131, w25_134, w25_137, w25_138, w25_141, w25_143, w25_146, w25_147, w25_150, w25_152, w25_155, w25_157, ↓ip_ka0, ↓ip_ka1, ip_uI_I, ip_uI_R, ip_uI_sh, ip_vr_some, Option.toList_some, List.nil_append, List.cons_append, List.length_nil, List.length_cons, ↓reduceIte, Nat.reduceLeDiff, Nat.zero_add, gS_6 hG, gS_1 hG, gR_6_10 hG, gR_6_11 hG, a1, a2, e1, e2]
      exact h
    · have h := h0 (by rw [decide_eq_false e1, decide_eq_false e2]; rfl)
      simp (config := { maxSteps := 10000000, maxDischargeDepth := 30, decide := true }) only [w25_113, w25_114, w25_115, w25_116, w25_119, w25_122, w25_125, w25_126, w25_127, w25_128, w25_131, w25_134, w25_137, w25_138, w25_141, w25_143, w25_146, w25_147, w25_150, w25_152, ↓ip_ka0, ↓ip_ka1, ip_uI_I, ip_uI_R, ip_uI_sh, ip_vr_some, Option.toList_some, List.nil_append, List.cons_append, List.length_nil, List.length_cons, ↓reduceIte, Nat.reduceLeDiff, Nat.zero_add, gS_6 hG, gS_1 hG, gR_6_10 hG, gR_6_11 hG, a1, a2, e1, e2]
      exact h

set_option maxHeartbeats 40000000 in
set_option maxRecDepth 100000 in
theorem o_25c_6 (X : ip_X) (M : ip_H) (K : Option Value → ip_H → Prop) (k : Nat) (t : Bool) (hk : k ≤ 60) (hs : M.2.1 6 4 = Int32.ofNat k) (ht : M.2.1 6 14 = ip_b t) (hG : ip_G M) (h : ∀ M1, pf 6 M M1 → M1.2.1 = M.2.1 → (∀ x, ¬ x = 12 → M1.2.2.1 x = M.2.2.1 x) → (∀ j, j < 9 → M1.2.2.1 12 j = k_nx (M.2.2.1 10) (M.2.1 7 (10 * k + 4)) (M.2.1 7 (10 * k + 9)) t j) → K (some (.int (if k_bn (k_nx (M.2.2.1 10) (M.2.1 7 (10 * k + 4)) (M.2.1 7 (10 * k + 9)) t) 9 0 = true then -5 else 0))) M1) : ip_wp X 25 158 [.ref 6, .ref 1] [] M K := by
  have a1 := fun K => s_65 X M K 11 12 9 10 (gS_11 hG) (gR_11_0 hG) (gS_12 hG) (gS_9 hG) (gR_9_0 hG) (gS_10 hG)
  have hG1 : ip_G (ip_cpL M 10 12 0 0 9) := hG
  have b1 := fun K => s_15_6_0 X (ip_cpL M 10 12 0 0 9) K k hk hG1
  have b2 := fun K => s_15_6_1 X (ip_cpL M 10 12 0 0 9) K k hk hG1
  have e9 : ∀ j, j < 9 → (ip_cpL M 10 12 0 0 9).2.2.1 12 j = M.2.2.1 10 j := fun j hj => by
    rw [ip_cpL_L, if_pos rfl]
    unfold va_cpy
    rw [if_pos (by omega)]
    exact congrArg (M.2.2.1 10) (by omega)
  have eo : ∀ x, ¬ x = 12 → (k_fo (ip_cpL M 10 12 0 0 9) 12 (M.2.1 7 (10 * k + 4)) (M.2.1 7 (10 * k + 9)) t).2.2.1 x = M.2.2.1 x := fun x hx => by
    funext j
    rw [k_fo_o _ _ _ _ _ _ hx, ip_cpL_L, if_neg hx]
  have hG2 : ip_G (k_fo (ip_cpL M 10 12 0 0 9) 12 (M.2.1 7 (10 * k + 4)) (M.2.1 7 (10 * k + 9)) t) := hG
  have a3 := fun K => s_69 X (k_fo (ip_cpL M 10 12 0 0 9) 12 (M.2.1 7 (10 * k + 4)) (M.2.1 7 (10 * k + 9)) t) K 11 12 (gS_11 hG2) (gR_11_0 hG2) (gS_12 hG2)
  have eA : (k_fo (ip_cpL M 10 12 0 0 9) 12 (M.2.1 7 (10 * k + 4)) (M.2.1 7 (10 * k + 9)) t).2.2.1 12 = k_nx ((ip_cpL M 10 12 0 0 9).2.2.1 12) (M.2.1 7 (10 * k + 4)) (M.2.1 7 (10 * k + 9)) t := k_fo_A _ _ _ _ _
  have en : ∀ j, j < 9 → k_nx ((ip_cpL M 10 12 0 0 9).2.2.1 12) (M.2.1 7 (10 * k + 4)) (M.2.1 7 (10 * k + 9)) t j = k_nx (M.2.2.1 10) (M.2.1 7 (10 * k + 4)) (M.2.1 7 (10 * k + 9)) t j := k_nx_c e9 _ _ _
  have h := h (k_fo (ip_cpL M 10 12 0 0 9) 12 (M.2.1 7 (10 * k + 4)) (M.2.1 7 (10 * k + 9)) t) (pf_sL (pf_cpL (pf_r _ _) (by omega)) (by omega)) rfl eo (fun j hj => by rw [eA]; exact en j hj)
  rw [eA, k_bn_c en] at a3
  clear eA en e9 eo
  have fin : ∀ Q : Prop, (Q = K (some (.int (if k_bn (k_nx (M.2.2.1 10) (M.2.1 7 (10 * k + 4)) (M.2.1 7 (10 * k + 9)) t) 9 0 = true then -5 else 0))) (k_fo (ip_cpL M 10 12 0 0 9) 12 (M.2.1 7 (10 * k + 4)) (M.2.1 7 (10 * k + 9)) t)) → Q := fun Q e => by rw [e]; exact h
  apply fin
  clear fin h
  cases t
  · have a2 := fun K => s_66_f X (ip_cpL M 10 12 0 0 9) K 11 12 (gS_11 hG1) (gR_11_0 hG1) (gS_12 hG1) (M.2.1 7 (10 * k + 4)) (M.2.1 7 (10 * k + 9))
    cases e : k_bn (k_nx (M.2.2.1 10) (M.2.1 7 (10 * k + 4)) (M.2.1 7 (10 * k + 9)) false) 9 0
    · rw [e] at a3
      simp only [Bool.false_eq_true, ↓reduceIte]
      simp (config := { maxSteps := 10000000, maxDischargeDepth := 30, decide := true }) only [w25_158, w25_159, w25_162, w25_163, w25_166, w25_169, w25_170, w25_173, w25_174, w25_175, w25_178, w25_179, w25_182, w25_183, w25_184, w25_187, w25_188, w25_191, w25_192, w25_195, w25_198, w25_199, w25_202, w25_205, w25_213, w25_214, ↓ip_ka0, ip_vr_some, Option.toList_some, Option.toList_none, List.nil_append, List.cons_append, List.length_nil, List.length_cons, ↓reduceIte, Nat.reduceAdd, Nat.reduceLeDiff, Nat.zero_add, Nat.zero_le, ip_b_f, ip_cpL_I, ip_cpL_R, ip_cpL_sh, gS_6 hG, gR_6_2 hG, gR_6_7 hG, gS_11 hG, gS_12 hG, gS_9 hG, gS_10 hG, gR_11_0 hG, gR_9_0 hG, k_fo_sh, k_fo_R, hs, ht, a1, b1, b2, a2, a3]
    · rw [e] at a3
      simp only [↓reduceIte]
      simp (config := { maxSteps := 10000000, maxDischargeDepth := 30, decide := true }) only [w25_158, w25_159, w25_162, w25_163, w25_166, w25_169, w25_170, w25_173, w25_174, w25_175, w25_178, w25_179, w25_182, w25_183, w25_184, w25_187, w25_188, w25_191, w25_192, w25_195, w25_198, w25_199, w25_202, w25_205, w25_208, w25_210, w25_214, ↓ip_ka0, ip_vr_some, Option.toList_some, Option.toList_none, List.nil_append, List.cons_append, List.length_nil, List.length_cons, ↓reduceIte, Nat.reduceAdd, Nat.reduceLeDiff, Nat.zero_add, Nat.zero_le, ip_b_t, ip_b_f, ip_cpL_I, ip_cpL_R, ip_cpL_sh, gS_6 hG, gR_6_2 hG, gR_6_7 hG, gS_11 hG, gS_12 hG, gS_9 hG, gS_10 hG, gR_11_0 hG, gR_9_0 hG, k_fo_sh, k_fo_R, hs, ht, a1, b1, b2, a2, a3]
  · have a2 := fun K => s_66_t X (ip_cpL M 10 12 0 0 9) K 11 12 (gS_11 hG1) (gR_11_0 hG1) (gS_12 hG1) (M.2.1 7 (10 * k + 4)) (M.2.1 7 (10 * k + 9))
    cases e : k_bn (k_nx (M.2.2.1 10) (M.2.1 7 (10 * k + 4)) (M.2.1 7 (10 * k + 9)) true) 9 0
    · rw [e] at a3
      simp only [Bool.false_eq_true, ↓reduceIte]
      simp (config := { maxSteps := 10000000, maxDischargeDepth := 30, decide := true }) only [w25_158, w25_159, w25_162, w25_163, w25_166, w25_169, w25_170, w25_173, w25_174, w25_175, w25_178, w25_179, w25_182, w25_183, w25_184, w25_187, w25_188, w25_191, w25_192, w25_195, w25_198, w25_199, w25_202, w25_205, w25_213, w25_214, ↓ip_ka0, ip_vr_some, Option.toList_some, Option.toList_none, List.nil_append, List.cons_append, List.length_nil, List.length_cons, ↓reduceIte, Nat.reduceAdd, Nat.reduceLeDiff, Nat.zero_add, Nat.zero_le, ip_b_t, ip_b_f, ip_cpL_I, ip_cpL_R, ip_cpL_sh, gS_6 hG, gR_6_2 hG, gR_6_7 hG, gS_11 hG, gS_12 hG, gS_9 hG, gS_10 hG, gR_11_0 hG, gR_9_0 hG, k_fo_sh, k_fo_R, hs, ht, a1, b1, b2, a2, a3]
    · rw [e] at a3
      simp only [↓reduceIte]
      simp (config := { maxSteps := 10000000, maxDischargeDepth := 30, decide := true }) only [w25_158, w25_159, w25_162, w25_163, w25_166, w25_169, w25_170, w25_173, w25_174, w25_175, w25_178, w25_179, w25_182, w25_183, w25_184, w25_187, w25_188, w25_191, w25_192, w25_195, w25_198, w25_199, w25_202, w25_205, w25_208, w25_210, w25_214, ↓ip_ka0, ip_vr_some, Option.toList_some, Option.toList_none, List.nil_append, List.cons_append, List.length_nil, List.length_cons, ↓reduceIte, Nat.reduceAdd, Nat.reduceLeDiff, Nat.zero_add, Nat.zero_le, ip_b_t, ip_cpL_I, ip_cpL_R, ip_cpL_sh, gS_6 hG, gR_6_2 hG, gR_6_7 hG, gS_11 hG, gS_12 hG, gS_9 hG, gS_10 hG, gR_11_0 hG, gR_9_0 hG, k_fo_sh, k_fo_R, hs, ht, a1, b1, b2, a2, a3]
end
noncomputable section
-- PART c13yf10.take
-- A COURSE of the class: a STEP done, the PERIOD looked for
/-- the first STATE from k on, n of them at most, that is like STATE m -/
def k_fp (f : Nat → Int32) (m : Nat) : Nat → Nat → Option Nat
  | 0, _ => none
  | n + 1, k => if k_li f k m 10 0 = true then some k else k_fp f m n (k + 1)

set_option maxHeartbeats 40000000 in
set_option maxRecDepth 100000 in
theorem o_29l_6 (X : ip_X) (M : ip_H) (K : Option Value → ip_H → Prop) (m : Nat) (hm : m ≤ 60) (hs : M.2.1 6 4 = Int32.ofNat m) (hG : ip_G M) (Z : Prop) (h0 : K none M = Z) : ∀ (n k : Nat), k + n = m → (k_fp (M.2.1 7) m n k = none → ip_wp X 29 2 [.ref 6, .int (Int32.ofNat k)] [] M K = Z) ∧ ∀ j, k_fp (M.2.1 7) m n k = some j → ip_wp X 29 2 [.ref 6, .int (Int32.ofNat k)] [] M K = K none (ip_uI (ip_uI M 6 5 (Int32.ofNat j)) 6 6 (Int32.ofNat (m - j))) := by
  intro n
  induction n with
  | zero =>
    intro k hk
    have g : (Int32.ofNat k < Int32.ofNat m) = False := by rw [ip_nlt _ _ (by omega) (by omega)]; exact eq_false (by omega)
    refine ⟨fun _ => ?_, fun j hj => by cases hj⟩
    rw [← h0]
    simp (config := { maxSteps := 10000000, maxDischargeDepth := 30, decide := true }) only [w29_2, w29_3, w29_4, w29_7, w29_43, ↓ip_ka0, ↓ip_ki1, ↓reduceIte, gS_6 hG, hs, g]
  | succ n ih =>
    intro k hk
    have g : (Int32.ofNat k < Int32.ofNat m) = True := by rw [ip_nlt _ _ (by omega) (by omega)]; exact eq_true (by omega)
    have t := fun K => s_30_6 X M K k m (by omega) hm hs hG
    have ek : Int32.ofNat k + 1 = Int32.ofNat (k + 1) := ip_oa k 1
    have ed : Int32.ofNat m - Int32.ofNat k = Int32.ofNat (m - k) := by
      apply Int32.toInt_inj.mp
      rw [Int32.toInt_sub, ip_nt _ (by omega), ip_nt _ (by omega), ip_nt _ (by omega), Int.bmod_eq_of_le_mul_two (by omega) (by omega)]
      omega
    rw [k_fp]
    cases e : k_li (M.2.1 7) k m 10 0
    · rw [e] at t
      have st : ip_wp X 29 2 [.ref 6, .int (Int32.ofNat k)] [] M K = ip_wp X 29 2 [.ref 6, .int (Int32.ofNat (k + 1))] [] M K := by
        generalize hR : ip_wp X 29 2 [.ref 6, .int (Int32.ofNat (k + 1))] [] M K = Q
        simp (config := { maxSteps := 10000000, maxDischargeDepth := 30, decide := true }) only [w29_2, w29_3, w29_4, w29_7, w29_10, w29_11, w29_12, w29_15, w29_18, w29_37, ↓ip_ka0, ↓ip_ki1, ip_get_0, ip_set1, ip_clr_s, ip_cat_r, List.set_cons_zero, List.set_cons_succ, Option.toList_some, List.nil_append, List.cons_append, List.length_nil, ↓reduceIte, Nat.reduceEqDiff, Nat.zero_le, ip_b_f, gS_6 hG, hs, g, t, ek]
        rw [w29_40, hR]
      rw [st]
      simp only [Bool.false_eq_true, ↓reduceIte]
      exact ih (k + 1) (by omega)
    · rw [e] at t
      simp only [↓reduceIte]
      refine ⟨fun q => (by cases q), fun j hj => ?_⟩
      cases hj
      simp (config := { maxSteps := 10000000, maxDischargeDepth := 30, decide := true }) only [w29_2, w29_3, w29_4, w29_7, w29_10, w29_11, w29_12, w29_15, w29_21, w29_22, w29_23, w29_26, w29_27, w29_28, w29_31, w29_32, w29_33, w29_36, ↓ip_ka0, ↓ip_ki1, ip_uI_I, ip_uI_sh, Option.toList_some, List.nil_append, List.cons_append, List.length_nil, ↓reduceIte, Nat.zero_le, ip_b_t, gS_6 hG, hs, g, t, ed]

set_option maxHeartbeats 40000000 in
set_option maxRecDepth 100000 in
theorem o_29_6 (X : ip_X) (M : ip_H) (K : Option Value → ip_H → Prop) (m : Nat) (hm : m ≤ 60) (hs : M.2.1 6 4 = Int32.ofNat m) (hG : ip_G M) (h0 : k_fp (M.2.1 7) m m 0 = none → K none M) (h1 : ∀ j, k_fp (M.2.1 7) m m 0 = some j → K none (ip_uI (ip_uI M 6 5 (Int32.ofNat j)) 6 6 (Int32.ofNat (m - j)))) : ip_wp X 29 0 [.ref 6, .retAddr 1] [] M K := by
  have t : ip_wp X 29 0 [.ref 6, .retAddr 1] [] M K = ip_wp X 29 2 [.ref 6, .int (Int32.ofNat 0)] [] M K := by
    simp (config := { maxSteps := 10000000, maxDischargeDepth := 30, decide := true }) only [w29_0, w29_1, ip_set1, ip_clr_s, List.set_cons_zero, List.set_cons_succ, ↓reduceIte, Int32.reduceOfNat]
  have h := o_29l_6 X M K m hm hs hG _ rfl m 0 (Nat.zero_add m)
  refine Eq.mpr t ?_
  cases e : k_fp (M.2.1 7) m m 0
  · exact Eq.mpr (h.1 e) (h0 e)
  · rename_i j
    exact Eq.mpr (h.2 j e) (h1 j e)

/-- a STEP done, but for the PERIOD -/
def k_tk6 (M : ip_H) (k : Nat) (t : Bool) (y z : Int × Int × Int × Int) : ip_H := (ip_cpL (ip_uI (k_sv (ip_uI (k_sv (ip_uI (ip_uI M 6 4 (Int32.ofNat (k + 1))) 8 (k + 1) (ip_b t)) 7 (10 * (k + 1)) y) 7 (10 * (k + 1) + 4) (M.2.1 6 12)) 7 (10 * (k + 1) + 5) z) 7 (10 * (k + 1) + 9) (M.2.1 6 13)) 12 10 0 0 9)
set_option maxHeartbeats 40000000 in
set_option maxRecDepth 100000 in
theorem o_27_6 (X : ip_X) (M : ip_H) (K : Option Value → ip_H → Prop) (k : Nat) (hk : k < 60) (hs : M.2.1 6 4 = Int32.ofNat k) (t : Bool) (ht : M.2.1 6 14 = ip_b t) (y z : Int × Int × Int × Int) (hy : cv M 15 y) (hz : cv M 16 z) (hG : ip_G M)
  (h0 : M.2.1 6 5 ≠ -1 → K none (k_tk6 M k t y z)) (h1 : M.2.1 6 5 = -1 → k_fp ((k_tk6 M k t y z).2.1 7) (k + 1) (k + 1) 0 = none → K none (k_tk6 M k t y z))
  (h2 : M.2.1 6 5 = -1 → ∀ j, k_fp ((k_tk6 M k t y z).2.1 7) (k + 1) (k + 1) 0 = some j → K none (ip_uI (ip_uI (k_tk6 M k t y z) 6 5 (Int32.ofNat j)) 6 6 (Int32.ofNat (k + 1 - j)))) : ip_wp X 27 0 [.ref 6] [] M K := by
  have g : (Int32.ofNat k < 60) = True := by rw [show (60 : Int32) = Int32.ofNat 60 from rfl, ip_nlt _ _ (by omega) (by decide)]; exact eq_true hk
  have ek : Int32.ofNat k + 1 = Int32.ofNat (k + 1) := ip_oa k 1
  have n0 := eq_false (ip_nn (k + 1) (by omega))
  have c0 := ip_nc (k + 1) (by omega)
  have l0 : (k + 1 < 61) = True := eq_true (by omega)
  have hs2 : (ip_uI (ip_uI M 6 4 (Int32.ofNat (k + 1))) 8 (k + 1) (ip_b t)).2.1 6 4 = Int32.ofNat (k + 1) := by simp (decide := true) only [ip_uI_I, false_and, true_and, ↓reduceIte]
  have f12 : (ip_uI (ip_uI M 6 4 (Int32.ofNat (k + 1))) 8 (k + 1) (ip_b t)).2.1 6 12 = M.2.1 6 12 := by simp (decide := true) only [ip_uI_I, false_and, and_false, ↓reduceIte]
  have f13 : (ip_uI (ip_uI M 6 4 (Int32.ofNat (k + 1))) 8 (k + 1) (ip_b t)).2.1 6 13 = M.2.1 6 13 := by simp (decide := true) only [ip_uI_I, false_and, and_false, ↓reduceIte]
  have hG2 : ip_G (ip_uI (ip_uI M 6 4 (Int32.ofNat (k + 1))) 8 (k + 1) (ip_b t)) := hG
  have hy2 : cv (ip_uI (ip_uI M 6 4 (Int32.ofNat (k + 1))) 8 (k + 1) (ip_b t)) 15 y := hy
  have hz2 : cv (ip_uI (ip_uI M 6 4 (Int32.ofNat (k + 1))) 8 (k + 1) (ip_b t)) 16 z := hz
  have a1 := fun K => s_28_6 X (ip_uI (ip_uI M 6 4 (Int32.ofNat (k + 1))) 8 (k + 1) (ip_b t)) K (k + 1) (by omega) hs2 y z hy2 hz2 hG2
  rw [f12, f13] at a1
  have hG3 : ip_G (ip_uI (k_sv (ip_uI (k_sv (ip_uI (ip_uI M 6 4 (Int32.ofNat (k + 1))) 8 (k + 1) (ip_b t)) 7 (10 * (k + 1)) y) 7 (10 * (k + 1) + 4) (M.2.1 6 12)) 7 (10 * (k + 1) + 5) z) 7 (10 * (k + 1) + 9) (M.2.1 6 13)) := gG_uI _ _ _ _ (gG_sv _ _ _ _ (gG_uI _ _ _ _ (gG_sv _ _ _ _ (gG_uI _ _ _ _ (gG_uI _ _ _ _ hG)))))
  have a2 := fun K => s_65 X (ip_uI (k_sv (ip_uI (k_sv (ip_uI (ip_uI M 6 4 (Int32.ofNat (k + 1))) 8 (k + 1) (ip_b t)) 7 (10 * (k + 1)) y) 7 (10 * (k + 1) + 4) (M.2.1 6 12)) 7 (10 * (k + 1) + 5) z) 7 (10 * (k + 1) + 9) (M.2.1 6 13)) K 9 10 11 12 (gS_9 hG3) (gR_9_0 hG3) (gS_10 hG3) (gS_11 hG3) (gR_11_0 hG3) (gS_12 hG3)
  have hG4 : ip_G (k_tk6 M k t y z) := gG_cpL _ _ _ _ _ _ (gG_uI _ _ _ _ (gG_sv _ _ _ _ (gG_uI _ _ _ _ (gG_sv _ _ _ _ (gG_uI _ _ _ _ (gG_uI _ _ _ _ hG))))))
  have e4 : (ip_cpL (ip_uI (k_sv (ip_uI (k_sv (ip_uI (ip_uI M 6 4 (Int32.ofNat (k + 1))) 8 (k + 1) (ip_b t)) 7 (10 * (k + 1)) y) 7 (10 * (k + 1) + 4) (M.2.1 6 12)) 7 (10 * (k + 1) + 5) z) 7 (10 * (k + 1) + 9) (M.2.1 6 13)) 12 10 0 0 9) = k_tk6 M k t y z := rfl
  rw [e4] at a2
  have e5 : (k_tk6 M k t y z).2.1 6 5 = M.2.1 6 5 := by
    rw [← e4]
    simp (decide := true) only [ip_cpL_I, ip_uI_I, k_sv_I, false_and, and_false, ↓reduceIte]
  have es : (k_tk6 M k t y z).2.1 6 4 = Int32.ofNat (k + 1) := by
    rw [← e4]
    simp (decide := true) only [ip_cpL_I, ip_uI_I, k_sv_I, false_and, and_false, true_and, ↓reduceIte]
  clear e4 hs2 f12 f13 hy2 hz2
  have pre : ip_wp X 27 0 [.ref 6] [] M K = ip_wp X 27 57 [.ref 6] [] (k_tk6 M k t y z) K := by
    have z80 : (Int32.toInt8 0).toInt32.toInt8.toInt32 = 0 := by decide
    have z81 : (Int32.toInt8 1).toInt32.toInt8.toInt32 = 1 := by decide
    cases t
    · simp only [ip_b_f] at a1 a2
      simp (config := { maxSteps := 10000000, maxDischargeDepth := 30, decide := true }) only [w27_0, w27_1, w27_4, w27_6, w27_10, w27_11_r, w27_12, w27_15, w27_16, w27_17, w27_20, w27_21, w27_24, w27_25, w27_28, w27_29, w27_32, w27_35, w27_36, w27_39, w27_40, w27_41, w27_42, w27_43, w27_46, w27_47, w27_50, w27_51, w27_54, ↓ip_ka0, ip_uI_I, ip_uI_R, ip_uI_sh, ip_vr_some, Option.toList_none, List.nil_append, List.length_nil, ↓reduceIte, Nat.reduceEqDiff, Nat.zero_le, or_false, and_self, not_false_eq_true, ip_b_f, ip_ix_eq, gS_6 hG, gS_8 hG, gR_6_1 hG, gR_6_2 hG, gR_6_7 hG, gS_11 hG, gS_12 hG, gS_9 hG, gS_10 hG, gR_11_0 hG, gR_9_0 hG, hs, ht, g, ek, n0, c0, l0, a1, a2, z80, z81, k_sv_sh, k_sv_R, gG_sv]
    · simp only [ip_b_t] at a1 a2
      simp (config := { maxSteps := 10000000, maxDischargeDepth := 30, decide := true }) only [w27_0, w27_1, w27_4, w27_6, w27_10, w27_11_r, w27_12, w27_15, w27_16, w27_17, w27_20, w27_21, w27_24, w27_25, w27_28, w27_29, w27_32, w27_35, w27_36, w27_39, w27_40, w27_41, w27_42, w27_43, w27_46, w27_47, w27_50, w27_51, w27_54, ↓ip_ka0, ip_uI_I, ip_uI_R, ip_uI_sh, ip_vr_some, Option.toList_none, List.nil_append, List.length_nil, ↓reduceIte, Nat.reduceEqDiff, Nat.zero_le, or_false, and_self, not_false_eq_true, ip_b_t, ip_ix_eq, gS_6 hG, gS_8 hG, gR_6_1 hG, gR_6_2 hG, gR_6_7 hG, gS_11 hG, gS_12 hG, gS_9 hG, gS_10 hG, gR_11_0 hG, gR_9_0 hG, hs, ht, g, ek, n0, c0, l0, a1, a2, z80, z81, k_sv_sh, k_sv_R, gG_sv]
  refine Eq.mpr pre ?_
  by_cases h5 : M.2.1 6 5 = -1
  · have t57 : ip_wp X 27 57 [.ref 6] [] (k_tk6 M k t y z) K = ip_wp X 29 0 [.ref 6, .retAddr 1] [] (k_tk6 M k t y z) (fun r M1 => ip_wp X 27 69 [.ref 6] (r.toList ++ []) M1 K) := by
      have e6 := e5.trans h5
      simp (config := { maxSteps := 10000000, maxDischargeDepth := 30, decide := true }) only [w27_57, w27_58, w27_61, w27_62, w27_65, w27_66, ↓ip_ka0, List.length_nil, ↓reduceIte, Nat.zero_le, gS_6 hG4, gS_7 hG4, gS_8 hG4, gS_13 hG4, gS_14 hG4, gS_15 hG4, gS_16 hG4, gS_1 hG4, gR_6_0 hG4, gR_6_1 hG4, gR_6_2 hG4, gR_6_7 hG4, gR_6_8 hG4, gR_6_9 hG4, gR_6_10 hG4, gR_6_11 hG4, hG4, e6]
    refine Eq.mpr t57 ?_
    refine o_29_6 X _ _ (k + 1) (by omega) es hG4 (fun e => ?_) (fun j e => ?_)
    · have h := h1 h5 e
      simp (config := { maxSteps := 10000000, maxDischargeDepth := 30, decide := true }) only [w27_69, Option.toList_none, List.nil_append]
      exact h
    · have h := h2 h5 j e
      simp (config := { maxSteps := 10000000, maxDischargeDepth := 30, decide := true }) only [w27_69, Option.toList_none, List.nil_append]
      exact h
  · have h := h0 h5
    have e6 : ¬ (k_tk6 M k t y z).2.1 6 5 = -1 := by rw [e5]; exact h5
    simp (config := { maxSteps := 10000000, maxDischargeDepth := 30, decide := true }) only [w27_57, w27_58, w27_61, w27_62, w27_69, ↓ip_ka0, ↓reduceIte, gS_6 hG4, gS_7 hG4, gS_8 hG4, gS_13 hG4, gS_14 hG4, gS_15 hG4, gS_16 hG4, gS_1 hG4, gR_6_0 hG4, gR_6_1 hG4, gR_6_2 hG4, gR_6_7 hG4, gR_6_8 hG4, gR_6_9 hG4, gR_6_10 hG4, gR_6_11 hG4, hG4, e6]
    exact h
end
