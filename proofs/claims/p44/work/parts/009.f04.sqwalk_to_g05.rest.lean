noncomputable section
-- PART c13yf04.sqwalk
-- equations of the instructions, by program counter
theorem ip_a64 (pc : Nat) : ip_at 64 pc = ip_c64.lookup pc := rfl
theorem w64_0 (X : ip_X) (ls st : List Value) (M : ip_H) (K : Option Value → ip_H → Prop) : ip_wp X 64 0 ls st M K = ip_ka (ip_get ls 0) (fun x => ip_wp X 64 1 ls (x :: st) M K) := wp_aload_n ((ip_a64 0).trans rfl)
theorem w64_1 (X : ip_X) (ls st : List Value) (M : ip_H) (K : Option Value → ip_H → Prop) : ip_wp X 64 1 ls st M K = ip_wp X 64 2 ls (.int 0 :: st) M K := wp_iconst ((ip_a64 1).trans rfl)
theorem w64_2 (X : ip_X) (ls st : List Value) (M : ip_H) (K : Option Value → ip_H → Prop) : ip_wp X 64 2 ls st M K = ip_wp X 64 3 ls (.long 1 :: st) M K := wp_lconst ((ip_a64 2).trans rfl)
theorem w64_3 (X : ip_X) (ls st : List Value) (M : ip_H) (K : Option Value → ip_H → Prop) : ip_wp X 64 3 ls st M K = ip_wp X 64 4 ls (.long 0 :: st) M K := wp_lconst ((ip_a64 3).trans rfl)
theorem w64_4 (X : ip_X) (ls st : List Value) (M : ip_H) (K : Option Value → ip_H → Prop) : ip_wp X 64 4 ls st M K = ip_wp X 64 5 ls (.long 0 :: st) M K := wp_lconst ((ip_a64 4).trans rfl)
theorem w64_5 (X : ip_X) (ls st : List Value) (M : ip_H) (K : Option Value → ip_H → Prop) (k : Nat) (x0 : Int32) (x1 : Int64) (x2 : Int64) (x3 : Int64) (h0 : st.length ≤ 4) (h1 : (ip_sh M k).1 = 0) (h2 : (ip_sh M k).2.1 = 4) : ip_wp X 64 5 ls (.long x3 :: .long x2 :: .long x1 :: .int x0 :: .ref k :: st) M K = ip_wp X 63 0 [.ref k, .int x0, .long x1, .retAddr 1, .long x2, .retAddr 1, .long x3, .retAddr 1] [] M (fun r M1 => ip_wp X 64 8 ls (r.toList ++ st) M1 K) := (wp_callV1_5 ((ip_a64 5).trans rfl) ⟨h0, by exact Nat.le_of_ble_eq_true rfl, h1, h2⟩)
theorem w64_8 (X : ip_X) (ls st : List Value) (M : ip_H) (K : Option Value → ip_H → Prop) : ip_wp X 64 8 ls st M K = ip_ka (ip_get ls 0) (fun x => ip_wp X 64 9 ls (x :: st) M K) := wp_aload_n ((ip_a64 8).trans rfl)
theorem w64_9 (X : ip_X) (ls st : List Value) (M : ip_H) (K : Option Value → ip_H → Prop) : ip_wp X 64 9 ls st M K = ip_wp X 64 10 ls (.int 1 :: st) M K := wp_iconst ((ip_a64 9).trans rfl)
theorem w64_10 (X : ip_X) (ls st : List Value) (M : ip_H) (K : Option Value → ip_H → Prop) : ip_wp X 64 10 ls st M K = ip_wp X 64 11 ls (.long 0 :: st) M K := wp_lconst ((ip_a64 10).trans rfl)
theorem w64_11 (X : ip_X) (ls st : List Value) (M : ip_H) (K : Option Value → ip_H → Prop) : ip_wp X 64 11 ls st M K = ip_wp X 64 12 ls (.long 1 :: st) M K := wp_lconst ((ip_a64 11).trans rfl)
theorem w64_12 (X : ip_X) (ls st : List Value) (M : ip_H) (K : Option Value → ip_H → Prop) : ip_wp X 64 12 ls st M K = ip_wp X 64 13 ls (.long 0 :: st) M K := wp_lconst ((ip_a64 12).trans rfl)
theorem w64_13 (X : ip_X) (ls st : List Value) (M : ip_H) (K : Option Value → ip_H → Prop) (k : Nat) (x0 : Int32) (x1 : Int64) (x2 : Int64) (x3 : Int64) (h0 : st.length ≤ 4) (h1 : (ip_sh M k).1 = 0) (h2 : (ip_sh M k).2.1 = 4) : ip_wp X 64 13 ls (.long x3 :: .long x2 :: .long x1 :: .int x0 :: .ref k :: st) M K = ip_wp X 63 0 [.ref k, .int x0, .long x1, .retAddr 1, .long x2, .retAddr 1, .long x3, .retAddr 1] [] M (fun r M1 => ip_wp X 64 16 ls (r.toList ++ st) M1 K) := (wp_callV1_5 ((ip_a64 13).trans rfl) ⟨h0, by exact Nat.le_of_ble_eq_true rfl, h1, h2⟩)
theorem w64_16 (X : ip_X) (ls st : List Value) (M : ip_H) (K : Option Value → ip_H → Prop) : ip_wp X 64 16 ls st M K = ip_ka (ip_get ls 0) (fun x => ip_wp X 64 17 ls (x :: st) M K) := wp_aload_n ((ip_a64 16).trans rfl)
theorem w64_17 (X : ip_X) (ls st : List Value) (M : ip_H) (K : Option Value → ip_H → Prop) : ip_wp X 64 17 ls st M K = ip_wp X 64 18 ls (.int 2 :: st) M K := wp_iconst ((ip_a64 17).trans rfl)
theorem w64_18 (X : ip_X) (ls st : List Value) (M : ip_H) (K : Option Value → ip_H → Prop) : ip_wp X 64 18 ls st M K = ip_wp X 64 19 ls (.long 0 :: st) M K := wp_lconst ((ip_a64 18).trans rfl)
theorem w64_19 (X : ip_X) (ls st : List Value) (M : ip_H) (K : Option Value → ip_H → Prop) : ip_wp X 64 19 ls st M K = ip_wp X 64 20 ls (.long 0 :: st) M K := wp_lconst ((ip_a64 19).trans rfl)
theorem w64_20 (X : ip_X) (ls st : List Value) (M : ip_H) (K : Option Value → ip_H → Prop) : ip_wp X 64 20 ls st M K = ip_wp X 64 21 ls (.long 1 :: st) M K := wp_lconst ((ip_a64 20).trans rfl)
theorem w64_21 (X : ip_X) (ls st : List Value) (M : ip_H) (K : Option Value → ip_H → Prop) (k : Nat) (x0 : Int32) (x1 : Int64) (x2 : Int64) (x3 : Int64) (h0 : st.length ≤ 4) (h1 : (ip_sh M k).1 = 0) (h2 : (ip_sh M k).2.1 = 4) : ip_wp X 64 21 ls (.long x3 :: .long x2 :: .long x1 :: .int x0 :: .ref k :: st) M K = ip_wp X 63 0 [.ref k, .int x0, .long x1, .retAddr 1, .long x2, .retAddr 1, .long x3, .retAddr 1] [] M (fun r M1 => ip_wp X 64 24 ls (r.toList ++ st) M1 K) := (wp_callV1_5 ((ip_a64 21).trans rfl) ⟨h0, by exact Nat.le_of_ble_eq_true rfl, h1, h2⟩)
theorem w64_24 (X : ip_X) (ls : List Value) (M : ip_H) (K : Option Value → ip_H → Prop) : ip_wp X 64 24 ls [] M K = K none M := wp_vret ((ip_a64 24).trans rfl)
theorem ip_a65 (pc : Nat) : ip_at 65 pc = ip_c65.lookup pc := rfl
theorem w65_0 (X : ip_X) (ls st : List Value) (M : ip_H) (K : Option Value → ip_H → Prop) : ip_wp X 65 0 ls st M K = ip_ka (ip_get ls 1) (fun x => ip_wp X 65 1 ls (x :: st) M K) := wp_aload_n ((ip_a65 0).trans rfl)
theorem w65_1 (X : ip_X) (ls st : List Value) (M : ip_H) (K : Option Value → ip_H → Prop) (k : Nat) (h0 : (ip_sh M k).1 = 0) (h1 : (ip_sh M k).2.1 = 4) : ip_wp X 65 1 ls (.ref k :: st) M K = ip_wp X 65 4 ls (ip_vr (M.2.2.2 k 0) :: st) M K := (wp_getR ((ip_a65 1).trans rfl)).trans (if_pos ⟨h0, h1⟩)
theorem w65_4 (X : ip_X) (ls st : List Value) (M : ip_H) (K : Option Value → ip_H → Prop) : ip_wp X 65 4 ls st M K = ip_wp X 65 5 ls (.int 0 :: st) M K := wp_iconst ((ip_a65 4).trans rfl)
theorem w65_5 (X : ip_X) (ls st : List Value) (M : ip_H) (K : Option Value → ip_H → Prop) : ip_wp X 65 5 ls st M K = ip_ka (ip_get ls 0) (fun x => ip_wp X 65 6 ls (x :: st) M K) := wp_aload_n ((ip_a65 5).trans rfl)
theorem w65_6 (X : ip_X) (ls st : List Value) (M : ip_H) (K : Option Value → ip_H → Prop) (k : Nat) (h0 : (ip_sh M k).1 = 0) (h1 : (ip_sh M k).2.1 = 4) : ip_wp X 65 6 ls (.ref k :: st) M K = ip_wp X 65 9 ls (ip_vr (M.2.2.2 k 0) :: st) M K := (wp_getR ((ip_a65 6).trans rfl)).trans (if_pos ⟨h0, h1⟩)
theorem w65_9 (X : ip_X) (ls st : List Value) (M : ip_H) (K : Option Value → ip_H → Prop) : ip_wp X 65 9 ls st M K = ip_wp X 65 10 ls (.int 0 :: st) M K := wp_iconst ((ip_a65 9).trans rfl)
theorem w65_10 (X : ip_X) (ls st : List Value) (M : ip_H) (K : Option Value → ip_H → Prop) : ip_wp X 65 10 ls st M K = ip_wp X 65 12 ls (.int 9 :: st) M K := wp_bipush ((ip_a65 10).trans rfl)
theorem w65_12 (X : ip_X) (ls st : List Value) (M : ip_H) (K : Option Value → ip_H → Prop) (n dp sp : Int32) (k0 k1 : Nat) (h0 : st.length ≤ 4) (h1 : (ip_sh M k0).1 = 1 ∧ (ip_sh M k1).1 = 1 ∧ (ip_sh M k0).2.1 = (ip_sh M k1).2.1 ∧ (ip_sh M k0).2.1 < 3) (h2 : ¬ sp < 0 ∧ ¬ dp < 0 ∧ ¬ n < 0 ∧ sp.toNatClampNeg + n.toNatClampNeg ≤ (ip_sh M k0).2.2 ∧ dp.toNatClampNeg + n.toNatClampNeg ≤ (ip_sh M k1).2.2) (h3 : (ip_sh M k0).2.1 < 2 ∨ ∀ i, i < n.toNatClampNeg → fits .byte (.int (M.2.1 k0 (sp.toNatClampNeg + i))) = true) : ip_wp X 65 12 ls (.int n :: .int dp :: .ref k1 :: .int sp :: .ref k0 :: st) M K = ip_wp X 65 15 ls st (if (ip_sh M k0).2.1 = 1 then ip_cpL M k0 k1 sp.toNatClampNeg dp.toNatClampNeg n.toNatClampNeg else ip_cpI M k0 k1 sp.toNatClampNeg dp.toNatClampNeg n.toNatClampNeg) K := wp_copy ((ip_a65 12).trans rfl) h0 h1 h2 h3
theorem w65_15 (X : ip_X) (ls : List Value) (M : ip_H) (K : Option Value → ip_H → Prop) : ip_wp X 65 15 ls [] M K = K none M := wp_vret ((ip_a65 15).trans rfl)
theorem ip_a66 (pc : Nat) : ip_at 66 pc = ip_c66.lookup pc := rfl
theorem ip_s66 : lk_s 0 ip_c66 = true := by decide +kernel
theorem ip_l66_0 : ip_d66_0.length = 24 := rfl
theorem ip_l66_1 : ip_d66_1.length = 24 := rfl
theorem ip_f66_0 {k pc : Nat} {e : ip_E} (h : ip_d66_0[k]? = some (pc, e)) : ip_c66.lookup pc = some e := lk_of ip_s66 (lk_apl h)
theorem ip_f66_1 {k pc : Nat} {e : ip_E} (h : ip_d66_1[k]? = some (pc, e)) : ip_c66.lookup pc = some e := lk_of ip_s66 (lk_app ip_l66_0 (lk_apl h))
theorem ip_f66_2 {k pc : Nat} {e : ip_E} (h : ip_d66_2[k]? = some (pc, e)) : ip_c66.lookup pc = some e := lk_of ip_s66 (lk_app ip_l66_0 (lk_app ip_l66_1 h))
theorem w66_0 (X : ip_X) (ls st : List Value) (M : ip_H) (K : Option Value → ip_H → Prop) : ip_wp X 66 0 ls st M K = ip_wp X 66 1 ls (.int 0 :: st) M K := wp_iconst ((ip_a66 0).trans (ip_f66_0 (k := 0) rfl))
theorem w66_1 (X : ip_X) (ls st : List Value) (M : ip_H) (K : Option Value → ip_H → Prop) (x : Int32) : ip_wp X 66 1 ls (.int x :: st) M K = ip_wp X 66 3 (ip_set1 ls 4 (.int x)) st M K := wp_istore ((ip_a66 1).trans (ip_f66_0 (k := 1) rfl))
theorem w66_3 (X : ip_X) (ls st : List Value) (M : ip_H) (K : Option Value → ip_H → Prop) : ip_wp X 66 3 ls st M K = ip_ki (ip_get ls 4) (fun x => ip_wp X 66 5 ls (.int x :: st) M K) := wp_iload ((ip_a66 3).trans (ip_f66_0 (k := 2) rfl))
theorem w66_5 (X : ip_X) (ls st : List Value) (M : ip_H) (K : Option Value → ip_H → Prop) : ip_wp X 66 5 ls st M K = ip_wp X 66 7 ls (.int 9 :: st) M K := wp_bipush ((ip_a66 5).trans (ip_f66_0 (k := 3) rfl))
theorem w66_7 (X : ip_X) (ls st : List Value) (M : ip_H) (K : Option Value → ip_H → Prop) (x q : Int32) : ip_wp X 66 7 ls (.int q :: .int x :: st) M K = if x < q then ip_wp X 66 10 ls st M K else ip_wp X 66 114 ls st M K := wp_if_icmp_ge ((ip_a66 7).trans (ip_f66_0 (k := 4) rfl))
theorem w66_10 (X : ip_X) (ls st : List Value) (M : ip_H) (K : Option Value → ip_H → Prop) : ip_wp X 66 10 ls st M K = ip_ka (ip_get ls 0) (fun x => ip_wp X 66 11 ls (x :: st) M K) := wp_aload_n ((ip_a66 10).trans (ip_f66_0 (k := 5) rfl))
theorem w66_11 (X : ip_X) (ls st : List Value) (M : ip_H) (K : Option Value → ip_H → Prop) (k : Nat) (h0 : (ip_sh M k).1 = 0) (h1 : (ip_sh M k).2.1 = 4) : ip_wp X 66 11 ls (.ref k :: st) M K = ip_wp X 66 14 ls (ip_vr (M.2.2.2 k 0) :: st) M K := (wp_getR ((ip_a66 11).trans (ip_f66_0 (k := 6) rfl))).trans (if_pos ⟨h0, h1⟩)
theorem w66_14 (X : ip_X) (ls st : List Value) (M : ip_H) (K : Option Value → ip_H → Prop) : ip_wp X 66 14 ls st M K = ip_ki (ip_get ls 4) (fun x => ip_wp X 66 16 ls (.int x :: st) M K) := wp_iload ((ip_a66 14).trans (ip_f66_0 (k := 7) rfl))
theorem w66_16 (X : ip_X) (ls st : List Value) (M : ip_H) (K : Option Value → ip_H → Prop) (i : Int32) (k : Nat) (h0 : (ip_sh M k).1 = 1) (h1 : (ip_sh M k).2.1 = 1) (h2 : ip_ix i (ip_sh M k).2.2 = true) : ip_wp X 66 16 ls (.int i :: .ref k :: st) M K = ip_wp X 66 17 ls (.long (M.2.2.1 k i.toNatClampNeg) :: st) M K := (wp_laload ((ip_a66 16).trans (ip_f66_0 (k := 8) rfl))).trans (if_pos ⟨h0, h1, h2⟩)
theorem w66_17 (X : ip_X) (ls st : List Value) (M : ip_H) (K : Option Value → ip_H → Prop) (x : Int64) : ip_wp X 66 17 ls (.long x :: st) M K = ip_wp X 66 19 (ip_set2 ls 5 (.long x)) st M K := wp_lstore ((ip_a66 17).trans (ip_f66_0 (k := 9) rfl))
theorem w66_19 (X : ip_X) (ls st : List Value) (M : ip_H) (K : Option Value → ip_H → Prop) : ip_wp X 66 19 ls st M K = ip_ka (ip_get ls 0) (fun x => ip_wp X 66 20 ls (x :: st) M K) := wp_aload_n ((ip_a66 19).trans (ip_f66_0 (k := 10) rfl))
theorem w66_20 (X : ip_X) (ls st : List Value) (M : ip_H) (K : Option Value → ip_H → Prop) (k : Nat) (h0 : (ip_sh M k).1 = 0) (h1 : (ip_sh M k).2.1 = 4) : ip_wp X 66 20 ls (.ref k :: st) M K = ip_wp X 66 23 ls (ip_vr (M.2.2.2 k 0) :: st) M K := (wp_getR ((ip_a66 20).trans (ip_f66_0 (k := 11) rfl))).trans (if_pos ⟨h0, h1⟩)
theorem w66_23 (X : ip_X) (ls st : List Value) (M : ip_H) (K : Option Value → ip_H → Prop) : ip_wp X 66 23 ls st M K = ip_ki (ip_get ls 4) (fun x => ip_wp X 66 25 ls (.int x :: st) M K) := wp_iload ((ip_a66 23).trans (ip_f66_0 (k := 12) rfl))
theorem w66_25 (X : ip_X) (ls st : List Value) (M : ip_H) (K : Option Value → ip_H → Prop) : ip_wp X 66 25 ls st M K = ip_wp X 66 26 ls (.int 1 :: st) M K := wp_iconst ((ip_a66 25).trans (ip_f66_0 (k := 13) rfl))
theorem w66_26 (X : ip_X) (ls st : List Value) (M : ip_H) (K : Option Value → ip_H → Prop) (x q : Int32) : ip_wp X 66 26 ls (.int q :: .int x :: st) M K = ip_wp X 66 27 ls (.int (x + q) :: st) M K := wp_iadd ((ip_a66 26).trans (ip_f66_0 (k := 14) rfl))
theorem w66_27 (X : ip_X) (ls st : List Value) (M : ip_H) (K : Option Value → ip_H → Prop) (i : Int32) (k : Nat) (h0 : (ip_sh M k).1 = 1) (h1 : (ip_sh M k).2.1 = 1) (h2 : ip_ix i (ip_sh M k).2.2 = true) : ip_wp X 66 27 ls (.int i :: .ref k :: st) M K = ip_wp X 66 28 ls (.long (M.2.2.1 k i.toNatClampNeg) :: st) M K := (wp_laload ((ip_a66 27).trans (ip_f66_0 (k := 15) rfl))).trans (if_pos ⟨h0, h1, h2⟩)
theorem w66_28 (X : ip_X) (ls st : List Value) (M : ip_H) (K : Option Value → ip_H → Prop) (x : Int64) : ip_wp X 66 28 ls (.long x :: st) M K = ip_wp X 66 30 (ip_set2 ls 7 (.long x)) st M K := wp_lstore ((ip_a66 28).trans (ip_f66_0 (k := 16) rfl))
theorem w66_30 (X : ip_X) (ls st : List Value) (M : ip_H) (K : Option Value → ip_H → Prop) : ip_wp X 66 30 ls st M K = ip_ka (ip_get ls 0) (fun x => ip_wp X 66 31 ls (x :: st) M K) := wp_aload_n ((ip_a66 30).trans (ip_f66_0 (k := 17) rfl))
theorem w66_31 (X : ip_X) (ls st : List Value) (M : ip_H) (K : Option Value → ip_H → Prop) (k : Nat) (h0 : (ip_sh M k).1 = 0) (h1 : (ip_sh M k).2.1 = 4) : ip_wp X 66 31 ls (.ref k :: st) M K = ip_wp X 66 34 ls (ip_vr (M.2.2.2 k 0) :: st) M K := (wp_getR ((ip_a66 31).trans (ip_f66_0 (k := 18) rfl))).trans (if_pos ⟨h0, h1⟩)
theorem w66_34 (X : ip_X) (ls st : List Value) (M : ip_H) (K : Option Value → ip_H → Prop) : ip_wp X 66 34 ls st M K = ip_ki (ip_get ls 4) (fun x => ip_wp X 66 36 ls (.int x :: st) M K) := wp_iload ((ip_a66 34).trans (ip_f66_0 (k := 19) rfl))
theorem w66_36 (X : ip_X) (ls st : List Value) (M : ip_H) (K : Option Value → ip_H → Prop) : ip_wp X 66 36 ls st M K = ip_wp X 66 37 ls (.int 2 :: st) M K := wp_iconst ((ip_a66 36).trans (ip_f66_0 (k := 20) rfl))
theorem w66_37 (X : ip_X) (ls st : List Value) (M : ip_H) (K : Option Value → ip_H → Prop) (x q : Int32) : ip_wp X 66 37 ls (.int q :: .int x :: st) M K = ip_wp X 66 38 ls (.int (x + q) :: st) M K := wp_iadd ((ip_a66 37).trans (ip_f66_0 (k := 21) rfl))
theorem w66_38 (X : ip_X) (ls st : List Value) (M : ip_H) (K : Option Value → ip_H → Prop) (i : Int32) (k : Nat) (h0 : (ip_sh M k).1 = 1) (h1 : (ip_sh M k).2.1 = 1) (h2 : ip_ix i (ip_sh M k).2.2 = true) : ip_wp X 66 38 ls (.int i :: .ref k :: st) M K = ip_wp X 66 39 ls (.long (M.2.2.1 k i.toNatClampNeg) :: st) M K := (wp_laload ((ip_a66 38).trans (ip_f66_0 (k := 22) rfl))).trans (if_pos ⟨h0, h1, h2⟩)
theorem w66_39 (X : ip_X) (ls st : List Value) (M : ip_H) (K : Option Value → ip_H → Prop) (x : Int64) : ip_wp X 66 39 ls (.long x :: st) M K = ip_wp X 66 41 (ip_set2 ls 9 (.long x)) st M K := wp_lstore ((ip_a66 39).trans (ip_f66_0 (k := 23) rfl))
theorem w66_41 (X : ip_X) (ls st : List Value) (M : ip_H) (K : Option Value → ip_H → Prop) : ip_wp X 66 41 ls st M K = ip_ka (ip_get ls 0) (fun x => ip_wp X 66 42 ls (x :: st) M K) := wp_aload_n ((ip_a66 41).trans (ip_f66_1 (k := 0) rfl))
theorem w66_42 (X : ip_X) (ls st : List Value) (M : ip_H) (K : Option Value → ip_H → Prop) (k : Nat) (h0 : (ip_sh M k).1 = 0) (h1 : (ip_sh M k).2.1 = 4) : ip_wp X 66 42 ls (.ref k :: st) M K = ip_wp X 66 45 ls (ip_vr (M.2.2.2 k 0) :: st) M K := (wp_getR ((ip_a66 42).trans (ip_f66_1 (k := 1) rfl))).trans (if_pos ⟨h0, h1⟩)
theorem w66_45 (X : ip_X) (ls st : List Value) (M : ip_H) (K : Option Value → ip_H → Prop) : ip_wp X 66 45 ls st M K = ip_ki (ip_get ls 4) (fun x => ip_wp X 66 47 ls (.int x :: st) M K) := wp_iload ((ip_a66 45).trans (ip_f66_1 (k := 2) rfl))
theorem w66_47 (X : ip_X) (ls st : List Value) (M : ip_H) (K : Option Value → ip_H → Prop) : ip_wp X 66 47 ls st M K = ip_ki (ip_get ls 3) (fun x => ip_wp X 66 48 ls (.int x :: st) M K) := wp_iload_n ((ip_a66 47).trans (ip_f66_1 (k := 3) rfl))
theorem w66_48 (X : ip_X) (ls st : List Value) (M : ip_H) (K : Option Value → ip_H → Prop) (x : Int32) : ip_wp X 66 48 ls (.int x :: st) M K = if x = 0 then ip_wp X 66 56 ls st M K else ip_wp X 66 51 ls st M K := wp_ifCond_eq ((ip_a66 48).trans (ip_f66_1 (k := 4) rfl))
theorem w66_51 (X : ip_X) (ls st : List Value) (M : ip_H) (K : Option Value → ip_H → Prop) : ip_wp X 66 51 ls st M K = ip_kl (ip_get ls 9) (fun x => ip_wp X 66 53 ls (.long x :: st) M K) := wp_lload ((ip_a66 51).trans (ip_f66_1 (k := 5) rfl))
theorem w66_53 (X : ip_X) (ls st : List Value) (M : ip_H) (K : Option Value → ip_H → Prop) : ip_wp X 66 53 ls st M K = ip_wp X 66 58 ls st M K := wp_goto ((ip_a66 53).trans (ip_f66_1 (k := 6) rfl))
theorem w66_56 (X : ip_X) (ls st : List Value) (M : ip_H) (K : Option Value → ip_H → Prop) : ip_wp X 66 56 ls st M K = ip_kl (ip_get ls 7) (fun x => ip_wp X 66 58 ls (.long x :: st) M K) := wp_lload ((ip_a66 56).trans (ip_f66_1 (k := 7) rfl))
theorem w66_58 (X : ip_X) (ls st : List Value) (M : ip_H) (K : Option Value → ip_H → Prop) (i : Int32) (x : Int64) (k : Nat) (h0 : (ip_sh M k).1 = 1) (h1 : (ip_sh M k).2.1 = 1) (h2 : ip_ix i (ip_sh M k).2.2 = true) : ip_wp X 66 58 ls (.long x :: .int i :: .ref k :: st) M K = ip_wp X 66 59 ls st (ip_uL M k i.toNatClampNeg x) K := (wp_lastore ((ip_a66 58).trans (ip_f66_1 (k := 8) rfl))).trans (if_pos ⟨h0, h1, h2⟩)
theorem w66_59 (X : ip_X) (ls st : List Value) (M : ip_H) (K : Option Value → ip_H → Prop) : ip_wp X 66 59 ls st M K = ip_ka (ip_get ls 0) (fun x => ip_wp X 66 60 ls (x :: st) M K) := wp_aload_n ((ip_a66 59).trans (ip_f66_1 (k := 9) rfl))
theorem w66_60 (X : ip_X) (ls st : List Value) (M : ip_H) (K : Option Value → ip_H → Prop) (k : Nat) (h0 : (ip_sh M k).1 = 0) (h1 : (ip_sh M k).2.1 = 4) : ip_wp X 66 60 ls (.ref k :: st) M K = ip_wp X 66 63 ls (ip_vr (M.2.2.2 k 0) :: st) M K := (wp_getR ((ip_a66 60).trans (ip_f66_1 (k := 10) rfl))).trans (if_pos ⟨h0, h1⟩)
theorem w66_63 (X : ip_X) (ls st : List Value) (M : ip_H) (K : Option Value → ip_H → Prop) : ip_wp X 66 63 ls st M K = ip_ki (ip_get ls 4) (fun x => ip_wp X 66 65 ls (.int x :: st) M K) := wp_iload ((ip_a66 63).trans (ip_f66_1 (k := 11) rfl))
theorem w66_65 (X : ip_X) (ls st : List Value) (M : ip_H) (K : Option Value → ip_H → Prop) : ip_wp X 66 65 ls st M K = ip_wp X 66 66 ls (.int 1 :: st) M K := wp_iconst ((ip_a66 65).trans (ip_f66_1 (k := 12) rfl))
theorem w66_66 (X : ip_X) (ls st : List Value) (M : ip_H) (K : Option Value → ip_H → Prop) (x q : Int32) : ip_wp X 66 66 ls (.int q :: .int x :: st) M K = ip_wp X 66 67 ls (.int (x + q) :: st) M K := wp_iadd ((ip_a66 66).trans (ip_f66_1 (k := 13) rfl))
theorem w66_67 (X : ip_X) (ls st : List Value) (M : ip_H) (K : Option Value → ip_H → Prop) : ip_wp X 66 67 ls st M K = ip_ki (ip_get ls 3) (fun x => ip_wp X 66 68 ls (.int x :: st) M K) := wp_iload_n ((ip_a66 67).trans (ip_f66_1 (k := 14) rfl))
theorem w66_68 (X : ip_X) (ls st : List Value) (M : ip_H) (K : Option Value → ip_H → Prop) (x : Int32) : ip_wp X 66 68 ls (.int x :: st) M K = if x = 0 then ip_wp X 66 76 ls st M K else ip_wp X 66 71 ls st M K := wp_ifCond_eq ((ip_a66 68).trans (ip_f66_1 (k := 15) rfl))
theorem w66_71 (X : ip_X) (ls st : List Value) (M : ip_H) (K : Option Value → ip_H → Prop) : ip_wp X 66 71 ls st M K = ip_kl (ip_get ls 7) (fun x => ip_wp X 66 73 ls (.long x :: st) M K) := wp_lload ((ip_a66 71).trans (ip_f66_1 (k := 16) rfl))
theorem w66_73 (X : ip_X) (ls st : List Value) (M : ip_H) (K : Option Value → ip_H → Prop) : ip_wp X 66 73 ls st M K = ip_wp X 66 78 ls st M K := wp_goto ((ip_a66 73).trans (ip_f66_1 (k := 17) rfl))
theorem w66_76 (X : ip_X) (ls st : List Value) (M : ip_H) (K : Option Value → ip_H → Prop) : ip_wp X 66 76 ls st M K = ip_kl (ip_get ls 9) (fun x => ip_wp X 66 78 ls (.long x :: st) M K) := wp_lload ((ip_a66 76).trans (ip_f66_1 (k := 18) rfl))
theorem w66_78 (X : ip_X) (ls st : List Value) (M : ip_H) (K : Option Value → ip_H → Prop) (i : Int32) (x : Int64) (k : Nat) (h0 : (ip_sh M k).1 = 1) (h1 : (ip_sh M k).2.1 = 1) (h2 : ip_ix i (ip_sh M k).2.2 = true) : ip_wp X 66 78 ls (.long x :: .int i :: .ref k :: st) M K = ip_wp X 66 79 ls st (ip_uL M k i.toNatClampNeg x) K := (wp_lastore ((ip_a66 78).trans (ip_f66_1 (k := 19) rfl))).trans (if_pos ⟨h0, h1, h2⟩)
theorem w66_79 (X : ip_X) (ls st : List Value) (M : ip_H) (K : Option Value → ip_H → Prop) : ip_wp X 66 79 ls st M K = ip_ka (ip_get ls 0) (fun x => ip_wp X 66 80 ls (x :: st) M K) := wp_aload_n ((ip_a66 79).trans (ip_f66_1 (k := 20) rfl))
theorem w66_80 (X : ip_X) (ls st : List Value) (M : ip_H) (K : Option Value → ip_H → Prop) (k : Nat) (h0 : (ip_sh M k).1 = 0) (h1 : (ip_sh M k).2.1 = 4) : ip_wp X 66 80 ls (.ref k :: st) M K = ip_wp X 66 83 ls (ip_vr (M.2.2.2 k 0) :: st) M K := (wp_getR ((ip_a66 80).trans (ip_f66_1 (k := 21) rfl))).trans (if_pos ⟨h0, h1⟩)
theorem w66_83 (X : ip_X) (ls st : List Value) (M : ip_H) (K : Option Value → ip_H → Prop) : ip_wp X 66 83 ls st M K = ip_ki (ip_get ls 4) (fun x => ip_wp X 66 85 ls (.int x :: st) M K) := wp_iload ((ip_a66 83).trans (ip_f66_1 (k := 22) rfl))
theorem w66_85 (X : ip_X) (ls st : List Value) (M : ip_H) (K : Option Value → ip_H → Prop) : ip_wp X 66 85 ls st M K = ip_wp X 66 86 ls (.int 2 :: st) M K := wp_iconst ((ip_a66 85).trans (ip_f66_1 (k := 23) rfl))
theorem w66_86 (X : ip_X) (ls st : List Value) (M : ip_H) (K : Option Value → ip_H → Prop) (x q : Int32) : ip_wp X 66 86 ls (.int q :: .int x :: st) M K = ip_wp X 66 87 ls (.int (x + q) :: st) M K := wp_iadd ((ip_a66 86).trans (ip_f66_2 (k := 0) rfl))
theorem w66_87 (X : ip_X) (ls st : List Value) (M : ip_H) (K : Option Value → ip_H → Prop) : ip_wp X 66 87 ls st M K = ip_kl (ip_get ls 5) (fun x => ip_wp X 66 89 ls (.long x :: st) M K) := wp_lload ((ip_a66 87).trans (ip_f66_2 (k := 1) rfl))
theorem w66_89 (X : ip_X) (ls st : List Value) (M : ip_H) (K : Option Value → ip_H → Prop) : ip_wp X 66 89 ls st M K = ip_ki (ip_get ls 1) (fun x => ip_wp X 66 90 ls (.int x :: st) M K) := wp_iload_n ((ip_a66 89).trans (ip_f66_2 (k := 2) rfl))
theorem w66_90 (X : ip_X) (ls st : List Value) (M : ip_H) (K : Option Value → ip_H → Prop) : ip_wp X 66 90 ls st M K = ip_kl (ip_get ls 7) (fun x => ip_wp X 66 92 ls (.long x :: st) M K) := wp_lload ((ip_a66 90).trans (ip_f66_2 (k := 3) rfl))
theorem w66_92 (X : ip_X) (ls st : List Value) (M : ip_H) (K : Option Value → ip_H → Prop) (x0 : Int32) (x1 : Int64) (h0 : st.length ≤ 4) : ip_wp X 66 92 ls (.long x1 :: .int x0 :: st) M K = ip_wp X 68 0 [.int x0, .long x1, .retAddr 1] [] M (fun r M1 => ip_wp X 66 95 ls (r.toList ++ st) M1 K) := (wp_callS0_2 ((ip_a66 92).trans (ip_f66_2 (k := 4) rfl)) ⟨h0, by exact Nat.le_of_ble_eq_true rfl⟩)
theorem w66_95 (X : ip_X) (ls st : List Value) (M : ip_H) (K : Option Value → ip_H → Prop) : ip_wp X 66 95 ls st M K = ip_ki (ip_get ls 2) (fun x => ip_wp X 66 96 ls (.int x :: st) M K) := wp_iload_n ((ip_a66 95).trans (ip_f66_2 (k := 5) rfl))
theorem w66_96 (X : ip_X) (ls st : List Value) (M : ip_H) (K : Option Value → ip_H → Prop) : ip_wp X 66 96 ls st M K = ip_kl (ip_get ls 9) (fun x => ip_wp X 66 98 ls (.long x :: st) M K) := wp_lload ((ip_a66 96).trans (ip_f66_2 (k := 6) rfl))
theorem w66_98 (X : ip_X) (ls st : List Value) (M : ip_H) (K : Option Value → ip_H → Prop) (x0 : Int32) (x1 : Int64) (h0 : st.length ≤ 4) : ip_wp X 66 98 ls (.long x1 :: .int x0 :: st) M K = ip_wp X 68 0 [.int x0, .long x1, .retAddr 1] [] M (fun r M1 => ip_wp X 66 101 ls (r.toList ++ st) M1 K) := (wp_callS0_2 ((ip_a66 98).trans (ip_f66_2 (k := 7) rfl)) ⟨h0, by exact Nat.le_of_ble_eq_true rfl⟩)
theorem w66_101 (X : ip_X) (ls st : List Value) (M : ip_H) (K : Option Value → ip_H → Prop) (x0 : Int64) (x1 : Int64) (h0 : st.length ≤ 4) : ip_wp X 66 101 ls (.long x1 :: .long x0 :: st) M K = ip_wp X 67 0 [.long x0, .retAddr 1, .long x1, .retAddr 1] [] M (fun r M1 => ip_wp X 66 104 ls (r.toList ++ st) M1 K) := (wp_callS0_2 ((ip_a66 101).trans (ip_f66_2 (k := 8) rfl)) ⟨h0, by exact Nat.le_of_ble_eq_true rfl⟩)
theorem w66_104 (X : ip_X) (ls st : List Value) (M : ip_H) (K : Option Value → ip_H → Prop) (x0 : Int64) (x1 : Int64) (h0 : st.length ≤ 4) : ip_wp X 66 104 ls (.long x1 :: .long x0 :: st) M K = ip_wp X 67 0 [.long x0, .retAddr 1, .long x1, .retAddr 1] [] M (fun r M1 => ip_wp X 66 107 ls (r.toList ++ st) M1 K) := (wp_callS0_2 ((ip_a66 104).trans (ip_f66_2 (k := 9) rfl)) ⟨h0, by exact Nat.le_of_ble_eq_true rfl⟩)
theorem w66_107 (X : ip_X) (ls st : List Value) (M : ip_H) (K : Option Value → ip_H → Prop) (i : Int32) (x : Int64) (k : Nat) (h0 : (ip_sh M k).1 = 1) (h1 : (ip_sh M k).2.1 = 1) (h2 : ip_ix i (ip_sh M k).2.2 = true) : ip_wp X 66 107 ls (.long x :: .int i :: .ref k :: st) M K = ip_wp X 66 108 ls st (ip_uL M k i.toNatClampNeg x) K := (wp_lastore ((ip_a66 107).trans (ip_f66_2 (k := 10) rfl))).trans (if_pos ⟨h0, h1, h2⟩)
theorem w66_108 (X : ip_X) (ls st : List Value) (M : ip_H) (K : Option Value → ip_H → Prop) : ip_wp X 66 108 ls st M K = ip_ki (ip_get ls 4) (fun x => ip_wp X 66 111 (ip_set1 ls 4 (.int (x + 3))) st M K) := wp_iinc ((ip_a66 108).trans (ip_f66_2 (k := 11) rfl))
theorem w66_111 (X : ip_X) (ls st : List Value) (M : ip_H) (K : Option Value → ip_H → Prop) : ip_wp X 66 111 ls st M K = ip_wp X 66 3 ls st M K := wp_goto ((ip_a66 111).trans (ip_f66_2 (k := 12) rfl))
theorem w66_114 (X : ip_X) (ls : List Value) (M : ip_H) (K : Option Value → ip_H → Prop) : ip_wp X 66 114 ls [] M K = K none M := wp_vret ((ip_a66 114).trans (ip_f66_2 (k := 13) rfl))
theorem ip_a67 (pc : Nat) : ip_at 67 pc = ip_c67.lookup pc := rfl
theorem w67_0 (X : ip_X) (ls st : List Value) (M : ip_H) (K : Option Value → ip_H → Prop) : ip_wp X 67 0 ls st M K = ip_kl (ip_get ls 0) (fun x => ip_wp X 67 1 ls (.long x :: st) M K) := wp_lload_n ((ip_a67 0).trans rfl)
theorem w67_1 (X : ip_X) (ls st : List Value) (M : ip_H) (K : Option Value → ip_H → Prop) : ip_wp X 67 1 ls st M K = ip_wp X 67 4 ls (.long (-1) :: st) M K := wp_ldc2_w ((ip_a67 1).trans rfl)
theorem w67_4 (X : ip_X) (ls st : List Value) (M : ip_H) (K : Option Value → ip_H → Prop) (x q : Int64) : ip_wp X 67 4 ls (.long q :: .long x :: st) M K = ip_wp X 67 5 ls (.int (lg_cmp x q) :: st) M K := wp_lcmp ((ip_a67 4).trans rfl)
theorem w67_5 (X : ip_X) (ls st : List Value) (M : ip_H) (K : Option Value → ip_H → Prop) (x : Int32) : ip_wp X 67 5 ls (.int x :: st) M K = if x = 0 then ip_wp X 67 26 ls st M K else ip_wp X 67 8 ls st M K := wp_ifCond_eq ((ip_a67 5).trans rfl)
theorem w67_8 (X : ip_X) (ls st : List Value) (M : ip_H) (K : Option Value → ip_H → Prop) : ip_wp X 67 8 ls st M K = ip_kl (ip_get ls 2) (fun x => ip_wp X 67 9 ls (.long x :: st) M K) := wp_lload_n ((ip_a67 8).trans rfl)
theorem w67_9 (X : ip_X) (ls st : List Value) (M : ip_H) (K : Option Value → ip_H → Prop) : ip_wp X 67 9 ls st M K = ip_wp X 67 12 ls (.long (-1) :: st) M K := wp_ldc2_w ((ip_a67 9).trans rfl)
theorem w67_12 (X : ip_X) (ls st : List Value) (M : ip_H) (K : Option Value → ip_H → Prop) (x q : Int64) : ip_wp X 67 12 ls (.long q :: .long x :: st) M K = ip_wp X 67 13 ls (.int (lg_cmp x q) :: st) M K := wp_lcmp ((ip_a67 12).trans rfl)
theorem w67_13 (X : ip_X) (ls st : List Value) (M : ip_H) (K : Option Value → ip_H → Prop) (x : Int32) : ip_wp X 67 13 ls (.int x :: st) M K = if x = 0 then ip_wp X 67 26 ls st M K else ip_wp X 67 16 ls st M K := wp_ifCond_eq ((ip_a67 13).trans rfl)
theorem w67_16 (X : ip_X) (ls st : List Value) (M : ip_H) (K : Option Value → ip_H → Prop) : ip_wp X 67 16 ls st M K = ip_kl (ip_get ls 0) (fun x => ip_wp X 67 17 ls (.long x :: st) M K) := wp_lload_n ((ip_a67 16).trans rfl)
theorem w67_17 (X : ip_X) (ls st : List Value) (M : ip_H) (K : Option Value → ip_H → Prop) : ip_wp X 67 17 ls st M K = ip_wp X 67 20 ls (.long 9223372036854775807 :: st) M K := wp_ldc2_w ((ip_a67 17).trans rfl)
theorem w67_20 (X : ip_X) (ls st : List Value) (M : ip_H) (K : Option Value → ip_H → Prop) : ip_wp X 67 20 ls st M K = ip_kl (ip_get ls 2) (fun x => ip_wp X 67 21 ls (.long x :: st) M K) := wp_lload_n ((ip_a67 20).trans rfl)
theorem w67_21 (X : ip_X) (ls st : List Value) (M : ip_H) (K : Option Value → ip_H → Prop) (x q : Int64) : ip_wp X 67 21 ls (.long q :: .long x :: st) M K = ip_wp X 67 22 ls (.long (x - q) :: st) M K := wp_lsub ((ip_a67 21).trans rfl)
theorem w67_22 (X : ip_X) (ls st : List Value) (M : ip_H) (K : Option Value → ip_H → Prop) (x q : Int64) : ip_wp X 67 22 ls (.long q :: .long x :: st) M K = ip_wp X 67 23 ls (.int (lg_cmp x q) :: st) M K := wp_lcmp ((ip_a67 22).trans rfl)
theorem w67_23 (X : ip_X) (ls st : List Value) (M : ip_H) (K : Option Value → ip_H → Prop) (x : Int32) : ip_wp X 67 23 ls (.int x :: st) M K = if 0 < x then ip_wp X 67 26 ls st M K else ip_wp X 67 30 ls st M K := wp_ifCond_le ((ip_a67 23).trans rfl)
theorem w67_26 (X : ip_X) (ls st : List Value) (M : ip_H) (K : Option Value → ip_H → Prop) : ip_wp X 67 26 ls st M K = ip_wp X 67 29 ls (.long (-1) :: st) M K := wp_ldc2_w ((ip_a67 26).trans rfl)
theorem w67_29 (X : ip_X) (ls : List Value) (M : ip_H) (K : Option Value → ip_H → Prop) (x : Int64) : ip_wp X 67 29 ls [.long x] M K = K (some (.long x)) M := wp_lret ((ip_a67 29).trans rfl)
theorem w67_30 (X : ip_X) (ls st : List Value) (M : ip_H) (K : Option Value → ip_H → Prop) : ip_wp X 67 30 ls st M K = ip_kl (ip_get ls 0) (fun x => ip_wp X 67 31 ls (.long x :: st) M K) := wp_lload_n ((ip_a67 30).trans rfl)
theorem w67_31 (X : ip_X) (ls st : List Value) (M : ip_H) (K : Option Value → ip_H → Prop) : ip_wp X 67 31 ls st M K = ip_kl (ip_get ls 2) (fun x => ip_wp X 67 32 ls (.long x :: st) M K) := wp_lload_n ((ip_a67 31).trans rfl)
theorem w67_32 (X : ip_X) (ls st : List Value) (M : ip_H) (K : Option Value → ip_H → Prop) (x q : Int64) : ip_wp X 67 32 ls (.long q :: .long x :: st) M K = ip_wp X 67 33 ls (.long (x + q) :: st) M K := wp_ladd ((ip_a67 32).trans rfl)
theorem w67_33 (X : ip_X) (ls : List Value) (M : ip_H) (K : Option Value → ip_H → Prop) (x : Int64) : ip_wp X 67 33 ls [.long x] M K = K (some (.long x)) M := wp_lret ((ip_a67 33).trans rfl)
theorem ip_a68 (pc : Nat) : ip_at 68 pc = ip_c68.lookup pc := rfl
theorem w68_0 (X : ip_X) (ls st : List Value) (M : ip_H) (K : Option Value → ip_H → Prop) : ip_wp X 68 0 ls st M K = ip_ki (ip_get ls 0) (fun x => ip_wp X 68 1 ls (.int x :: st) M K) := wp_iload_n ((ip_a68 0).trans rfl)
theorem w68_1 (X : ip_X) (ls st : List Value) (M : ip_H) (K : Option Value → ip_H → Prop) (x : Int32) : ip_wp X 68 1 ls (.int x :: st) M K = if x = 0 then ip_wp X 68 4 ls st M K else ip_wp X 68 6 ls st M K := wp_ifCond_ne ((ip_a68 1).trans rfl)
theorem w68_4 (X : ip_X) (ls st : List Value) (M : ip_H) (K : Option Value → ip_H → Prop) : ip_wp X 68 4 ls st M K = ip_wp X 68 5 ls (.long 0 :: st) M K := wp_lconst ((ip_a68 4).trans rfl)
theorem w68_5 (X : ip_X) (ls : List Value) (M : ip_H) (K : Option Value → ip_H → Prop) (x : Int64) : ip_wp X 68 5 ls [.long x] M K = K (some (.long x)) M := wp_lret ((ip_a68 5).trans rfl)
theorem w68_6 (X : ip_X) (ls st : List Value) (M : ip_H) (K : Option Value → ip_H → Prop) : ip_wp X 68 6 ls st M K = ip_kl (ip_get ls 1) (fun x => ip_wp X 68 7 ls (.long x :: st) M K) := wp_lload_n ((ip_a68 6).trans rfl)
theorem w68_7 (X : ip_X) (ls st : List Value) (M : ip_H) (K : Option Value → ip_H → Prop) : ip_wp X 68 7 ls st M K = ip_wp X 68 10 ls (.long (-1) :: st) M K := wp_ldc2_w ((ip_a68 7).trans rfl)
theorem w68_10 (X : ip_X) (ls st : List Value) (M : ip_H) (K : Option Value → ip_H → Prop) (x q : Int64) : ip_wp X 68 10 ls (.long q :: .long x :: st) M K = ip_wp X 68 11 ls (.int (lg_cmp x q) :: st) M K := wp_lcmp ((ip_a68 10).trans rfl)
theorem w68_11 (X : ip_X) (ls st : List Value) (M : ip_H) (K : Option Value → ip_H → Prop) (x : Int32) : ip_wp X 68 11 ls (.int x :: st) M K = if x = 0 then ip_wp X 68 25 ls st M K else ip_wp X 68 14 ls st M K := wp_ifCond_eq ((ip_a68 11).trans rfl)
theorem w68_14 (X : ip_X) (ls st : List Value) (M : ip_H) (K : Option Value → ip_H → Prop) : ip_wp X 68 14 ls st M K = ip_kl (ip_get ls 1) (fun x => ip_wp X 68 15 ls (.long x :: st) M K) := wp_lload_n ((ip_a68 14).trans rfl)
theorem w68_15 (X : ip_X) (ls st : List Value) (M : ip_H) (K : Option Value → ip_H → Prop) : ip_wp X 68 15 ls st M K = ip_wp X 68 18 ls (.long 9223372036854775807 :: st) M K := wp_ldc2_w ((ip_a68 15).trans rfl)
theorem w68_18 (X : ip_X) (ls st : List Value) (M : ip_H) (K : Option Value → ip_H → Prop) : ip_wp X 68 18 ls st M K = ip_ki (ip_get ls 0) (fun x => ip_wp X 68 19 ls (.int x :: st) M K) := wp_iload_n ((ip_a68 18).trans rfl)
theorem w68_19 (X : ip_X) (ls st : List Value) (M : ip_H) (K : Option Value → ip_H → Prop) (x : Int32) : ip_wp X 68 19 ls (.int x :: st) M K = ip_wp X 68 20 ls (.long (x.toInt64) :: st) M K := wp_i2l ((ip_a68 19).trans rfl)
theorem w68_20 (X : ip_X) (ls st : List Value) (M : ip_H) (K : Option Value → ip_H → Prop) (x q : Int64) (hq : ¬ q = 0) : ip_wp X 68 20 ls (.long q :: .long x :: st) M K = ip_wp X 68 21 ls (.long (x / q) :: st) M K := (wp_ldiv ((ip_a68 20).trans rfl)).trans (if_neg hq)
theorem w68_21 (X : ip_X) (ls st : List Value) (M : ip_H) (K : Option Value → ip_H → Prop) (x q : Int64) : ip_wp X 68 21 ls (.long q :: .long x :: st) M K = ip_wp X 68 22 ls (.int (lg_cmp x q) :: st) M K := wp_lcmp ((ip_a68 21).trans rfl)
theorem w68_22 (X : ip_X) (ls st : List Value) (M : ip_H) (K : Option Value → ip_H → Prop) (x : Int32) : ip_wp X 68 22 ls (.int x :: st) M K = if 0 < x then ip_wp X 68 25 ls st M K else ip_wp X 68 29 ls st M K := wp_ifCond_le ((ip_a68 22).trans rfl)
theorem w68_25 (X : ip_X) (ls st : List Value) (M : ip_H) (K : Option Value → ip_H → Prop) : ip_wp X 68 25 ls st M K = ip_wp X 68 28 ls (.long (-1) :: st) M K := wp_ldc2_w ((ip_a68 25).trans rfl)
theorem w68_28 (X : ip_X) (ls : List Value) (M : ip_H) (K : Option Value → ip_H → Prop) (x : Int64) : ip_wp X 68 28 ls [.long x] M K = K (some (.long x)) M := wp_lret ((ip_a68 28).trans rfl)
theorem w68_29 (X : ip_X) (ls st : List Value) (M : ip_H) (K : Option Value → ip_H → Prop) : ip_wp X 68 29 ls st M K = ip_ki (ip_get ls 0) (fun x => ip_wp X 68 30 ls (.int x :: st) M K) := wp_iload_n ((ip_a68 29).trans rfl)
theorem w68_30 (X : ip_X) (ls st : List Value) (M : ip_H) (K : Option Value → ip_H → Prop) (x : Int32) : ip_wp X 68 30 ls (.int x :: st) M K = ip_wp X 68 31 ls (.long (x.toInt64) :: st) M K := wp_i2l ((ip_a68 30).trans rfl)
theorem w68_31 (X : ip_X) (ls st : List Value) (M : ip_H) (K : Option Value → ip_H → Prop) : ip_wp X 68 31 ls st M K = ip_kl (ip_get ls 1) (fun x => ip_wp X 68 32 ls (.long x :: st) M K) := wp_lload_n ((ip_a68 31).trans rfl)
theorem w68_32 (X : ip_X) (ls st : List Value) (M : ip_H) (K : Option Value → ip_H → Prop) (x q : Int64) : ip_wp X 68 32 ls (.long q :: .long x :: st) M K = ip_wp X 68 33 ls (.long (x * q) :: st) M K := wp_lmul ((ip_a68 32).trans rfl)
theorem w68_33 (X : ip_X) (ls : List Value) (M : ip_H) (K : Option Value → ip_H → Prop) (x : Int64) : ip_wp X 68 33 ls [.long x] M K = K (some (.long x)) M := wp_lret ((ip_a68 33).trans rfl)
theorem ip_a69 (pc : Nat) : ip_at 69 pc = ip_c69.lookup pc := rfl
theorem w69_0 (X : ip_X) (ls st : List Value) (M : ip_H) (K : Option Value → ip_H → Prop) : ip_wp X 69 0 ls st M K = ip_wp X 69 1 ls (.int 0 :: st) M K := wp_iconst ((ip_a69 0).trans rfl)
theorem w69_1 (X : ip_X) (ls st : List Value) (M : ip_H) (K : Option Value → ip_H → Prop) (x : Int32) : ip_wp X 69 1 ls (.int x :: st) M K = ip_wp X 69 2 (ip_set1 ls 1 (.int x)) st M K := wp_istore_n ((ip_a69 1).trans rfl)
theorem w69_2 (X : ip_X) (ls st : List Value) (M : ip_H) (K : Option Value → ip_H → Prop) : ip_wp X 69 2 ls st M K = ip_ki (ip_get ls 1) (fun x => ip_wp X 69 3 ls (.int x :: st) M K) := wp_iload_n ((ip_a69 2).trans rfl)
theorem w69_3 (X : ip_X) (ls st : List Value) (M : ip_H) (K : Option Value → ip_H → Prop) : ip_wp X 69 3 ls st M K = ip_wp X 69 5 ls (.int 9 :: st) M K := wp_bipush ((ip_a69 3).trans rfl)
theorem w69_5 (X : ip_X) (ls st : List Value) (M : ip_H) (K : Option Value → ip_H → Prop) (x q : Int32) : ip_wp X 69 5 ls (.int q :: .int x :: st) M K = if x < q then ip_wp X 69 8 ls st M K else ip_wp X 69 29 ls st M K := wp_if_icmp_ge ((ip_a69 5).trans rfl)
theorem w69_8 (X : ip_X) (ls st : List Value) (M : ip_H) (K : Option Value → ip_H → Prop) : ip_wp X 69 8 ls st M K = ip_ka (ip_get ls 0) (fun x => ip_wp X 69 9 ls (x :: st) M K) := wp_aload_n ((ip_a69 8).trans rfl)
theorem w69_9 (X : ip_X) (ls st : List Value) (M : ip_H) (K : Option Value → ip_H → Prop) (k : Nat) (h0 : (ip_sh M k).1 = 0) (h1 : (ip_sh M k).2.1 = 4) : ip_wp X 69 9 ls (.ref k :: st) M K = ip_wp X 69 12 ls (ip_vr (M.2.2.2 k 0) :: st) M K := (wp_getR ((ip_a69 9).trans rfl)).trans (if_pos ⟨h0, h1⟩)
theorem w69_12 (X : ip_X) (ls st : List Value) (M : ip_H) (K : Option Value → ip_H → Prop) : ip_wp X 69 12 ls st M K = ip_ki (ip_get ls 1) (fun x => ip_wp X 69 13 ls (.int x :: st) M K) := wp_iload_n ((ip_a69 12).trans rfl)
theorem w69_13 (X : ip_X) (ls st : List Value) (M : ip_H) (K : Option Value → ip_H → Prop) (i : Int32) (k : Nat) (h0 : (ip_sh M k).1 = 1) (h1 : (ip_sh M k).2.1 = 1) (h2 : ip_ix i (ip_sh M k).2.2 = true) : ip_wp X 69 13 ls (.int i :: .ref k :: st) M K = ip_wp X 69 14 ls (.long (M.2.2.1 k i.toNatClampNeg) :: st) M K := (wp_laload ((ip_a69 13).trans rfl)).trans (if_pos ⟨h0, h1, h2⟩)
theorem w69_14 (X : ip_X) (ls st : List Value) (M : ip_H) (K : Option Value → ip_H → Prop) : ip_wp X 69 14 ls st M K = ip_wp X 69 17 ls (.long (-1) :: st) M K := wp_ldc2_w ((ip_a69 14).trans rfl)
theorem w69_17 (X : ip_X) (ls st : List Value) (M : ip_H) (K : Option Value → ip_H → Prop) (x q : Int64) : ip_wp X 69 17 ls (.long q :: .long x :: st) M K = ip_wp X 69 18 ls (.int (lg_cmp x q) :: st) M K := wp_lcmp ((ip_a69 17).trans rfl)
theorem w69_18 (X : ip_X) (ls st : List Value) (M : ip_H) (K : Option Value → ip_H → Prop) (x : Int32) : ip_wp X 69 18 ls (.int x :: st) M K = if x = 0 then ip_wp X 69 21 ls st M K else ip_wp X 69 23 ls st M K := wp_ifCond_ne ((ip_a69 18).trans rfl)
theorem w69_21 (X : ip_X) (ls st : List Value) (M : ip_H) (K : Option Value → ip_H → Prop) : ip_wp X 69 21 ls st M K = ip_wp X 69 22 ls (.int 1 :: st) M K := wp_iconst ((ip_a69 21).trans rfl)
theorem w69_22 (X : ip_X) (ls : List Value) (M : ip_H) (K : Option Value → ip_H → Prop) (x : Int32) (h0 : x = 0 ∨ x = 1) : ip_wp X 69 22 ls [.int x] M K = K (some (.int x)) M := (wp_zret ((ip_a69 22).trans rfl)).trans (if_pos h0)
theorem w69_23 (X : ip_X) (ls st : List Value) (M : ip_H) (K : Option Value → ip_H → Prop) : ip_wp X 69 23 ls st M K = ip_ki (ip_get ls 1) (fun x => ip_wp X 69 26 (ip_set1 ls 1 (.int (x + 1))) st M K) := wp_iinc ((ip_a69 23).trans rfl)
theorem w69_26 (X : ip_X) (ls st : List Value) (M : ip_H) (K : Option Value → ip_H → Prop) : ip_wp X 69 26 ls st M K = ip_wp X 69 2 ls st M K := wp_goto ((ip_a69 26).trans rfl)
theorem w69_29 (X : ip_X) (ls st : List Value) (M : ip_H) (K : Option Value → ip_H → Prop) : ip_wp X 69 29 ls st M K = ip_wp X 69 30 ls (.int 0 :: st) M K := wp_iconst ((ip_a69 29).trans rfl)
theorem w69_30 (X : ip_X) (ls : List Value) (M : ip_H) (K : Option Value → ip_H → Prop) (x : Int32) (h0 : x = 0 ∨ x = 1) : ip_wp X 69 30 ls [.int x] M K = K (some (.int x)) M := (wp_zret ((ip_a69 30).trans rfl)).trans (if_pos h0)
theorem ip_a70 (pc : Nat) : ip_at 70 pc = ip_c70.lookup pc := rfl
theorem w70_0 (X : ip_X) (ls st : List Value) (M : ip_H) (K : Option Value → ip_H → Prop) : ip_wp X 70 0 ls st M K = ip_wp X 70 1 ls (.int 0 :: st) M K := wp_iconst ((ip_a70 0).trans rfl)
theorem w70_1 (X : ip_X) (ls st : List Value) (M : ip_H) (K : Option Value → ip_H → Prop) (x : Int32) : ip_wp X 70 1 ls (.int x :: st) M K = ip_wp X 70 2 (ip_set1 ls 3 (.int x)) st M K := wp_istore_n ((ip_a70 1).trans rfl)
theorem w70_2 (X : ip_X) (ls st : List Value) (M : ip_H) (K : Option Value → ip_H → Prop) : ip_wp X 70 2 ls st M K = ip_ki (ip_get ls 3) (fun x => ip_wp X 70 3 ls (.int x :: st) M K) := wp_iload_n ((ip_a70 2).trans rfl)
theorem w70_3 (X : ip_X) (ls st : List Value) (M : ip_H) (K : Option Value → ip_H → Prop) : ip_wp X 70 3 ls st M K = ip_wp X 70 5 ls (.int 9 :: st) M K := wp_bipush ((ip_a70 3).trans rfl)
theorem w70_5 (X : ip_X) (ls st : List Value) (M : ip_H) (K : Option Value → ip_H → Prop) (x q : Int32) : ip_wp X 70 5 ls (.int q :: .int x :: st) M K = if x < q then ip_wp X 70 8 ls st M K else ip_wp X 70 27 ls st M K := wp_if_icmp_ge ((ip_a70 5).trans rfl)
theorem w70_8 (X : ip_X) (ls st : List Value) (M : ip_H) (K : Option Value → ip_H → Prop) : ip_wp X 70 8 ls st M K = ip_ka (ip_get ls 0) (fun x => ip_wp X 70 9 ls (x :: st) M K) := wp_aload_n ((ip_a70 8).trans rfl)
theorem w70_9 (X : ip_X) (ls st : List Value) (M : ip_H) (K : Option Value → ip_H → Prop) (k : Nat) (h0 : (ip_sh M k).1 = 0) (h1 : (ip_sh M k).2.1 = 4) : ip_wp X 70 9 ls (.ref k :: st) M K = ip_wp X 70 12 ls (ip_vr (M.2.2.2 k 0) :: st) M K := (wp_getR ((ip_a70 9).trans rfl)).trans (if_pos ⟨h0, h1⟩)
theorem w70_12 (X : ip_X) (ls st : List Value) (M : ip_H) (K : Option Value → ip_H → Prop) : ip_wp X 70 12 ls st M K = ip_ki (ip_get ls 3) (fun x => ip_wp X 70 13 ls (.int x :: st) M K) := wp_iload_n ((ip_a70 12).trans rfl)
theorem w70_13 (X : ip_X) (ls st : List Value) (M : ip_H) (K : Option Value → ip_H → Prop) (i : Int32) (k : Nat) (h0 : (ip_sh M k).1 = 1) (h1 : (ip_sh M k).2.1 = 1) (h2 : ip_ix i (ip_sh M k).2.2 = true) : ip_wp X 70 13 ls (.int i :: .ref k :: st) M K = ip_wp X 70 14 ls (.long (M.2.2.1 k i.toNatClampNeg) :: st) M K := (wp_laload ((ip_a70 13).trans rfl)).trans (if_pos ⟨h0, h1, h2⟩)
theorem w70_14 (X : ip_X) (ls st : List Value) (M : ip_H) (K : Option Value → ip_H → Prop) : ip_wp X 70 14 ls st M K = ip_kl (ip_get ls 1) (fun x => ip_wp X 70 15 ls (.long x :: st) M K) := wp_lload_n ((ip_a70 14).trans rfl)
theorem w70_15 (X : ip_X) (ls st : List Value) (M : ip_H) (K : Option Value → ip_H → Prop) (x q : Int64) : ip_wp X 70 15 ls (.long q :: .long x :: st) M K = ip_wp X 70 16 ls (.int (lg_cmp x q) :: st) M K := wp_lcmp ((ip_a70 15).trans rfl)
theorem w70_16 (X : ip_X) (ls st : List Value) (M : ip_H) (K : Option Value → ip_H → Prop) (x : Int32) : ip_wp X 70 16 ls (.int x :: st) M K = if 0 < x then ip_wp X 70 19 ls st M K else ip_wp X 70 21 ls st M K := wp_ifCond_le ((ip_a70 16).trans rfl)
theorem w70_19 (X : ip_X) (ls st : List Value) (M : ip_H) (K : Option Value → ip_H → Prop) : ip_wp X 70 19 ls st M K = ip_wp X 70 20 ls (.int 1 :: st) M K := wp_iconst ((ip_a70 19).trans rfl)
theorem w70_20 (X : ip_X) (ls : List Value) (M : ip_H) (K : Option Value → ip_H → Prop) (x : Int32) (h0 : x = 0 ∨ x = 1) : ip_wp X 70 20 ls [.int x] M K = K (some (.int x)) M := (wp_zret ((ip_a70 20).trans rfl)).trans (if_pos h0)
theorem w70_21 (X : ip_X) (ls st : List Value) (M : ip_H) (K : Option Value → ip_H → Prop) : ip_wp X 70 21 ls st M K = ip_ki (ip_get ls 3) (fun x => ip_wp X 70 24 (ip_set1 ls 3 (.int (x + 1))) st M K) := wp_iinc ((ip_a70 21).trans rfl)
theorem w70_24 (X : ip_X) (ls st : List Value) (M : ip_H) (K : Option Value → ip_H → Prop) : ip_wp X 70 24 ls st M K = ip_wp X 70 2 ls st M K := wp_goto ((ip_a70 24).trans rfl)
theorem w70_27 (X : ip_X) (ls st : List Value) (M : ip_H) (K : Option Value → ip_H → Prop) : ip_wp X 70 27 ls st M K = ip_wp X 70 28 ls (.int 0 :: st) M K := wp_iconst ((ip_a70 27).trans rfl)
theorem w70_28 (X : ip_X) (ls : List Value) (M : ip_H) (K : Option Value → ip_H → Prop) (x : Int32) (h0 : x = 0 ∨ x = 1) : ip_wp X 70 28 ls [.int x] M K = K (some (.int x)) M := (wp_zret ((ip_a70 28).trans rfl)).trans (if_pos h0)
end
noncomputable section
-- PART c13yf05.sq
-- SQUARES of the class
def k_pl (x y : Int64) : Int64 := if x = -1 ∨ y = -1 ∨ 9223372036854775807 - y < x then -1 else x + y
def k_ti (n : Int32) (x : Int64) : Int64 := if n = 0 then 0 else if x = -1 ∨ 9223372036854775807 / n.toInt64 < x then -1 else n.toInt64 * x
def k_r3 (x y z : Int64) (a b : Int32) : Int64 := k_pl x (k_pl (k_ti a y) (k_ti b z))
/-- one row behind another digit -/
def k_fr (M : ip_H) (A r : Nat) (x y z : Int64) (a b : Int32) (t : Bool) : ip_H := ip_uL (ip_uL (ip_uL M A r (if t = true then z else y)) A (r + 1) (if t = true then y else z)) A (r + 2) (k_r3 x y z a b)
def k_nx (g : Nat → Int64) (a b : Int32) (t : Bool) (j : Nat) : Int64 := if j = 0 then (if t = true then g 2 else g 1) else if j = 1 then (if t = true then g 1 else g 2) else if j = 2 then k_r3 (g 0) (g 1) (g 2) a b else if j = 3 then (if t = true then g 5 else g 4) else if j = 4 then (if t = true then g 4 else g 5) else if j = 5 then k_r3 (g 3) (g 4) (g 5) a b else if j = 6 then (if t = true then g 8 else g 7) else if j = 7 then (if t = true then g 7 else g 8) else if j = 8 then k_r3 (g 6) (g 7) (g 8) a b else g j
/-- a square behind which another digit's comes -/
def k_fo (M : ip_H) (A : Nat) (a b : Int32) (t : Bool) : ip_H := ip_sL M A (k_nx (M.2.2.1 A) a b t)
theorem k_fo_R (M : ip_H) (A : Nat) (a b : Int32) (t : Bool) : (k_fo M A a b t).2.2.2 = M.2.2.2 := rfl
theorem k_fo_sh (M : ip_H) (A : Nat) (a b : Int32) (t : Bool) (k : Nat) : ip_sh (k_fo M A a b t) k = ip_sh M k := rfl
theorem k_fo_o (M : ip_H) (A : Nat) (a b : Int32) (t : Bool) (k : Nat) (h : ¬ k = A) : (k_fo M A a b t).2.2.1 k = M.2.2.1 k := by
  funext j
  unfold k_fo
  rw [ip_sL_L, if_neg h]
theorem k_fo_A (M : ip_H) (A : Nat) (a b : Int32) (t : Bool) : (k_fo M A a b t).2.2.1 A = k_nx (M.2.2.1 A) a b t := by
  funext j
  unfold k_fo
  rw [ip_sL_L, if_pos rfl]
theorem k_fr_L {j : Nat} (M : ip_H) (A r : Nat) (x y z : Int64) (a b : Int32) (t : Bool) (h : ¬ (r ≤ j ∧ j < r + 3)) : (k_fr M A r x y z a b t).2.2.1 A j = M.2.2.1 A j := by
  unfold k_fr
  rw [ip_uL_L, if_neg (by omega), ip_uL_L, if_neg (by omega), ip_uL_L, if_neg (by omega)]
theorem k_fr3 (M : ip_H) (A : Nat) (a b : Int32) (t : Bool) : k_fr (k_fr (k_fr M A 0 (M.2.2.1 A 0) (M.2.2.1 A 1) (M.2.2.1 A 2) a b t) A 3 (M.2.2.1 A 3) (M.2.2.1 A 4) (M.2.2.1 A 5) a b t) A 6 (M.2.2.1 A 6) (M.2.2.1 A 7) (M.2.2.1 A 8) a b t = k_fo M A a b t := by
  refine Prod.ext rfl (Prod.ext rfl (Prod.ext ?_ rfl))
  funext x y
  unfold k_fr k_fo k_nx
  rw [ip_sL_L]
  simp only [ip_uL_L, Nat.reduceAdd]
  by_cases h : x = A
  · subst h
    simp only [true_and, ↓reduceIte]
    by_cases h8 : y = 8
    · subst h8; rfl
    by_cases h7 : y = 7
    · subst h7; rfl
    by_cases h6 : y = 6
    · subst h6; rfl
    by_cases h5 : y = 5
    · subst h5; rfl
    by_cases h4 : y = 4
    · subst h4; rfl
    by_cases h3 : y = 3
    · subst h3; rfl
    by_cases h2 : y = 2
    · subst h2; rfl
    by_cases h1 : y = 1
    · subst h1; rfl
    by_cases h0 : y = 0
    · subst h0; rfl
    simp only [h0, h1, h2, h3, h4, h5, h6, h7, h8, ↓reduceIte]
  · simp only [h, false_and, ↓reduceIte]
/-- a number above the longs among n from k on -/
def k_bn (g : Nat → Int64) : Nat → Nat → Bool
  | 0, _ => false
  | n + 1, k => decide (g k = -1) || k_bn g n (k + 1)
def k_ab (g : Nat → Int64) (m : Int64) : Nat → Nat → Bool
  | 0, _ => false
  | n + 1, k => decide (m < g k) || k_ab g m n (k + 1)
theorem k9l (k : Nat) (h : k < 2147483648) : (Int32.ofNat k < 9) = (k < 9) := by
  rw [show (9 : Int32) = Int32.ofNat 9 from rfl, ip_nlt _ _ h (by decide)]
theorem z_o0 : Int64.ofInt 0 = 0 := rfl
theorem z_o1 : Int64.ofInt 1 = 1 := rfl
-- the reference's squares are the same
theorem kq_pl {x y : Int64} (hx : 0 ≤ x.toInt) (hy : 0 ≤ y.toInt) : (k_pl x y = if (q_pl false x y).2 = true then -1 else (q_pl false x y).1) := by
  have e1 : ¬ x = -1 := fun e => by rw [e] at hx; exact absurd hx (by decide)
  have e2 : ¬ y = -1 := fun e => by rw [e] at hy; exact absurd hy (by decide)
  unfold k_pl q_pl
  simp only [e1, e2, false_or, Bool.false_or, decide_eq_true_eq]
  split
  · rfl
  · rfl
theorem w_z {a : Int32} : (a.toInt64 = 0) = (a = 0) := by
  apply propext
  rw [← Int64.toInt_inj, ← Int32.toInt_inj, Int32.toInt_toInt64]
  rfl
theorem kq_ti {n : Int32} {x : Int64} (hx : 0 ≤ x.toInt) : (k_ti n x = if (q_ti false x n.toInt64).2 = true then -1 else (q_ti false x n.toInt64).1) := by
  have e1 : ¬ x = -1 := fun e => by rw [e] at hx; exact absurd hx (by decide)
  unfold k_ti q_ti
  by_cases h : n = 0
  · subst h
    simp only [e1, false_or, Bool.false_or, ↓reduceIte]
    rw [show (0 : Int32).toInt64 = 0 from rfl, decide_eq_true (rfl : (0 : Int64) = 0), Bool.not_true, Bool.false_and]
    simp only [Bool.false_eq_true, ↓reduceIte]
    rw [Int64.mul_zero]
  · have h2 : ¬ n.toInt64 = 0 := by rw [w_z]; exact h
    simp only [h, e1, false_or, Bool.false_or, ↓reduceIte]
    rw [decide_eq_false h2, Bool.not_false, Bool.true_and]
    by_cases c : 9223372036854775807 / n.toInt64 < x
    · simp only [c, decide_true, ↓reduceIte]
    · simp only [c, decide_false, Bool.false_eq_true, ↓reduceIte]
      exact Int64.mul_comm _ _
theorem q_pl_t (a b : Int64) : (q_pl true a b).2 = true := rfl
theorem q_ti_t (a b : Int64) : (q_ti true a b).2 = true := rfl
/-- a row: what the class lays, by what the reference does -/
theorem kq_row {x y z : Int64} {a b : Int32} (hx : 0 ≤ x.toInt) (hy : 0 ≤ y.toInt) (hz : 0 ≤ z.toInt) (ha : 0 ≤ a.toInt) (hb : 0 ≤ b.toInt) : k_r3 x y z a b = if (q_row false x y z a.toInt64 b.toInt64).2 = true then -1 else (q_row false x y z a.toInt64 b.toInt64).1 := by
  have ha' : 0 ≤ a.toInt64.toInt := by rw [Int32.toInt_toInt64]; exact ha
  have hb' : 0 ≤ b.toInt64.toInt := by rw [Int32.toInt_toInt64]; exact hb
  have t1 := kq_ti (n := a) hy
  have t2 := kq_ti (n := b) hz
  have n1 := q_ti_nn (B := false) hy ha'
  have n2 := q_ti_nn (B := false) hz hb'
  unfold k_r3 q_row
  cases h1 : (q_ti false y a.toInt64).2
  · rw [h1] at t1
    simp only [Bool.false_eq_true, ↓reduceIte] at t1
    cases h2 : (q_ti false z b.toInt64).2
    · rw [h2] at t2
      simp only [Bool.false_eq_true, ↓reduceIte] at t2
      rw [t1, t2]
      have p1 := kq_pl n1 n2
      have m1 := q_pl_nn (B := false) n1 n2
      cases h3 : (q_pl false (q_ti false y a.toInt64).1 (q_ti false z b.toInt64).1).2
      · rw [h3] at p1
        simp only [Bool.false_eq_true, ↓reduceIte] at p1
        rw [p1]
        exact kq_pl hx m1
      · rw [h3] at p1
        simp only [↓reduceIte] at p1
        rw [p1, q_pl_t]
        unfold k_pl
        simp only [true_or, or_true, ↓reduceIte]
    · rw [h2] at t2
      simp only [↓reduceIte] at t2
      rw [t2, q_pl_t, q_pl_t]
      unfold k_pl
      simp only [true_or, or_true, ↓reduceIte]
  · rw [h1] at t1
    simp only [↓reduceIte] at t1
    rw [t1, q_ti_t, q_pl_t, q_pl_t]
    unfold k_pl
    simp only [true_or, or_true, ↓reduceIte]
theorem m1_nn {x : Int64} (h : 0 ≤ x.toInt) : ¬ x = -1 := fun e => by rw [e] at h; exact absurd h (by decide)
theorem q_row_t (x y z a b : Int64) : (q_row true x y z a b).2 = true := rfl
/-- whether a number is above the longs: for both the same; if not, both are the same square -/
theorem kq_nx {g : Nat → Int64} (hg : ∀ j, j < 9 → 0 ≤ (g j).toInt) {a b : Int32} (ha : 0 ≤ a.toInt) (hb : 0 ≤ b.toInt) (t : Bool) : k_bn (k_nx g a b t) 9 0 = (q_c false g a.toInt64 b.toInt64).2 ∧ ((q_c false g a.toInt64 b.toInt64).2 = false → ∀ j, j < 9 → k_nx g a b t j = q_nx false g a.toInt64 b.toInt64 t j) := by
  have g0 := hg 0 (by decide)
  have g1 := hg 1 (by decide)
  have g2 := hg 2 (by decide)
  have g3 := hg 3 (by decide)
  have g4 := hg 4 (by decide)
  have g5 := hg 5 (by decide)
  have g6 := hg 6 (by decide)
  have g7 := hg 7 (by decide)
  have g8 := hg 8 (by decide)
  have ha' : 0 ≤ a.toInt64.toInt := by rw [Int32.toInt_toInt64]; exact ha
  have hb' : 0 ≤ b.toInt64.toInt := by rw [Int32.toInt_toInt64]; exact hb
  have r0 := kq_row (a := a) (b := b) g0 g1 g2 ha hb
  have r1 := kq_row (a := a) (b := b) g3 g4 g5 ha hb
  have r2 := kq_row (a := a) (b := b) g6 g7 g8 ha hb
  have n0 := q_row_nn (B := false) g0 g1 g2 ha' hb'
  have n1 := q_row_nn (B := false) g3 g4 g5 ha' hb'
  have n2 := q_row_nn (B := false) g6 g7 g8 ha' hb'
  have x0 : ∀ u v : Int64, 0 ≤ u.toInt → 0 ≤ v.toInt → ((if t = true then u else v) = -1) = False := fun u v hu hv => by
    cases t
    · exact eq_false (m1_nn hv)
    · exact eq_false (m1_nn hu)
  have eB : k_bn (k_nx g a b t) 9 0 = (decide (k_r3 (g 0) (g 1) (g 2) a b = -1) || (decide (k_r3 (g 3) (g 4) (g 5) a b = -1) || decide (k_r3 (g 6) (g 7) (g 8) a b = -1))) := by
    unfold k_bn k_bn k_bn k_bn k_bn k_bn k_bn k_bn k_bn k_bn k_nx
    simp (decide := true) only [↓reduceIte, x0 _ _ g2 g1, x0 _ _ g1 g2, x0 _ _ g5 g4, x0 _ _ g4 g5, x0 _ _ g8 g7, x0 _ _ g7 g8, decide_false, Bool.false_or, Bool.or_false]
  rw [eB]
  unfold q_nx q_c q_b q_a
  cases h0 : (q_row false (g 0) (g 1) (g 2) a.toInt64 b.toInt64).2
  · rw [h0] at r0
    simp only [Bool.false_eq_true, ↓reduceIte] at r0
    cases h1 : (q_row false (g 3) (g 4) (g 5) a.toInt64 b.toInt64).2
    · rw [h1] at r1
      simp only [Bool.false_eq_true, ↓reduceIte] at r1
      cases h2 : (q_row false (g 6) (g 7) (g 8) a.toInt64 b.toInt64).2
      · rw [h2] at r2
        simp only [Bool.false_eq_true, ↓reduceIte] at r2
        rw [r0, r1, r2, decide_eq_false (m1_nn n0), decide_eq_false (m1_nn n1), decide_eq_false (m1_nn n2)]
        refine ⟨rfl, fun _ j hj => ?_⟩
        have eb : q_b false g a.toInt64 b.toInt64 = q_row false (g 3) (g 4) (g 5) a.toInt64 b.toInt64 := by
          unfold q_b q_a
          rw [h0]
        have ec : q_c false g a.toInt64 b.toInt64 = q_row false (g 6) (g 7) (g 8) a.toInt64 b.toInt64 := by
          unfold q_c
          rw [eb, h1]
        have hc : j = 0 ∨ j = 1 ∨ j = 2 ∨ j = 3 ∨ j = 4 ∨ j = 5 ∨ j = 6 ∨ j = 7 ∨ j = 8 := by omega
        rcases hc with rfl | rfl | rfl | rfl | rfl | rfl | rfl | rfl | rfl
        · rfl
        · rfl
        · exact r0
        · rfl
        · rfl
        · first | exact r1 | exact r1.trans (congrArg Prod.fst eb).symm
        · rfl
        · rfl
        · first | exact r2 | exact r2.trans (congrArg Prod.fst ec).symm
      · rw [h2] at r2
        simp only [↓reduceIte] at r2
        rw [r2, decide_eq_true rfl, Bool.or_true, Bool.or_true]
        exact ⟨rfl, fun h => absurd h (by decide)⟩
    · rw [h1] at r1
      simp only [↓reduceIte] at r1
      rw [r1, decide_eq_true rfl, Bool.true_or, Bool.or_true, q_row_t]
      exact ⟨rfl, fun h => absurd h (by decide)⟩
  · rw [h0] at r0
    simp only [↓reduceIte] at r0
    rw [r0, decide_eq_true rfl, Bool.true_or, q_row_t, q_row_t]
    exact ⟨rfl, fun h => absurd h (by decide)⟩

set_option maxHeartbeats 40000000 in
set_option maxRecDepth 100000 in
theorem s_67 (X : ip_X) (M : ip_H) (K : Option Value → ip_H → Prop) (x y : Int64) : ip_wp X 67 0 [.long x, .retAddr 1, .long y, .retAddr 1] [] M K = K (some (.long (k_pl x y))) M := by
  unfold k_pl
  by_cases h1 : x = -1
  · simp (config := { maxSteps := 10000000, maxDischargeDepth := 30, decide := true }) only [w67_0, w67_1, w67_4, w67_5, w67_8, w67_9, w67_12, w67_13, w67_16, w67_17, w67_20, w67_21, w67_22, w67_23, w67_26, w67_29, w67_30, w67_31, w67_32, w67_33, ↓ip_kl0, ↓reduceIte, true_or, h1, true_or]
  · by_cases h2 : y = -1
    · simp (config := { maxSteps := 10000000, maxDischargeDepth := 30, decide := true }) only [w67_0, w67_1, w67_4, w67_5, w67_8, w67_9, w67_12, w67_13, w67_16, w67_17, w67_20, w67_21, w67_22, w67_23, w67_26, w67_29, w67_30, w67_31, w67_32, w67_33, ↓ip_kl0, ↓ip_kl2, ↓reduceIte, true_or, or_true, Int64.reduceSub, ip_cmp_eq, h1, h2, or_true, true_or]
    · by_cases h3 : 9223372036854775807 - y < x
      · simp (config := { maxSteps := 10000000, maxDischargeDepth := 30, decide := true }) only [w67_0, w67_1, w67_4, w67_5, w67_8, w67_9, w67_12, w67_13, w67_16, w67_17, w67_20, w67_21, w67_22, w67_23, w67_26, w67_29, w67_30, w67_31, w67_32, w67_33, ↓ip_kl0, ↓ip_kl2, ↓reduceIte, or_true, ip_cmp_gt, ip_cmp_eq, h1, h2, h3, or_true]
      · simp (config := { maxSteps := 10000000, maxDischargeDepth := 30, decide := true }) only [w67_0, w67_1, w67_4, w67_5, w67_8, w67_9, w67_12, w67_13, w67_16, w67_17, w67_20, w67_21, w67_22, w67_23, w67_26, w67_29, w67_30, w67_31, w67_32, w67_33, ↓ip_kl0, ↓ip_kl2, ↓reduceIte, or_false, ip_cmp_gt, ip_cmp_eq, h1, h2, h3, or_false]

set_option maxHeartbeats 40000000 in
set_option maxRecDepth 100000 in
theorem s_68 (X : ip_X) (M : ip_H) (K : Option Value → ip_H → Prop) (n : Int32) (x : Int64) : ip_wp X 68 0 [.int n, .long x, .retAddr 1] [] M K = K (some (.long (k_ti n x))) M := by
  unfold k_ti
  by_cases h0 : n = 0
  · simp (config := { maxSteps := 10000000, maxDischargeDepth := 30, decide := true }) only [w68_0, w68_1, w68_4, w68_5, w68_6, w68_7, w68_10, w68_11, w68_14, w68_15, w68_18, w68_19, w68_20, w68_21, w68_22, w68_25, w68_28, w68_29, w68_30, w68_31, w68_32, w68_33, ↓ip_ki0, ↓reduceIte, h0]
  · have h4 : ¬ n.toInt64 = 0 := by rw [w_z]; exact h0
    by_cases h1 : x = -1
    · simp (config := { maxSteps := 10000000, maxDischargeDepth := 30, decide := true }) only [w68_0, w68_1, w68_4, w68_5, w68_6, w68_7, w68_10, w68_11, w68_14, w68_15, w68_18, w68_19, w68_20, w68_21, w68_22, w68_25, w68_28, w68_29, w68_30, w68_31, w68_32, w68_33, ↓ip_ki0, ↓ip_kl1, ↓reduceIte, true_or, h0, h1, true_or]
    · by_cases h3 : 9223372036854775807 / n.toInt64 < x
      · simp (config := { maxSteps := 10000000, maxDischargeDepth := 30, decide := true }) only [w68_0, w68_1, w68_4, w68_5, w68_6, w68_7, w68_10, w68_11, w68_14, w68_15, w68_18, w68_19, w68_20, w68_21, w68_22, w68_25, w68_28, w68_29, w68_30, w68_31, w68_32, w68_33, ↓ip_ki0, ↓ip_kl1, ↓reduceIte, or_true, not_false_eq_true, ip_cmp_gt, ip_cmp_eq, h0, h1, h3, h4, or_true]
      · simp (config := { maxSteps := 10000000, maxDischargeDepth := 30, decide := true }) only [w68_0, w68_1, w68_4, w68_5, w68_6, w68_7, w68_10, w68_11, w68_14, w68_15, w68_18, w68_19, w68_20, w68_21, w68_22, w68_25, w68_28, w68_29, w68_30, w68_31, w68_32, w68_33, ↓ip_ki0, ↓ip_kl1, ↓reduceIte, or_false, not_false_eq_true, ip_cmp_gt, ip_cmp_eq, h0, h1, h3, h4, or_false]

set_option maxHeartbeats 40000000 in
set_option maxRecDepth 100000 in
theorem s_66_f0 (X : ip_X) (M : ip_H) (K : Option Value → ip_H → Prop) (S A : Nat) (hs : ip_sh M S = (0, 4, 1)) (hr : M.2.2.2 S 0 = some A) (ha : ip_sh M A = (1, 1, 9)) (a b : Int32) (w5 w6 w7 w8 w9 w10 : Value) : ip_wp X 66 3 [.ref S, .int a, .int b, .int 0, .int 0, w5, w6, w7, w8, w9, w10] [] M K = ip_wp X 66 3 [.ref S, .int a, .int b, .int 0, .int 3, .long (M.2.2.1 A 0), .retAddr 1, .long (M.2.2.1 A 1), .retAddr 1, .long (M.2.2.1 A 2), .retAddr 1] [] (k_fr M A 0 (M.2.2.1 A 0) (M.2.2.1 A 1) (M.2.2.1 A 2) a b false) K := by
  have t68 := fun (N : ip_H) K (n : Int32) (x : Int64) => s_68 X N K n x
  have t67 := fun (N : ip_H) K (x y : Int64) => s_67 X N K x y
  generalize hR : ip_wp X 66 3 [.ref S, .int a, .int b, .int 0, .int 3, .long (M.2.2.1 A 0), .retAddr 1, .long (M.2.2.1 A 1), .retAddr 1, .long (M.2.2.1 A 2), .retAddr 1] [] (k_fr M A 0 (M.2.2.1 A 0) (M.2.2.1 A 1) (M.2.2.1 A 2) a b false) K = Q
  simp (config := { maxSteps := 10000000, maxDischargeDepth := 30, decide := true }) only [w66_3, w66_5, w66_7, w66_10, w66_11, w66_14, w66_16, w66_17, w66_19, w66_20, w66_23, w66_25, w66_26, w66_27, w66_28, w66_30, w66_31, w66_34, w66_36, w66_37, w66_38, w66_39, w66_41, w66_42, w66_45, w66_47, w66_48, w66_51, w66_53, w66_56, w66_58, w66_59, w66_60, w66_63, w66_65, w66_66, w66_67, w66_68, w66_71, w66_73, w66_76, w66_78, w66_79, w66_80, w66_83, w66_85, w66_86, w66_87, w66_89, w66_90, w66_92, w66_95, w66_96, w66_98, w66_101, w66_104, w66_107, w66_108, ↓ip_ka0, ↓ip_ki1, ↓ip_ki2, ↓ip_ki3, ↓ip_ki4, ↓ip_kl5, ↓ip_kl7, ↓ip_kl9, ip_get_0, ip_get_s, ip_set1, ip_set2, ip_clr_s, ip_cat_i, ip_cat_a, List.set_cons_zero, List.set_cons_succ, ip_uL_R, ip_uL_sh, ip_vr_some, Option.toList_some, List.nil_append, List.cons_append, List.length_nil, List.length_cons, ↓reduceIte, Nat.reduceAdd, Nat.reduceLeDiff, Nat.reduceEqDiff, Nat.zero_add, Int32.reduceAdd, Int32.reduceToNatClampNeg, ip_ix_eq, hs, hr, ha, t67, t68]
  rw [w66_111, ← hR]
  unfold k_fr k_r3
  simp only [Bool.false_eq_true, ↓reduceIte]

set_option maxHeartbeats 40000000 in
set_option maxRecDepth 100000 in
theorem s_66_f3 (X : ip_X) (M : ip_H) (K : Option Value → ip_H → Prop) (S A : Nat) (hs : ip_sh M S = (0, 4, 1)) (hr : M.2.2.2 S 0 = some A) (ha : ip_sh M A = (1, 1, 9)) (a b : Int32) (w5 w6 w7 w8 w9 w10 : Value) : ip_wp X 66 3 [.ref S, .int a, .int b, .int 0, .int 3, w5, w6, w7, w8, w9, w10] [] M K = ip_wp X 66 3 [.ref S, .int a, .int b, .int 0, .int 6, .long (M.2.2.1 A 3), .retAddr 1, .long (M.2.2.1 A 4), .retAddr 1, .long (M.2.2.1 A 5), .retAddr 1] [] (k_fr M A 3 (M.2.2.1 A 3) (M.2.2.1 A 4) (M.2.2.1 A 5) a b false) K := by
  have t68 := fun (N : ip_H) K (n : Int32) (x : Int64) => s_68 X N K n x
  have t67 := fun (N : ip_H) K (x y : Int64) => s_67 X N K x y
  generalize hR : ip_wp X 66 3 [.ref S, .int a, .int b, .int 0, .int 6, .long (M.2.2.1 A 3), .retAddr 1, .long (M.2.2.1 A 4), .retAddr 1, .long (M.2.2.1 A 5), .retAddr 1] [] (k_fr M A 3 (M.2.2.1 A 3) (M.2.2.1 A 4) (M.2.2.1 A 5) a b false) K = Q
  simp (config := { maxSteps := 10000000, maxDischargeDepth := 30, decide := true }) only [w66_3, w66_5, w66_7, w66_10, w66_11, w66_14, w66_16, w66_17, w66_19, w66_20, w66_23, w66_25, w66_26, w66_27, w66_28, w66_30, w66_31, w66_34, w66_36, w66_37, w66_38, w66_39, w66_41, w66_42, w66_45, w66_47, w66_48, w66_51, w66_53, w66_56, w66_58, w66_59, w66_60, w66_63, w66_65, w66_66, w66_67, w66_68, w66_71, w66_73, w66_76, w66_78, w66_79, w66_80, w66_83, w66_85, w66_86, w66_87, w66_89, w66_90, w66_92, w66_95, w66_96, w66_98, w66_101, w66_104, w66_107, w66_108, ↓ip_ka0, ↓ip_ki1, ↓ip_ki2, ↓ip_ki3, ↓ip_ki4, ↓ip_kl5, ↓ip_kl7, ↓ip_kl9, ip_get_0, ip_get_s, ip_set1, ip_set2, ip_clr_s, ip_cat_i, ip_cat_a, List.set_cons_zero, List.set_cons_succ, ip_uL_R, ip_uL_sh, ip_vr_some, Option.toList_some, List.nil_append, List.cons_append, List.length_nil, List.length_cons, ↓reduceIte, Nat.reduceAdd, Nat.reduceLeDiff, Nat.reduceEqDiff, Nat.zero_add, Int32.reduceAdd, Int32.reduceToNatClampNeg, ip_ix_eq, hs, hr, ha, t67, t68]
  rw [w66_111, ← hR]
  unfold k_fr k_r3
  simp only [Bool.false_eq_true, ↓reduceIte]

set_option maxHeartbeats 40000000 in
set_option maxRecDepth 100000 in
theorem s_66_f6 (X : ip_X) (M : ip_H) (K : Option Value → ip_H → Prop) (S A : Nat) (hs : ip_sh M S = (0, 4, 1)) (hr : M.2.2.2 S 0 = some A) (ha : ip_sh M A = (1, 1, 9)) (a b : Int32) (w5 w6 w7 w8 w9 w10 : Value) : ip_wp X 66 3 [.ref S, .int a, .int b, .int 0, .int 6, w5, w6, w7, w8, w9, w10] [] M K = ip_wp X 66 3 [.ref S, .int a, .int b, .int 0, .int 9, .long (M.2.2.1 A 6), .retAddr 1, .long (M.2.2.1 A 7), .retAddr 1, .long (M.2.2.1 A 8), .retAddr 1] [] (k_fr M A 6 (M.2.2.1 A 6) (M.2.2.1 A 7) (M.2.2.1 A 8) a b false) K := by
  have t68 := fun (N : ip_H) K (n : Int32) (x : Int64) => s_68 X N K n x
  have t67 := fun (N : ip_H) K (x y : Int64) => s_67 X N K x y
  generalize hR : ip_wp X 66 3 [.ref S, .int a, .int b, .int 0, .int 9, .long (M.2.2.1 A 6), .retAddr 1, .long (M.2.2.1 A 7), .retAddr 1, .long (M.2.2.1 A 8), .retAddr 1] [] (k_fr M A 6 (M.2.2.1 A 6) (M.2.2.1 A 7) (M.2.2.1 A 8) a b false) K = Q
  simp (config := { maxSteps := 10000000, maxDischargeDepth := 30, decide := true }) only [w66_3, w66_5, w66_7, w66_10, w66_11, w66_14, w66_16, w66_17, w66_19, w66_20, w66_23, w66_25, w66_26, w66_27, w66_28, w66_30, w66_31, w66_34, w66_36, w66_37, w66_38, w66_39, w66_41, w66_42, w66_45, w66_47, w66_48, w66_51, w66_53, w66_56, w66_58, w66_59, w66_60, w66_63, w66_65, w66_66, w66_67, w66_68, w66_71, w66_73, w66_76, w66_78, w66_79, w66_80, w66_83, w66_85, w66_86, w66_87, w66_89, w66_90, w66_92, w66_95, w66_96, w66_98, w66_101, w66_104, w66_107, w66_108, ↓ip_ka0, ↓ip_ki1, ↓ip_ki2, ↓ip_ki3, ↓ip_ki4, ↓ip_kl5, ↓ip_kl7, ↓ip_kl9, ip_get_0, ip_get_s, ip_set1, ip_set2, ip_clr_s, ip_cat_i, ip_cat_a, List.set_cons_zero, List.set_cons_succ, ip_uL_R, ip_uL_sh, ip_vr_some, Option.toList_some, List.nil_append, List.cons_append, List.length_nil, List.length_cons, ↓reduceIte, Nat.reduceAdd, Nat.reduceLeDiff, Nat.reduceEqDiff, Nat.zero_add, Int32.reduceAdd, Int32.reduceToNatClampNeg, ip_ix_eq, hs, hr, ha, t67, t68]
  rw [w66_111, ← hR]
  unfold k_fr k_r3
  simp only [Bool.false_eq_true, ↓reduceIte]

set_option maxHeartbeats 40000000 in
set_option maxRecDepth 100000 in
theorem s_66_f (X : ip_X) (M : ip_H) (K : Option Value → ip_H → Prop) (S A : Nat) (hs : ip_sh M S = (0, 4, 1)) (hr : M.2.2.2 S 0 = some A) (ha : ip_sh M A = (1, 1, 9)) (a b : Int32) : ip_wp X 66 0 [.ref S, .int a, .int b, .int 0, .retAddr 1, .retAddr 1, .retAddr 1, .retAddr 1, .retAddr 1, .retAddr 1, .retAddr 1] [] M K = K none (k_fo M A a b false) := by
  have t : ip_wp X 66 0 [.ref S, .int a, .int b, .int 0, .retAddr 1, .retAddr 1, .retAddr 1, .retAddr 1, .retAddr 1, .retAddr 1, .retAddr 1] [] M K = ip_wp X 66 3 [.ref S, .int a, .int b, .int 0, .int 0, .retAddr 1, .retAddr 1, .retAddr 1, .retAddr 1, .retAddr 1, .retAddr 1] [] M K := by
    simp (config := { maxSteps := 10000000, maxDischargeDepth := 30, decide := true }) only [w66_0, w66_1, ip_get_0, ip_get_s, ip_set1, ip_clr_s, ip_cat_i, List.set_cons_zero, List.set_cons_succ, ↓reduceIte, Nat.reduceEqDiff]
  rw [t, s_66_f0 X M K S A hs hr ha, s_66_f3 X (k_fr M A 0 (M.2.2.1 A 0) (M.2.2.1 A 1) (M.2.2.1 A 2) a b false) K S A hs hr ha, k_fr_L (j := 3) _ _ _ _ _ _ _ _ _ (by decide), k_fr_L (j := 4) _ _ _ _ _ _ _ _ _ (by decide), k_fr_L (j := 5) _ _ _ _ _ _ _ _ _ (by decide), s_66_f6 X (k_fr (k_fr M A 0 (M.2.2.1 A 0) (M.2.2.1 A 1) (M.2.2.1 A 2) a b false) A 3 (M.2.2.1 A 3) (M.2.2.1 A 4) (M.2.2.1 A 5) a b false) K S A hs hr ha, k_fr_L (j := 6) _ _ _ _ _ _ _ _ _ (by decide), k_fr_L (j := 6) _ _ _ _ _ _ _ _ _ (by decide), k_fr_L (j := 7) _ _ _ _ _ _ _ _ _ (by decide), k_fr_L (j := 7) _ _ _ _ _ _ _ _ _ (by decide), k_fr_L (j := 8) _ _ _ _ _ _ _ _ _ (by decide), k_fr_L (j := 8) _ _ _ _ _ _ _ _ _ (by decide), k_fr3]
  simp (config := { maxSteps := 10000000, maxDischargeDepth := 30, decide := true }) only [w66_3, w66_5, w66_7, w66_114, ↓ip_ki4, ↓reduceIte]

set_option maxHeartbeats 40000000 in
set_option maxRecDepth 100000 in
theorem s_66_t0 (X : ip_X) (M : ip_H) (K : Option Value → ip_H → Prop) (S A : Nat) (hs : ip_sh M S = (0, 4, 1)) (hr : M.2.2.2 S 0 = some A) (ha : ip_sh M A = (1, 1, 9)) (a b : Int32) (w5 w6 w7 w8 w9 w10 : Value) : ip_wp X 66 3 [.ref S, .int a, .int b, .int 1, .int 0, w5, w6, w7, w8, w9, w10] [] M K = ip_wp X 66 3 [.ref S, .int a, .int b, .int 1, .int 3, .long (M.2.2.1 A 0), .retAddr 1, .long (M.2.2.1 A 1), .retAddr 1, .long (M.2.2.1 A 2), .retAddr 1] [] (k_fr M A 0 (M.2.2.1 A 0) (M.2.2.1 A 1) (M.2.2.1 A 2) a b true) K := by
  have t68 := fun (N : ip_H) K (n : Int32) (x : Int64) => s_68 X N K n x
  have t67 := fun (N : ip_H) K (x y : Int64) => s_67 X N K x y
  generalize hR : ip_wp X 66 3 [.ref S, .int a, .int b, .int 1, .int 3, .long (M.2.2.1 A 0), .retAddr 1, .long (M.2.2.1 A 1), .retAddr 1, .long (M.2.2.1 A 2), .retAddr 1] [] (k_fr M A 0 (M.2.2.1 A 0) (M.2.2.1 A 1) (M.2.2.1 A 2) a b true) K = Q
  simp (config := { maxSteps := 10000000, maxDischargeDepth := 30, decide := true }) only [w66_3, w66_5, w66_7, w66_10, w66_11, w66_14, w66_16, w66_17, w66_19, w66_20, w66_23, w66_25, w66_26, w66_27, w66_28, w66_30, w66_31, w66_34, w66_36, w66_37, w66_38, w66_39, w66_41, w66_42, w66_45, w66_47, w66_48, w66_51, w66_53, w66_56, w66_58, w66_59, w66_60, w66_63, w66_65, w66_66, w66_67, w66_68, w66_71, w66_73, w66_76, w66_78, w66_79, w66_80, w66_83, w66_85, w66_86, w66_87, w66_89, w66_90, w66_92, w66_95, w66_96, w66_98, w66_101, w66_104, w66_107, w66_108, ↓ip_ka0, ↓ip_ki1, ↓ip_ki2, ↓ip_ki3, ↓ip_ki4, ↓ip_kl5, ↓ip_kl7, ↓ip_kl9, ip_get_0, ip_get_s, ip_set1, ip_set2, ip_clr_s, ip_cat_i, ip_cat_a, List.set_cons_zero, List.set_cons_succ, ip_uL_R, ip_uL_sh, ip_vr_some, Option.toList_some, List.nil_append, List.cons_append, List.length_nil, List.length_cons, ↓reduceIte, Nat.reduceAdd, Nat.reduceLeDiff, Nat.reduceEqDiff, Nat.zero_add, Int32.reduceAdd, Int32.reduceToNatClampNeg, ip_ix_eq, hs, hr, ha, t67, t68]
  rw [w66_111, ← hR]
  unfold k_fr k_r3
  simp only [Bool.false_eq_true, ↓reduceIte]

set_option maxHeartbeats 40000000 in
set_option maxRecDepth 100000 in
theorem s_66_t3 (X : ip_X) (M : ip_H) (K : Option Value → ip_H → Prop) (S A : Nat) (hs : ip_sh M S = (0, 4, 1)) (hr : M.2.2.2 S 0 = some A) (ha : ip_sh M A = (1, 1, 9)) (a b : Int32) (w5 w6 w7 w8 w9 w10 : Value) : ip_wp X 66 3 [.ref S, .int a, .int b, .int 1, .int 3, w5, w6, w7, w8, w9, w10] [] M K = ip_wp X 66 3 [.ref S, .int a, .int b, .int 1, .int 6, .long (M.2.2.1 A 3), .retAddr 1, .long (M.2.2.1 A 4), .retAddr 1, .long (M.2.2.1 A 5), .retAddr 1] [] (k_fr M A 3 (M.2.2.1 A 3) (M.2.2.1 A 4) (M.2.2.1 A 5) a b true) K := by
  have t68 := fun (N : ip_H) K (n : Int32) (x : Int64) => s_68 X N K n x
  have t67 := fun (N : ip_H) K (x y : Int64) => s_67 X N K x y
  generalize hR : ip_wp X 66 3 [.ref S, .int a, .int b, .int 1, .int 6, .long (M.2.2.1 A 3), .retAddr 1, .long (M.2.2.1 A 4), .retAddr 1, .long (M.2.2.1 A 5), .retAddr 1] [] (k_fr M A 3 (M.2.2.1 A 3) (M.2.2.1 A 4) (M.2.2.1 A 5) a b true) K = Q
  simp (config := { maxSteps := 10000000, maxDischargeDepth := 30, decide := true }) only [w66_3, w66_5, w66_7, w66_10, w66_11, w66_14, w66_16, w66_17, w66_19, w66_20, w66_23, w66_25, w66_26, w66_27, w66_28, w66_30, w66_31, w66_34, w66_36, w66_37, w66_38, w66_39, w66_41, w66_42, w66_45, w66_47, w66_48, w66_51, w66_53, w66_56, w66_58, w66_59, w66_60, w66_63, w66_65, w66_66, w66_67, w66_68, w66_71, w66_73, w66_76, w66_78, w66_79, w66_80, w66_83, w66_85, w66_86, w66_87, w66_89, w66_90, w66_92, w66_95, w66_96, w66_98, w66_101, w66_104, w66_107, w66_108, ↓ip_ka0, ↓ip_ki1, ↓ip_ki2, ↓ip_ki3, ↓ip_ki4, ↓ip_kl5, ↓ip_kl7, ↓ip_kl9, ip_get_0, ip_get_s, ip_set1, ip_set2, ip_clr_s, ip_cat_i, ip_cat_a, List.set_cons_zero, List.set_cons_succ, ip_uL_R, ip_uL_sh, ip_vr_some, Option.toList_some, List.nil_append, List.cons_append, List.length_nil, List.length_cons, ↓reduceIte, Nat.reduceAdd, Nat.reduceLeDiff, Nat.reduceEqDiff, Nat.zero_add, Int32.reduceAdd, Int32.reduceToNatClampNeg, ip_ix_eq, hs, hr, ha, t67, t68]
  rw [w66_111, ← hR]
  unfold k_fr k_r3
  simp only [Bool.false_eq_true, ↓reduceIte]

set_option maxHeartbeats 40000000 in
set_option maxRecDepth 100000 in
theorem s_66_t6 (X : ip_X) (M : ip_H) (K : Option Value → ip_H → Prop) (S A : Nat) (hs : ip_sh M S = (0, 4, 1)) (hr : M.2.2.2 S 0 = some A) (ha : ip_sh M A = (1, 1, 9)) (a b : Int32) (w5 w6 w7 w8 w9 w10 : Value) : ip_wp X 66 3 [.ref S, .int a, .int b, .int 1, .int 6, w5, w6, w7, w8, w9, w10] [] M K = ip_wp X 66 3 [.ref S, .int a, .int b, .int 1, .int 9, .long (M.2.2.1 A 6), .retAddr 1, .long (M.2.2.1 A 7), .retAddr 1, .long (M.2.2.1 A 8), .retAddr 1] [] (k_fr M A 6 (M.2.2.1 A 6) (M.2.2.1 A 7) (M.2.2.1 A 8) a b true) K := by
  have t68 := fun (N : ip_H) K (n : Int32) (x : Int64) => s_68 X N K n x
  have t67 := fun (N : ip_H) K (x y : Int64) => s_67 X N K x y
  generalize hR : ip_wp X 66 3 [.ref S, .int a, .int b, .int 1, .int 9, .long (M.2.2.1 A 6), .retAddr 1, .long (M.2.2.1 A 7), .retAddr 1, .long (M.2.2.1 A 8), .retAddr 1] [] (k_fr M A 6 (M.2.2.1 A 6) (M.2.2.1 A 7) (M.2.2.1 A 8) a b true) K = Q
  simp (config := { maxSteps := 10000000, maxDischargeDepth := 30, decide := true }) only [w66_3, w66_5, w66_7, w66_10, w66_11, w66_14, w66_16, w66_17, w66_19, w66_20, w66_23, w66_25, w66_26, w66_27, w66_28, w66_30, w66_31, w66_34, w66_36, w66_37, w66_38, w66_39, w66_41, w66_42, w66_45, w66_47, w66_48, w66_51, w66_53, w66_56, w66_58, w66_59, w66_60, w66_63, w66_65, w66_66, w66_67, w66_68, w66_71, w66_73, w66_76, w66_78, w66_79, w66_80, w66_83, w66_85, w66_86, w66_87, w66_89, w66_90, w66_92, w66_95, w66_96, w66_98, w66_101, w66_104, w66_107, w66_108, ↓ip_ka0, ↓ip_ki1, ↓ip_ki2, ↓ip_ki3, ↓ip_ki4, ↓ip_kl5, ↓ip_kl7, ↓ip_kl9, ip_get_0, ip_get_s, ip_set1, ip_set2, ip_clr_s, ip_cat_i, ip_cat_a, List.set_cons_zero, List.set_cons_succ, ip_uL_R, ip_uL_sh, ip_vr_some, Option.toList_some, List.nil_append, List.cons_append, List.length_nil, List.length_cons, ↓reduceIte, Nat.reduceAdd, Nat.reduceLeDiff, Nat.reduceEqDiff, Nat.zero_add, Int32.reduceAdd, Int32.reduceToNatClampNeg, ip_ix_eq, hs, hr, ha, t67, t68]
  rw [w66_111, ← hR]
  unfold k_fr k_r3
  simp only [Bool.false_eq_true, ↓reduceIte]

set_option maxHeartbeats 40000000 in
set_option maxRecDepth 100000 in
theorem s_66_t (X : ip_X) (M : ip_H) (K : Option Value → ip_H → Prop) (S A : Nat) (hs : ip_sh M S = (0, 4, 1)) (hr : M.2.2.2 S 0 = some A) (ha : ip_sh M A = (1, 1, 9)) (a b : Int32) : ip_wp X 66 0 [.ref S, .int a, .int b, .int 1, .retAddr 1, .retAddr 1, .retAddr 1, .retAddr 1, .retAddr 1, .retAddr 1, .retAddr 1] [] M K = K none (k_fo M A a b true) := by
  have t : ip_wp X 66 0 [.ref S, .int a, .int b, .int 1, .retAddr 1, .retAddr 1, .retAddr 1, .retAddr 1, .retAddr 1, .retAddr 1, .retAddr 1] [] M K = ip_wp X 66 3 [.ref S, .int a, .int b, .int 1, .int 0, .retAddr 1, .retAddr 1, .retAddr 1, .retAddr 1, .retAddr 1, .retAddr 1] [] M K := by
    simp (config := { maxSteps := 10000000, maxDischargeDepth := 30, decide := true }) only [w66_0, w66_1, ip_get_0, ip_get_s, ip_set1, ip_clr_s, ip_cat_i, List.set_cons_zero, List.set_cons_succ, ↓reduceIte, Nat.reduceEqDiff]
  rw [t, s_66_t0 X M K S A hs hr ha, s_66_t3 X (k_fr M A 0 (M.2.2.1 A 0) (M.2.2.1 A 1) (M.2.2.1 A 2) a b true) K S A hs hr ha, k_fr_L (j := 3) _ _ _ _ _ _ _ _ _ (by decide), k_fr_L (j := 4) _ _ _ _ _ _ _ _ _ (by decide), k_fr_L (j := 5) _ _ _ _ _ _ _ _ _ (by decide), s_66_t6 X (k_fr (k_fr M A 0 (M.2.2.1 A 0) (M.2.2.1 A 1) (M.2.2.1 A 2) a b true) A 3 (M.2.2.1 A 3) (M.2.2.1 A 4) (M.2.2.1 A 5) a b true) K S A hs hr ha, k_fr_L (j := 6) _ _ _ _ _ _ _ _ _ (by decide), k_fr_L (j := 6) _ _ _ _ _ _ _ _ _ (by decide), k_fr_L (j := 7) _ _ _ _ _ _ _ _ _ (by decide), k_fr_L (j := 7) _ _ _ _ _ _ _ _ _ (by decide), k_fr_L (j := 8) _ _ _ _ _ _ _ _ _ (by decide), k_fr_L (j := 8) _ _ _ _ _ _ _ _ _ (by decide), k_fr3]
  simp (config := { maxSteps := 10000000, maxDischargeDepth := 30, decide := true }) only [w66_3, w66_5, w66_7, w66_114, ↓ip_ki4, ↓reduceIte]

set_option maxHeartbeats 40000000 in
set_option maxRecDepth 100000 in
theorem s_64 (X : ip_X) (M : ip_H) (K : Option Value → ip_H → Prop) (S A : Nat) (hs : ip_sh M S = (0, 4, 1)) (hr : M.2.2.2 S 0 = some A) (ha : ip_sh M A = (1, 1, 9)) : ip_wp X 64 0 [.ref S] [] M K = K none (k_m9 M A 1 0 0 0 1 0 0 0 1) := by
  unfold k_m9
  simp (config := { maxSteps := 10000000, maxDischargeDepth := 30, decide := true }) only [w64_0, w64_1, w64_2, w64_3, w64_4, w64_5, w64_8, w64_9, w64_10, w64_11, w64_12, w64_13, w64_16, w64_17, w64_18, w64_19, w64_20, w64_21, w64_24, w63_0, w63_1, w63_2, w63_5, w63_8, w63_9, w63_10, w63_13, w63_14, w63_15, w63_16, w63_17, w63_18, w63_19, w63_22, w63_23, w63_24, w63_25, w63_26, w63_27, w63_29, w63_30, w63_31, w63_34, w63_35, w63_36, w63_37, w63_38, w63_39, w63_41, w63_42, w61_0, w61_1, w61_4, w61_5, w61_6, w61_9, w61_10, w61_13, w61_14, w61_15, w61_18, w61_19, w61_23, ↓ip_ki0, ↓ip_ka0, ↓ip_ki1, ↓ip_kl2, ↓ip_kl4, ↓ip_kl6, ip_uL_R, ip_uL_sh, ip_vr_some, Option.toList_some, Option.toList_none, List.nil_append, List.cons_append, List.length_nil, ↓reduceIte, Nat.zero_le, or_true, Int32.reduceAdd, Int32.reduceMul, Int32.reduceToNatClampNeg, ip_ix_eq, hs, hr, ha, z_o0, z_o1]

set_option maxHeartbeats 40000000 in
set_option maxRecDepth 100000 in
theorem s_65 (X : ip_X) (M : ip_H) (K : Option Value → ip_H → Prop) (S A T B : Nat) (hs : ip_sh M S = (0, 4, 1)) (hr : M.2.2.2 S 0 = some A) (ha : ip_sh M A = (1, 1, 9)) (ht : ip_sh M T = (0, 4, 1)) (hu : M.2.2.2 T 0 = some B) (hb : ip_sh M B = (1, 1, 9)) : ip_wp X 65 0 [.ref S, .ref T] [] M K = K none (ip_cpL M B A 0 0 9) := by
  simp (config := { maxSteps := 10000000, maxDischargeDepth := 30, decide := true }) only [w65_0, w65_1, w65_4, w65_5, w65_6, w65_9, w65_10, w65_12, w65_15, ↓ip_ka0, ↓ip_ka1, ip_vr_some, List.length_nil, ↓reduceIte, Nat.reduceLeDiff, Nat.reduceLT, Nat.zero_add, Nat.zero_le, true_or, and_self, not_false_eq_true, Int32.reduceLT, Int32.reduceToNatClampNeg, hs, hr, ha, ht, hu, hb, true_or]

set_option maxHeartbeats 40000000 in
set_option maxRecDepth 100000 in
theorem s_69l (X : ip_X) (M : ip_H) (K : Option Value → ip_H → Prop) (S A : Nat) (hs : ip_sh M S = (0, 4, 1)) (hr : M.2.2.2 S 0 = some A) (ha : ip_sh M A = (1, 1, 9)) : ∀ (n k : Nat), k + n = 9 → ip_wp X 69 2 [.ref S, .int (Int32.ofNat k)] [] M K = K (some (.int (ip_b (k_bn (M.2.2.1 A) n k)))) M := by
  intro n
  induction n with
  | zero =>
    intro k hk
    have g := k9l k (by omega)
    have g1 : ¬ k < 9 := by omega
    have e : k_bn (M.2.2.1 A) 0 k = false := rfl
    rw [e]
    simp (config := { maxSteps := 10000000, maxDischargeDepth := 30, decide := true }) only [w69_2, w69_3, w69_5, w69_29, w69_30, ↓ip_ki1, ↓reduceIte, or_false, ip_b_f, g, g1]
  | succ n ih =>
    intro k hk
    have g := k9l k (by omega)
    have g1 : (k < 9) = True := eq_true (by omega)
    have n0 := eq_false (ip_nn k (by omega))
    have c0 := ip_nc k (by omega)
    have ek : Int32.ofNat k + 1 = Int32.ofNat (k + 1) := ip_oa k 1
    have e : k_bn (M.2.2.1 A) (n + 1) k = (decide (M.2.2.1 A k = -1) || k_bn (M.2.2.1 A) n (k + 1)) := rfl
    rw [e]
    by_cases h : M.2.2.1 A k = -1
    · rw [decide_eq_true h, Bool.true_or]
      simp (config := { maxSteps := 10000000, maxDischargeDepth := 30, decide := true }) only [w69_2, w69_3, w69_5, w69_8, w69_9, w69_12, w69_13, w69_14, w69_17, w69_18, w69_21, w69_22, ↓ip_ka0, ↓ip_ki1, ip_vr_some, ↓reduceIte, or_true, and_self, not_false_eq_true, ip_b_t, ip_ix_eq, hs, hr, ha, g, g1, n0, c0, h]
    · rw [decide_eq_false h, Bool.false_or, ← ih (k + 1) (by omega)]
      generalize hR : ip_wp X 69 2 [.ref S, .int (Int32.ofNat (k + 1))] [] M K = Q
      simp (config := { maxSteps := 10000000, maxDischargeDepth := 30, decide := true }) only [w69_2, w69_3, w69_5, w69_8, w69_9, w69_12, w69_13, w69_14, w69_17, w69_18, w69_21, w69_22, w69_23, ↓ip_ka0, ↓ip_ki1, ip_get_0, ip_set1, ip_clr_s, ip_cat_r, List.set_cons_zero, List.set_cons_succ, ip_vr_some, ↓reduceIte, Nat.reduceEqDiff, and_self, not_false_eq_true, ip_ix_eq, ip_cmp_eq, hs, hr, ha, g, g1, n0, c0, ek, h]
      rw [w69_26, hR]

set_option maxHeartbeats 40000000 in
set_option maxRecDepth 100000 in
theorem s_69 (X : ip_X) (M : ip_H) (K : Option Value → ip_H → Prop) (S A : Nat) (hs : ip_sh M S = (0, 4, 1)) (hr : M.2.2.2 S 0 = some A) (ha : ip_sh M A = (1, 1, 9)) : ip_wp X 69 0 [.ref S, .retAddr 1] [] M K = K (some (.int (ip_b (k_bn (M.2.2.1 A) 9 0)))) M := by
  rw [← s_69l X M K S A hs hr ha 9 0 rfl]
  simp (config := { maxSteps := 10000000, maxDischargeDepth := 30, decide := true }) only [w69_0, w69_1, ip_get_0, ip_set1, ip_clr_s, ip_cat_r, List.set_cons_zero, List.set_cons_succ, ↓reduceIte, Nat.reduceEqDiff, Int32.reduceOfNat]

set_option maxHeartbeats 40000000 in
set_option maxRecDepth 100000 in
theorem s_70l (X : ip_X) (M : ip_H) (K : Option Value → ip_H → Prop) (S A : Nat) (hs : ip_sh M S = (0, 4, 1)) (hr : M.2.2.2 S 0 = some A) (ha : ip_sh M A = (1, 1, 9)) (m : Int64) : ∀ (n k : Nat), k + n = 9 → ip_wp X 70 2 [.ref S, .long m, .retAddr 1, .int (Int32.ofNat k)] [] M K = K (some (.int (ip_b (k_ab (M.2.2.1 A) m n k)))) M := by
  intro n
  induction n with
  | zero =>
    intro k hk
    have g := k9l k (by omega)
    have g1 : ¬ k < 9 := by omega
    have e : k_ab (M.2.2.1 A) m 0 k = false := rfl
    rw [e]
    simp (config := { maxSteps := 10000000, maxDischargeDepth := 30, decide := true }) only [w70_2, w70_3, w70_5, w70_27, w70_28, ↓ip_ki3, ↓reduceIte, or_false, ip_b_f, g, g1]
  | succ n ih =>
    intro k hk
    have g := k9l k (by omega)
    have g1 : (k < 9) = True := eq_true (by omega)
    have n0 := eq_false (ip_nn k (by omega))
    have c0 := ip_nc k (by omega)
    have ek : Int32.ofNat k + 1 = Int32.ofNat (k + 1) := ip_oa k 1
    have e : k_ab (M.2.2.1 A) m (n + 1) k = (decide (m < M.2.2.1 A k) || k_ab (M.2.2.1 A) m n (k + 1)) := rfl
    rw [e]
    by_cases h : m < M.2.2.1 A k
    · rw [decide_eq_true h, Bool.true_or]
      simp (config := { maxSteps := 10000000, maxDischargeDepth := 30, decide := true }) only [w70_2, w70_3, w70_5, w70_8, w70_9, w70_12, w70_13, w70_14, w70_15, w70_16, w70_19, w70_20, ↓ip_ka0, ↓ip_kl1, ↓ip_ki3, ip_vr_some, ↓reduceIte, or_true, and_self, not_false_eq_true, ip_b_t, ip_ix_eq, ip_cmp_gt, hs, hr, ha, g, g1, n0, c0, h]
    · rw [decide_eq_false h, Bool.false_or, ← ih (k + 1) (by omega)]
      generalize hR : ip_wp X 70 2 [.ref S, .long m, .retAddr 1, .int (Int32.ofNat (k + 1))] [] M K = Q
      simp (config := { maxSteps := 10000000, maxDischargeDepth := 30, decide := true }) only [w70_2, w70_3, w70_5, w70_8, w70_9, w70_12, w70_13, w70_14, w70_15, w70_16, w70_19, w70_20, w70_21, ↓ip_ka0, ↓ip_kl1, ↓ip_ki3, ip_get_0, ip_get_s, ip_set1, ip_clr_s, ip_cat_a, List.set_cons_zero, List.set_cons_succ, ip_vr_some, ↓reduceIte, Nat.reduceEqDiff, and_self, not_false_eq_true, ip_ix_eq, ip_cmp_gt, hs, hr, ha, g, g1, n0, c0, ek, h]
      rw [w70_24, hR]

set_option maxHeartbeats 40000000 in
set_option maxRecDepth 100000 in
theorem s_70 (X : ip_X) (M : ip_H) (K : Option Value → ip_H → Prop) (S A : Nat) (hs : ip_sh M S = (0, 4, 1)) (hr : M.2.2.2 S 0 = some A) (ha : ip_sh M A = (1, 1, 9)) (m : Int64) : ip_wp X 70 0 [.ref S, .long m, .retAddr 1, .retAddr 1] [] M K = K (some (.int (ip_b (k_ab (M.2.2.1 A) m 9 0)))) M := by
  rw [← s_70l X M K S A hs hr ha m 9 0 rfl]
  simp (config := { maxSteps := 10000000, maxDischargeDepth := 30, decide := true }) only [w70_0, w70_1, ip_get_0, ip_get_s, ip_set1, ip_clr_s, ip_cat_a, List.set_cons_zero, List.set_cons_succ, ↓reduceIte, Nat.reduceEqDiff, Int32.reduceOfNat]
end
noncomputable section
-- PART c13yf06.cowalk
-- equations of the instructions, by program counter
theorem ip_a11 (pc : Nat) : ip_at 11 pc = ip_c11.lookup pc := rfl
theorem w11_0 (X : ip_X) (ls st : List Value) (M : ip_H) (K : Option Value → ip_H → Prop) : ip_wp X 11 0 ls st M K = ip_ka (ip_get ls 0) (fun x => ip_wp X 11 1 ls (x :: st) M K) := wp_aload_n ((ip_a11 0).trans rfl)
theorem w11_1 (X : ip_X) (ls st : List Value) (M : ip_H) (K : Option Value → ip_H → Prop) (k : Nat) (h0 : (ip_sh M k).1 = 0) (h1 : (ip_sh M k).2.1 = 1) : ip_wp X 11 1 ls (.ref k :: st) M K = ip_wp X 11 4 ls (.int (M.2.1 k 3) :: st) M K := (wp_getI ((ip_a11 1).trans rfl)).trans (if_pos ⟨h0, h1⟩)
theorem w11_4 (X : ip_X) (ls st : List Value) (M : ip_H) (K : Option Value → ip_H → Prop) : ip_wp X 11 4 ls st M K = ip_wp X 11 5 ls (.int (-1) :: st) M K := wp_iconst ((ip_a11 4).trans rfl)
theorem w11_5 (X : ip_X) (ls st : List Value) (M : ip_H) (K : Option Value → ip_H → Prop) (x q : Int32) : ip_wp X 11 5 ls (.int q :: .int x :: st) M K = if x = q then ip_wp X 11 12 ls st M K else ip_wp X 11 8 ls st M K := wp_if_icmp_eq ((ip_a11 5).trans rfl)
theorem w11_8 (X : ip_X) (ls st : List Value) (M : ip_H) (K : Option Value → ip_H → Prop) : ip_wp X 11 8 ls st M K = ip_wp X 11 9 ls (.int 1 :: st) M K := wp_iconst ((ip_a11 8).trans rfl)
theorem w11_9 (X : ip_X) (ls st : List Value) (M : ip_H) (K : Option Value → ip_H → Prop) : ip_wp X 11 9 ls st M K = ip_wp X 11 13 ls st M K := wp_goto ((ip_a11 9).trans rfl)
theorem w11_12 (X : ip_X) (ls st : List Value) (M : ip_H) (K : Option Value → ip_H → Prop) : ip_wp X 11 12 ls st M K = ip_wp X 11 13 ls (.int 0 :: st) M K := wp_iconst ((ip_a11 12).trans rfl)
theorem w11_13 (X : ip_X) (ls : List Value) (M : ip_H) (K : Option Value → ip_H → Prop) (x : Int32) (h0 : x = 0 ∨ x = 1) : ip_wp X 11 13 ls [.int x] M K = K (some (.int x)) M := (wp_zret ((ip_a11 13).trans rfl)).trans (if_pos h0)
theorem ip_a12 (pc : Nat) : ip_at 12 pc = ip_c12.lookup pc := rfl
theorem w12_0 (X : ip_X) (ls st : List Value) (M : ip_H) (K : Option Value → ip_H → Prop) : ip_wp X 12 0 ls st M K = ip_ka (ip_get ls 0) (fun x => ip_wp X 12 1 ls (x :: st) M K) := wp_aload_n ((ip_a12 0).trans rfl)
theorem w12_1 (X : ip_X) (ls st : List Value) (M : ip_H) (K : Option Value → ip_H → Prop) (k : Nat) (h0 : st.length ≤ 4) (h1 : (ip_sh M k).1 = 0) (h2 : (ip_sh M k).2.1 = 1) : ip_wp X 12 1 ls (.ref k :: st) M K = ip_wp X 11 0 [.ref k] [] M (fun r M1 => ip_wp X 12 4 ls (r.toList ++ st) M1 K) := (wp_callV1_1 ((ip_a12 1).trans rfl) ⟨h0, by exact Nat.le_of_ble_eq_true rfl, h1, h2⟩)
theorem w12_4 (X : ip_X) (ls st : List Value) (M : ip_H) (K : Option Value → ip_H → Prop) (x : Int32) : ip_wp X 12 4 ls (.int x :: st) M K = if x = 0 then ip_wp X 12 19 ls st M K else ip_wp X 12 7 ls st M K := wp_ifCond_eq ((ip_a12 4).trans rfl)
theorem w12_7 (X : ip_X) (ls st : List Value) (M : ip_H) (K : Option Value → ip_H → Prop) : ip_wp X 12 7 ls st M K = ip_ka (ip_get ls 0) (fun x => ip_wp X 12 8 ls (x :: st) M K) := wp_aload_n ((ip_a12 7).trans rfl)
theorem w12_8 (X : ip_X) (ls st : List Value) (M : ip_H) (K : Option Value → ip_H → Prop) (k : Nat) (h0 : (ip_sh M k).1 = 0) (h1 : (ip_sh M k).2.1 = 1) : ip_wp X 12 8 ls (.ref k :: st) M K = ip_wp X 12 11 ls (.int (M.2.1 k 5) :: st) M K := (wp_getI ((ip_a12 8).trans rfl)).trans (if_pos ⟨h0, h1⟩)
theorem w12_11 (X : ip_X) (ls st : List Value) (M : ip_H) (K : Option Value → ip_H → Prop) : ip_wp X 12 11 ls st M K = ip_wp X 12 12 ls (.int (-1) :: st) M K := wp_iconst ((ip_a12 11).trans rfl)
theorem w12_12 (X : ip_X) (ls st : List Value) (M : ip_H) (K : Option Value → ip_H → Prop) (x q : Int32) : ip_wp X 12 12 ls (.int q :: .int x :: st) M K = if x = q then ip_wp X 12 19 ls st M K else ip_wp X 12 15 ls st M K := wp_if_icmp_eq ((ip_a12 12).trans rfl)
theorem w12_15 (X : ip_X) (ls st : List Value) (M : ip_H) (K : Option Value → ip_H → Prop) : ip_wp X 12 15 ls st M K = ip_wp X 12 16 ls (.int 1 :: st) M K := wp_iconst ((ip_a12 15).trans rfl)
theorem w12_16 (X : ip_X) (ls st : List Value) (M : ip_H) (K : Option Value → ip_H → Prop) : ip_wp X 12 16 ls st M K = ip_wp X 12 20 ls st M K := wp_goto ((ip_a12 16).trans rfl)
theorem w12_19 (X : ip_X) (ls st : List Value) (M : ip_H) (K : Option Value → ip_H → Prop) : ip_wp X 12 19 ls st M K = ip_wp X 12 20 ls (.int 0 :: st) M K := wp_iconst ((ip_a12 19).trans rfl)
theorem w12_20 (X : ip_X) (ls : List Value) (M : ip_H) (K : Option Value → ip_H → Prop) (x : Int32) (h0 : x = 0 ∨ x = 1) : ip_wp X 12 20 ls [.int x] M K = K (some (.int x)) M := (wp_zret ((ip_a12 20).trans rfl)).trans (if_pos h0)
theorem ip_a14 (pc : Nat) : ip_at 14 pc = ip_c14.lookup pc := rfl
theorem ip_s14 : lk_s 0 ip_c14 = true := by decide +kernel
theorem w14_0 (X : ip_X) (ls st : List Value) (M : ip_H) (K : Option Value → ip_H → Prop) : ip_wp X 14 0 ls st M K = ip_wp X 14 2 ls (.int 10 :: st) M K := wp_bipush ((ip_a14 0).trans (lk_of ip_s14 (k := 0) rfl))
theorem w14_2 (X : ip_X) (ls st : List Value) (M : ip_H) (K : Option Value → ip_H → Prop) : ip_wp X 14 2 ls st M K = ip_ki (ip_get ls 1) (fun x => ip_wp X 14 3 ls (.int x :: st) M K) := wp_iload_n ((ip_a14 2).trans (lk_of ip_s14 (k := 1) rfl))
theorem w14_3 (X : ip_X) (ls st : List Value) (M : ip_H) (K : Option Value → ip_H → Prop) (x q : Int32) : ip_wp X 14 3 ls (.int q :: .int x :: st) M K = ip_wp X 14 4 ls (.int (x * q) :: st) M K := wp_imul ((ip_a14 3).trans (lk_of ip_s14 (k := 2) rfl))
theorem w14_4 (X : ip_X) (ls st : List Value) (M : ip_H) (K : Option Value → ip_H → Prop) : ip_wp X 14 4 ls st M K = ip_wp X 14 5 ls (.int 5 :: st) M K := wp_iconst ((ip_a14 4).trans (lk_of ip_s14 (k := 3) rfl))
theorem w14_5 (X : ip_X) (ls st : List Value) (M : ip_H) (K : Option Value → ip_H → Prop) : ip_wp X 14 5 ls st M K = ip_ki (ip_get ls 2) (fun x => ip_wp X 14 6 ls (.int x :: st) M K) := wp_iload_n ((ip_a14 5).trans (lk_of ip_s14 (k := 4) rfl))
theorem w14_6 (X : ip_X) (ls st : List Value) (M : ip_H) (K : Option Value → ip_H → Prop) (x q : Int32) : ip_wp X 14 6 ls (.int q :: .int x :: st) M K = ip_wp X 14 7 ls (.int (x * q) :: st) M K := wp_imul ((ip_a14 6).trans (lk_of ip_s14 (k := 5) rfl))
theorem w14_7 (X : ip_X) (ls st : List Value) (M : ip_H) (K : Option Value → ip_H → Prop) (x q : Int32) : ip_wp X 14 7 ls (.int q :: .int x :: st) M K = ip_wp X 14 8 ls (.int (x + q) :: st) M K := wp_iadd ((ip_a14 7).trans (lk_of ip_s14 (k := 6) rfl))
theorem w14_8 (X : ip_X) (ls st : List Value) (M : ip_H) (K : Option Value → ip_H → Prop) : ip_wp X 14 8 ls st M K = ip_ki (ip_get ls 3) (fun x => ip_wp X 14 9 ls (.int x :: st) M K) := wp_iload_n ((ip_a14 8).trans (lk_of ip_s14 (k := 7) rfl))
theorem w14_9 (X : ip_X) (ls st : List Value) (M : ip_H) (K : Option Value → ip_H → Prop) (x q : Int32) : ip_wp X 14 9 ls (.int q :: .int x :: st) M K = ip_wp X 14 10 ls (.int (x + q) :: st) M K := wp_iadd ((ip_a14 9).trans (lk_of ip_s14 (k := 8) rfl))
theorem w14_10 (X : ip_X) (ls st : List Value) (M : ip_H) (K : Option Value → ip_H → Prop) (x : Int32) : ip_wp X 14 10 ls (.int x :: st) M K = ip_wp X 14 12 (ip_set1 ls 4 (.int x)) st M K := wp_istore ((ip_a14 10).trans (lk_of ip_s14 (k := 9) rfl))
theorem w14_12 (X : ip_X) (ls st : List Value) (M : ip_H) (K : Option Value → ip_H → Prop) : ip_wp X 14 12 ls st M K = ip_ki (ip_get ls 1) (fun x => ip_wp X 14 13 ls (.int x :: st) M K) := wp_iload_n ((ip_a14 12).trans (lk_of ip_s14 (k := 10) rfl))
theorem w14_13 (X : ip_X) (ls st : List Value) (M : ip_H) (K : Option Value → ip_H → Prop) (x : Int32) : ip_wp X 14 13 ls (.int x :: st) M K = if x < 0 then ip_wp X 14 41 ls st M K else ip_wp X 14 16 ls st M K := wp_ifCond_lt ((ip_a14 13).trans (lk_of ip_s14 (k := 11) rfl))
theorem w14_16 (X : ip_X) (ls st : List Value) (M : ip_H) (K : Option Value → ip_H → Prop) : ip_wp X 14 16 ls st M K = ip_ki (ip_get ls 4) (fun x => ip_wp X 14 18 ls (.int x :: st) M K) := wp_iload ((ip_a14 16).trans (lk_of ip_s14 (k := 12) rfl))
theorem w14_18 (X : ip_X) (ls st : List Value) (M : ip_H) (K : Option Value → ip_H → Prop) (x : Int32) : ip_wp X 14 18 ls (.int x :: st) M K = if x < 0 then ip_wp X 14 41 ls st M K else ip_wp X 14 21 ls st M K := wp_ifCond_lt ((ip_a14 18).trans (lk_of ip_s14 (k := 13) rfl))
theorem w14_21 (X : ip_X) (ls st : List Value) (M : ip_H) (K : Option Value → ip_H → Prop) : ip_wp X 14 21 ls st M K = ip_ki (ip_get ls 4) (fun x => ip_wp X 14 23 ls (.int x :: st) M K) := wp_iload ((ip_a14 21).trans (lk_of ip_s14 (k := 14) rfl))
theorem w14_23 (X : ip_X) (ls st : List Value) (M : ip_H) (K : Option Value → ip_H → Prop) : ip_wp X 14 23 ls st M K = ip_ka (ip_get ls 0) (fun x => ip_wp X 14 24 ls (x :: st) M K) := wp_aload_n ((ip_a14 23).trans (lk_of ip_s14 (k := 15) rfl))
theorem w14_24 (X : ip_X) (ls st : List Value) (M : ip_H) (K : Option Value → ip_H → Prop) (k : Nat) (h0 : (ip_sh M k).1 = 0) (h1 : (ip_sh M k).2.1 = 1) : ip_wp X 14 24 ls (.ref k :: st) M K = ip_wp X 14 27 ls (ip_vr (M.2.2.2 k 0) :: st) M K := (wp_getR ((ip_a14 24).trans (lk_of ip_s14 (k := 16) rfl))).trans (if_pos ⟨h0, h1⟩)
theorem w14_27 (X : ip_X) (ls st : List Value) (M : ip_H) (K : Option Value → ip_H → Prop) (k : Nat) (h0 : (ip_sh M k).1 = 1) : ip_wp X 14 27 ls (.ref k :: st) M K = ip_wp X 14 28 ls (.int (Int32.ofNat (ip_sh M k).2.2) :: st) M K := (wp_alen ((ip_a14 27).trans (lk_of ip_s14 (k := 17) rfl))).trans (if_pos h0)
theorem w14_28 (X : ip_X) (ls st : List Value) (M : ip_H) (K : Option Value → ip_H → Prop) (x q : Int32) : ip_wp X 14 28 ls (.int q :: .int x :: st) M K = if x < q then ip_wp X 14 31 ls st M K else ip_wp X 14 41 ls st M K := wp_if_icmp_ge ((ip_a14 28).trans (lk_of ip_s14 (k := 18) rfl))
theorem w14_31 (X : ip_X) (ls st : List Value) (M : ip_H) (K : Option Value → ip_H → Prop) : ip_wp X 14 31 ls st M K = ip_ka (ip_get ls 0) (fun x => ip_wp X 14 32 ls (x :: st) M K) := wp_aload_n ((ip_a14 31).trans (lk_of ip_s14 (k := 19) rfl))
theorem w14_32 (X : ip_X) (ls st : List Value) (M : ip_H) (K : Option Value → ip_H → Prop) (k : Nat) (h0 : (ip_sh M k).1 = 0) (h1 : (ip_sh M k).2.1 = 1) : ip_wp X 14 32 ls (.ref k :: st) M K = ip_wp X 14 35 ls (ip_vr (M.2.2.2 k 0) :: st) M K := (wp_getR ((ip_a14 32).trans (lk_of ip_s14 (k := 20) rfl))).trans (if_pos ⟨h0, h1⟩)
theorem w14_35 (X : ip_X) (ls st : List Value) (M : ip_H) (K : Option Value → ip_H → Prop) : ip_wp X 14 35 ls st M K = ip_ki (ip_get ls 4) (fun x => ip_wp X 14 37 ls (.int x :: st) M K) := wp_iload ((ip_a14 35).trans (lk_of ip_s14 (k := 21) rfl))
theorem w14_37 (X : ip_X) (ls st : List Value) (M : ip_H) (K : Option Value → ip_H → Prop) (i : Int32) (k : Nat) (h0 : (ip_sh M k).1 = 1) (h1 : (ip_sh M k).2.1 = 0) (h2 : ip_ix i (ip_sh M k).2.2 = true) : ip_wp X 14 37 ls (.int i :: .ref k :: st) M K = ip_wp X 14 38 ls (.int (M.2.1 k i.toNatClampNeg) :: st) M K := (wp_iaload ((ip_a14 37).trans (lk_of ip_s14 (k := 22) rfl))).trans (if_pos ⟨h0, h1, h2⟩)
theorem w14_38 (X : ip_X) (ls st : List Value) (M : ip_H) (K : Option Value → ip_H → Prop) : ip_wp X 14 38 ls st M K = ip_wp X 14 43 ls st M K := wp_goto ((ip_a14 38).trans (lk_of ip_s14 (k := 23) rfl))
theorem w14_41 (X : ip_X) (ls st : List Value) (M : ip_H) (K : Option Value → ip_H → Prop) : ip_wp X 14 41 ls st M K = ip_wp X 14 43 ls (.int (-2147483648) :: st) M K := wp_ldc ((ip_a14 41).trans (lk_of ip_s14 (k := 24) rfl))
theorem w14_43 (X : ip_X) (ls : List Value) (M : ip_H) (K : Option Value → ip_H → Prop) (x : Int32) : ip_wp X 14 43 ls [.int x] M K = K (some (.int x)) M := wp_iret ((ip_a14 43).trans (lk_of ip_s14 (k := 25) rfl))
theorem ip_a15 (pc : Nat) : ip_at 15 pc = ip_c15.lookup pc := rfl
theorem w15_0 (X : ip_X) (ls st : List Value) (M : ip_H) (K : Option Value → ip_H → Prop) : ip_wp X 15 0 ls st M K = ip_ka (ip_get ls 0) (fun x => ip_wp X 15 1 ls (x :: st) M K) := wp_aload_n ((ip_a15 0).trans rfl)
theorem w15_1 (X : ip_X) (ls st : List Value) (M : ip_H) (K : Option Value → ip_H → Prop) : ip_wp X 15 1 ls st M K = ip_ki (ip_get ls 1) (fun x => ip_wp X 15 2 ls (.int x :: st) M K) := wp_iload_n ((ip_a15 1).trans rfl)
theorem w15_2 (X : ip_X) (ls st : List Value) (M : ip_H) (K : Option Value → ip_H → Prop) : ip_wp X 15 2 ls st M K = ip_ki (ip_get ls 2) (fun x => ip_wp X 15 3 ls (.int x :: st) M K) := wp_iload_n ((ip_a15 2).trans rfl)
theorem w15_3 (X : ip_X) (ls st : List Value) (M : ip_H) (K : Option Value → ip_H → Prop) : ip_wp X 15 3 ls st M K = ip_wp X 15 4 ls (.int 4 :: st) M K := wp_iconst ((ip_a15 3).trans rfl)
theorem w15_4 (X : ip_X) (ls st : List Value) (M : ip_H) (K : Option Value → ip_H → Prop) (k : Nat) (x0 : Int32) (x1 : Int32) (x2 : Int32) (h0 : st.length ≤ 4) (h1 : (ip_sh M k).1 = 0) (h2 : (ip_sh M k).2.1 = 1) : ip_wp X 15 4 ls (.int x2 :: .int x1 :: .int x0 :: .ref k :: st) M K = ip_wp X 14 0 [.ref k, .int x0, .int x1, .int x2, .retAddr 1] [] M (fun r M1 => ip_wp X 15 7 ls (r.toList ++ st) M1 K) := (wp_callV1_4 ((ip_a15 4).trans rfl) ⟨h0, by exact Nat.le_of_ble_eq_true rfl, h1, h2⟩)
theorem w15_7 (X : ip_X) (ls : List Value) (M : ip_H) (K : Option Value → ip_H → Prop) (x : Int32) : ip_wp X 15 7 ls [.int x] M K = K (some (.int x)) M := wp_iret ((ip_a15 7).trans rfl)
theorem ip_a16 (pc : Nat) : ip_at 16 pc = ip_c16.lookup pc := rfl
theorem w16_0 (X : ip_X) (ls st : List Value) (M : ip_H) (K : Option Value → ip_H → Prop) : ip_wp X 16 0 ls st M K = ip_ka (ip_get ls 3) (fun x => ip_wp X 16 1 ls (x :: st) M K) := wp_aload_n ((ip_a16 0).trans rfl)
theorem w16_1 (X : ip_X) (ls st : List Value) (M : ip_H) (K : Option Value → ip_H → Prop) : ip_wp X 16 1 ls st M K = ip_ka (ip_get ls 0) (fun x => ip_wp X 16 2 ls (x :: st) M K) := wp_aload_n ((ip_a16 1).trans rfl)
theorem w16_2 (X : ip_X) (ls st : List Value) (M : ip_H) (K : Option Value → ip_H → Prop) (k : Nat) (h0 : (ip_sh M k).1 = 0) (h1 : (ip_sh M k).2.1 = 1) : ip_wp X 16 2 ls (.ref k :: st) M K = ip_wp X 16 5 ls (ip_vr (M.2.2.2 k 0) :: st) M K := (wp_getR ((ip_a16 2).trans rfl)).trans (if_pos ⟨h0, h1⟩)
theorem w16_5 (X : ip_X) (ls st : List Value) (M : ip_H) (K : Option Value → ip_H → Prop) : ip_wp X 16 5 ls st M K = ip_wp X 16 7 ls (.int 10 :: st) M K := wp_bipush ((ip_a16 5).trans rfl)
theorem w16_7 (X : ip_X) (ls st : List Value) (M : ip_H) (K : Option Value → ip_H → Prop) : ip_wp X 16 7 ls st M K = ip_ki (ip_get ls 1) (fun x => ip_wp X 16 8 ls (.int x :: st) M K) := wp_iload_n ((ip_a16 7).trans rfl)
theorem w16_8 (X : ip_X) (ls st : List Value) (M : ip_H) (K : Option Value → ip_H → Prop) (x q : Int32) : ip_wp X 16 8 ls (.int q :: .int x :: st) M K = ip_wp X 16 9 ls (.int (x * q) :: st) M K := wp_imul ((ip_a16 8).trans rfl)
theorem w16_9 (X : ip_X) (ls st : List Value) (M : ip_H) (K : Option Value → ip_H → Prop) : ip_wp X 16 9 ls st M K = ip_wp X 16 10 ls (.int 5 :: st) M K := wp_iconst ((ip_a16 9).trans rfl)
theorem w16_10 (X : ip_X) (ls st : List Value) (M : ip_H) (K : Option Value → ip_H → Prop) : ip_wp X 16 10 ls st M K = ip_ki (ip_get ls 2) (fun x => ip_wp X 16 11 ls (.int x :: st) M K) := wp_iload_n ((ip_a16 10).trans rfl)
theorem w16_11 (X : ip_X) (ls st : List Value) (M : ip_H) (K : Option Value → ip_H → Prop) (x q : Int32) : ip_wp X 16 11 ls (.int q :: .int x :: st) M K = ip_wp X 16 12 ls (.int (x * q) :: st) M K := wp_imul ((ip_a16 11).trans rfl)
theorem w16_12 (X : ip_X) (ls st : List Value) (M : ip_H) (K : Option Value → ip_H → Prop) (x q : Int32) : ip_wp X 16 12 ls (.int q :: .int x :: st) M K = ip_wp X 16 13 ls (.int (x + q) :: st) M K := wp_iadd ((ip_a16 12).trans rfl)
theorem w16_13 (X : ip_X) (ls st : List Value) (M : ip_H) (K : Option Value → ip_H → Prop) (k : Nat) (x0 : Nat) (x1 : Int32) (h0 : st.length ≤ 4) (h1 : (ip_sh M k).1 = 0) (h2 : (ip_sh M k).2.1 = 8) : ip_wp X 16 13 ls (.int x1 :: .ref x0 :: .ref k :: st) M K = ip_wp X 96 0 [.ref k, .ref x0, .int x1] [] M (fun r M1 => ip_wp X 16 16 ls (r.toList ++ st) M1 K) := (wp_callV1_3 ((ip_a16 13).trans rfl) ⟨h0, by exact Nat.le_of_ble_eq_true rfl, h1, h2⟩)
theorem w16_16 (X : ip_X) (ls : List Value) (M : ip_H) (K : Option Value → ip_H → Prop) : ip_wp X 16 16 ls [] M K = K none M := wp_vret ((ip_a16 16).trans rfl)
theorem ip_a18 (pc : Nat) : ip_at 18 pc = ip_c18.lookup pc := rfl
theorem w18_0 (X : ip_X) (ls st : List Value) (M : ip_H) (K : Option Value → ip_H → Prop) : ip_wp X 18 0 ls st M K = ip_ka (ip_get ls 0) (fun x => ip_wp X 18 1 ls (x :: st) M K) := wp_aload_n ((ip_a18 0).trans rfl)
theorem w18_1 (X : ip_X) (ls st : List Value) (M : ip_H) (K : Option Value → ip_H → Prop) : ip_wp X 18 1 ls st M K = ip_ka (ip_get ls 1) (fun x => ip_wp X 18 2 ls (x :: st) M K) := wp_aload_n ((ip_a18 1).trans rfl)
theorem w18_2 (X : ip_X) (ls st : List Value) (M : ip_H) (K : Option Value → ip_H → Prop) (x0 : Nat) (x1 : Nat) (h0 : st.length ≤ 4) : ip_wp X 18 2 ls (.ref x1 :: .ref x0 :: st) M K = ip_wp X 19 0 [.ref x0, .ref x1] [] M (fun r M1 => ip_wp X 18 5 ls (r.toList ++ st) M1 K) := (wp_callS0_2 ((ip_a18 2).trans rfl) ⟨h0, by exact Nat.le_of_ble_eq_true rfl⟩)
theorem w18_5 (X : ip_X) (ls st : List Value) (M : ip_H) (K : Option Value → ip_H → Prop) (x : Int32) : ip_wp X 18 5 ls (.int x :: st) M K = if x = 0 then ip_wp X 18 20 ls st M K else ip_wp X 18 8 ls st M K := wp_ifCond_eq ((ip_a18 5).trans rfl)
theorem w18_8 (X : ip_X) (ls st : List Value) (M : ip_H) (K : Option Value → ip_H → Prop) : ip_wp X 18 8 ls st M K = ip_ka (ip_get ls 0) (fun x => ip_wp X 18 9 ls (x :: st) M K) := wp_aload_n ((ip_a18 8).trans rfl)
theorem w18_9 (X : ip_X) (ls st : List Value) (M : ip_H) (K : Option Value → ip_H → Prop) : ip_wp X 18 9 ls st M K = ip_ka (ip_get ls 2) (fun x => ip_wp X 18 10 ls (x :: st) M K) := wp_aload_n ((ip_a18 9).trans rfl)
theorem w18_10 (X : ip_X) (ls st : List Value) (M : ip_H) (K : Option Value → ip_H → Prop) (x0 : Nat) (x1 : Nat) (h0 : st.length ≤ 4) : ip_wp X 18 10 ls (.ref x1 :: .ref x0 :: st) M K = ip_wp X 19 0 [.ref x0, .ref x1] [] M (fun r M1 => ip_wp X 18 13 ls (r.toList ++ st) M1 K) := (wp_callS0_2 ((ip_a18 10).trans rfl) ⟨h0, by exact Nat.le_of_ble_eq_true rfl⟩)
theorem w18_13 (X : ip_X) (ls st : List Value) (M : ip_H) (K : Option Value → ip_H → Prop) (x : Int32) : ip_wp X 18 13 ls (.int x :: st) M K = if x = 0 then ip_wp X 18 20 ls st M K else ip_wp X 18 16 ls st M K := wp_ifCond_eq ((ip_a18 13).trans rfl)
theorem w18_16 (X : ip_X) (ls st : List Value) (M : ip_H) (K : Option Value → ip_H → Prop) : ip_wp X 18 16 ls st M K = ip_wp X 18 17 ls (.int 1 :: st) M K := wp_iconst ((ip_a18 16).trans rfl)
theorem w18_17 (X : ip_X) (ls st : List Value) (M : ip_H) (K : Option Value → ip_H → Prop) : ip_wp X 18 17 ls st M K = ip_wp X 18 21 ls st M K := wp_goto ((ip_a18 17).trans rfl)
theorem w18_20 (X : ip_X) (ls st : List Value) (M : ip_H) (K : Option Value → ip_H → Prop) : ip_wp X 18 20 ls st M K = ip_wp X 18 21 ls (.int 0 :: st) M K := wp_iconst ((ip_a18 20).trans rfl)
theorem w18_21 (X : ip_X) (ls : List Value) (M : ip_H) (K : Option Value → ip_H → Prop) (x : Int32) (h0 : x = 0 ∨ x = 1) : ip_wp X 18 21 ls [.int x] M K = K (some (.int x)) M := (wp_zret ((ip_a18 21).trans rfl)).trans (if_pos h0)
theorem ip_a19 (pc : Nat) : ip_at 19 pc = ip_c19.lookup pc := rfl
theorem w19_0 (X : ip_X) (ls st : List Value) (M : ip_H) (K : Option Value → ip_H → Prop) : ip_wp X 19 0 ls st M K = ip_ka (ip_get ls 0) (fun x => ip_wp X 19 1 ls (x :: st) M K) := wp_aload_n ((ip_a19 0).trans rfl)
theorem w19_1 (X : ip_X) (ls st : List Value) (M : ip_H) (K : Option Value → ip_H → Prop) : ip_wp X 19 1 ls st M K = ip_ka (ip_get ls 1) (fun x => ip_wp X 19 2 ls (x :: st) M K) := wp_aload_n ((ip_a19 1).trans rfl)
theorem w19_2 (X : ip_X) (ls st : List Value) (M : ip_H) (K : Option Value → ip_H → Prop) (k : Nat) (x0 : Nat) (h0 : st.length ≤ 4) (h1 : (ip_sh M k).1 = 0) (h2 : (ip_sh M k).2.1 = 2) : ip_wp X 19 2 ls (.ref x0 :: .ref k :: st) M K = ip_wp X 46 0 [.ref k, .ref x0] [] M (fun r M1 => ip_wp X 19 5 ls (r.toList ++ st) M1 K) := (wp_callV1_2 ((ip_a19 2).trans rfl) ⟨h0, by exact Nat.le_of_ble_eq_true rfl, h1, h2⟩)
theorem w19_5 (X : ip_X) (ls st : List Value) (M : ip_H) (K : Option Value → ip_H → Prop) (x : Int32) : ip_wp X 19 5 ls (.int x :: st) M K = if 0 < x then ip_wp X 19 8 ls st M K else ip_wp X 19 22 ls st M K := wp_ifCond_le ((ip_a19 5).trans rfl)
theorem w19_8 (X : ip_X) (ls st : List Value) (M : ip_H) (K : Option Value → ip_H → Prop) : ip_wp X 19 8 ls st M K = ip_ka (ip_get ls 0) (fun x => ip_wp X 19 9 ls (x :: st) M K) := wp_aload_n ((ip_a19 8).trans rfl)
theorem w19_9 (X : ip_X) (ls st : List Value) (M : ip_H) (K : Option Value → ip_H → Prop) : ip_wp X 19 9 ls st M K = ip_ka (ip_get ls 1) (fun x => ip_wp X 19 10 ls (x :: st) M K) := wp_aload_n ((ip_a19 9).trans rfl)
theorem w19_10 (X : ip_X) (ls st : List Value) (M : ip_H) (K : Option Value → ip_H → Prop) (k : Nat) (x0 : Nat) (h0 : st.length ≤ 4) (h1 : (ip_sh M k).1 = 0) (h2 : (ip_sh M k).2.1 = 2) : ip_wp X 19 10 ls (.ref x0 :: .ref k :: st) M K = ip_wp X 49 0 [.ref k, .ref x0, .retAddr 1, .retAddr 1, .retAddr 1, .retAddr 1] [] M (fun r M1 => ip_wp X 19 13 ls (r.toList ++ st) M1 K) := (wp_callV1_2 ((ip_a19 10).trans rfl) ⟨h0, by exact Nat.le_of_ble_eq_true rfl, h1, h2⟩)
theorem w19_13 (X : ip_X) (ls st : List Value) (M : ip_H) (K : Option Value → ip_H → Prop) : ip_wp X 19 13 ls st M K = ip_wp X 19 15 ls (.int 99 :: st) M K := wp_bipush ((ip_a19 13).trans rfl)
theorem w19_15 (X : ip_X) (ls st : List Value) (M : ip_H) (K : Option Value → ip_H → Prop) (x q : Int32) : ip_wp X 19 15 ls (.int q :: .int x :: st) M K = if q < x then ip_wp X 19 22 ls st M K else ip_wp X 19 18 ls st M K := wp_if_icmp_gt ((ip_a19 15).trans rfl)
theorem w19_18 (X : ip_X) (ls st : List Value) (M : ip_H) (K : Option Value → ip_H → Prop) : ip_wp X 19 18 ls st M K = ip_wp X 19 19 ls (.int 1 :: st) M K := wp_iconst ((ip_a19 18).trans rfl)
theorem w19_19 (X : ip_X) (ls st : List Value) (M : ip_H) (K : Option Value → ip_H → Prop) : ip_wp X 19 19 ls st M K = ip_wp X 19 23 ls st M K := wp_goto ((ip_a19 19).trans rfl)
theorem w19_22 (X : ip_X) (ls st : List Value) (M : ip_H) (K : Option Value → ip_H → Prop) : ip_wp X 19 22 ls st M K = ip_wp X 19 23 ls (.int 0 :: st) M K := wp_iconst ((ip_a19 22).trans rfl)
theorem w19_23 (X : ip_X) (ls : List Value) (M : ip_H) (K : Option Value → ip_H → Prop) (x : Int32) (h0 : x = 0 ∨ x = 1) : ip_wp X 19 23 ls [.int x] M K = K (some (.int x)) M := (wp_zret ((ip_a19 23).trans rfl)).trans (if_pos h0)
theorem ip_a23 (pc : Nat) : ip_at 23 pc = ip_c23.lookup pc := rfl
theorem w23_0 (X : ip_X) (ls st : List Value) (M : ip_H) (K : Option Value → ip_H → Prop) : ip_wp X 23 0 ls st M K = ip_ka (ip_get ls 0) (fun x => ip_wp X 23 1 ls (x :: st) M K) := wp_aload_n ((ip_a23 0).trans rfl)
theorem w23_1 (X : ip_X) (ls st : List Value) (M : ip_H) (K : Option Value → ip_H → Prop) : ip_wp X 23 1 ls st M K = ip_wp X 23 2 ls (.int 0 :: st) M K := wp_iconst ((ip_a23 1).trans rfl)
theorem w23_2 (X : ip_X) (ls st : List Value) (M : ip_H) (K : Option Value → ip_H → Prop) (k : Nat) (x0 : Int32) (h0 : st.length ≤ 4) (h1 : (ip_sh M k).1 = 0) (h2 : (ip_sh M k).2.1 = 1) : ip_wp X 23 2 ls (.int x0 :: .ref k :: st) M K = ip_wp X 24 0 [.ref k, .int x0] [] M (fun r M1 => ip_wp X 23 5 ls (r.toList ++ st) M1 K) := (wp_callV1_2 ((ip_a23 2).trans rfl) ⟨h0, by exact Nat.le_of_ble_eq_true rfl, h1, h2⟩)
theorem w23_5 (X : ip_X) (ls st : List Value) (M : ip_H) (K : Option Value → ip_H → Prop) (x : Int32) : ip_wp X 23 5 ls (.int x :: st) M K = if x = 0 then ip_wp X 23 27 ls st M K else ip_wp X 23 8 ls st M K := wp_ifCond_eq ((ip_a23 5).trans rfl)
theorem w23_8 (X : ip_X) (ls st : List Value) (M : ip_H) (K : Option Value → ip_H → Prop) : ip_wp X 23 8 ls st M K = ip_ka (ip_get ls 0) (fun x => ip_wp X 23 9 ls (x :: st) M K) := wp_aload_n ((ip_a23 8).trans rfl)
theorem w23_9 (X : ip_X) (ls st : List Value) (M : ip_H) (K : Option Value → ip_H → Prop) (k : Nat) (h0 : (ip_sh M k).1 = 0) (h1 : (ip_sh M k).2.1 = 1) : ip_wp X 23 9 ls (.ref k :: st) M K = ip_wp X 23 12 ls (.int (M.2.1 k 3) :: st) M K := (wp_getI ((ip_a23 9).trans rfl)).trans (if_pos ⟨h0, h1⟩)
theorem w23_12 (X : ip_X) (ls st : List Value) (M : ip_H) (K : Option Value → ip_H → Prop) (x : Int32) : ip_wp X 23 12 ls (.int x :: st) M K = if x = 0 then ip_wp X 23 23 ls st M K else ip_wp X 23 15 ls st M K := wp_ifCond_eq ((ip_a23 12).trans rfl)
theorem w23_15 (X : ip_X) (ls st : List Value) (M : ip_H) (K : Option Value → ip_H → Prop) : ip_wp X 23 15 ls st M K = ip_ka (ip_get ls 0) (fun x => ip_wp X 23 16 ls (x :: st) M K) := wp_aload_n ((ip_a23 15).trans rfl)
theorem w23_16 (X : ip_X) (ls st : List Value) (M : ip_H) (K : Option Value → ip_H → Prop) : ip_wp X 23 16 ls st M K = ip_wp X 23 17 ls (.int 1 :: st) M K := wp_iconst ((ip_a23 16).trans rfl)
theorem w23_17 (X : ip_X) (ls st : List Value) (M : ip_H) (K : Option Value → ip_H → Prop) (k : Nat) (x0 : Int32) (h0 : st.length ≤ 4) (h1 : (ip_sh M k).1 = 0) (h2 : (ip_sh M k).2.1 = 1) : ip_wp X 23 17 ls (.int x0 :: .ref k :: st) M K = ip_wp X 24 0 [.ref k, .int x0] [] M (fun r M1 => ip_wp X 23 20 ls (r.toList ++ st) M1 K) := (wp_callV1_2 ((ip_a23 17).trans rfl) ⟨h0, by exact Nat.le_of_ble_eq_true rfl, h1, h2⟩)
theorem w23_20 (X : ip_X) (ls st : List Value) (M : ip_H) (K : Option Value → ip_H → Prop) (x : Int32) : ip_wp X 23 20 ls (.int x :: st) M K = if x = 0 then ip_wp X 23 27 ls st M K else ip_wp X 23 23 ls st M K := wp_ifCond_eq ((ip_a23 20).trans rfl)
theorem w23_23 (X : ip_X) (ls st : List Value) (M : ip_H) (K : Option Value → ip_H → Prop) : ip_wp X 23 23 ls st M K = ip_wp X 23 24 ls (.int 1 :: st) M K := wp_iconst ((ip_a23 23).trans rfl)
theorem w23_24 (X : ip_X) (ls st : List Value) (M : ip_H) (K : Option Value → ip_H → Prop) : ip_wp X 23 24 ls st M K = ip_wp X 23 28 ls st M K := wp_goto ((ip_a23 24).trans rfl)
theorem w23_27 (X : ip_X) (ls st : List Value) (M : ip_H) (K : Option Value → ip_H → Prop) : ip_wp X 23 27 ls st M K = ip_wp X 23 28 ls (.int 0 :: st) M K := wp_iconst ((ip_a23 27).trans rfl)
theorem w23_28 (X : ip_X) (ls : List Value) (M : ip_H) (K : Option Value → ip_H → Prop) (x : Int32) (h0 : x = 0 ∨ x = 1) : ip_wp X 23 28 ls [.int x] M K = K (some (.int x)) M := (wp_zret ((ip_a23 28).trans rfl)).trans (if_pos h0)
theorem ip_a24 (pc : Nat) : ip_at 24 pc = ip_c24.lookup pc := rfl
theorem ip_s24 : lk_s 0 ip_c24 = true := by decide +kernel
theorem w24_0 (X : ip_X) (ls st : List Value) (M : ip_H) (K : Option Value → ip_H → Prop) : ip_wp X 24 0 ls st M K = ip_ka (ip_get ls 0) (fun x => ip_wp X 24 1 ls (x :: st) M K) := wp_aload_n ((ip_a24 0).trans (lk_of ip_s24 (k := 0) rfl))
theorem w24_1 (X : ip_X) (ls st : List Value) (M : ip_H) (K : Option Value → ip_H → Prop) : ip_wp X 24 1 ls st M K = ip_ka (ip_get ls 0) (fun x => ip_wp X 24 2 ls (x :: st) M K) := wp_aload_n ((ip_a24 1).trans (lk_of ip_s24 (k := 1) rfl))
theorem w24_2 (X : ip_X) (ls st : List Value) (M : ip_H) (K : Option Value → ip_H → Prop) (k : Nat) (h0 : (ip_sh M k).1 = 0) (h1 : (ip_sh M k).2.1 = 1) : ip_wp X 24 2 ls (.ref k :: st) M K = ip_wp X 24 5 ls (.int (M.2.1 k 4) :: st) M K := (wp_getI ((ip_a24 2).trans (lk_of ip_s24 (k := 2) rfl))).trans (if_pos ⟨h0, h1⟩)
theorem w24_5 (X : ip_X) (ls st : List Value) (M : ip_H) (K : Option Value → ip_H → Prop) : ip_wp X 24 5 ls st M K = ip_ki (ip_get ls 1) (fun x => ip_wp X 24 6 ls (.int x :: st) M K) := wp_iload_n ((ip_a24 5).trans (lk_of ip_s24 (k := 3) rfl))
theorem w24_6 (X : ip_X) (ls st : List Value) (M : ip_H) (K : Option Value → ip_H → Prop) : ip_wp X 24 6 ls st M K = ip_wp X 24 7 ls (.int 1 :: st) M K := wp_iconst ((ip_a24 6).trans (lk_of ip_s24 (k := 4) rfl))
theorem w24_7 (X : ip_X) (ls st : List Value) (M : ip_H) (K : Option Value → ip_H → Prop) (k : Nat) (x0 : Int32) (x1 : Int32) (x2 : Int32) (h0 : st.length ≤ 4) (h1 : (ip_sh M k).1 = 0) (h2 : (ip_sh M k).2.1 = 1) : ip_wp X 24 7 ls (.int x2 :: .int x1 :: .int x0 :: .ref k :: st) M K = ip_wp X 14 0 [.ref k, .int x0, .int x1, .int x2, .retAddr 1] [] M (fun r M1 => ip_wp X 24 10 ls (r.toList ++ st) M1 K) := (wp_callV1_4 ((ip_a24 7).trans (lk_of ip_s24 (k := 5) rfl)) ⟨h0, by exact Nat.le_of_ble_eq_true rfl, h1, h2⟩)
theorem w24_10 (X : ip_X) (ls st : List Value) (M : ip_H) (K : Option Value → ip_H → Prop) (x : Int32) : ip_wp X 24 10 ls (.int x :: st) M K = if x = 0 then ip_wp X 24 13 ls st M K else ip_wp X 24 44 ls st M K := wp_ifCond_ne ((ip_a24 10).trans (lk_of ip_s24 (k := 6) rfl))
theorem w24_13 (X : ip_X) (ls st : List Value) (M : ip_H) (K : Option Value → ip_H → Prop) : ip_wp X 24 13 ls st M K = ip_ka (ip_get ls 0) (fun x => ip_wp X 24 14 ls (x :: st) M K) := wp_aload_n ((ip_a24 13).trans (lk_of ip_s24 (k := 7) rfl))
theorem w24_14 (X : ip_X) (ls st : List Value) (M : ip_H) (K : Option Value → ip_H → Prop) : ip_wp X 24 14 ls st M K = ip_ka (ip_get ls 0) (fun x => ip_wp X 24 15 ls (x :: st) M K) := wp_aload_n ((ip_a24 14).trans (lk_of ip_s24 (k := 8) rfl))
theorem w24_15 (X : ip_X) (ls st : List Value) (M : ip_H) (K : Option Value → ip_H → Prop) (k : Nat) (h0 : (ip_sh M k).1 = 0) (h1 : (ip_sh M k).2.1 = 1) : ip_wp X 24 15 ls (.ref k :: st) M K = ip_wp X 24 18 ls (.int (M.2.1 k 4) :: st) M K := (wp_getI ((ip_a24 15).trans (lk_of ip_s24 (k := 9) rfl))).trans (if_pos ⟨h0, h1⟩)
theorem w24_18 (X : ip_X) (ls st : List Value) (M : ip_H) (K : Option Value → ip_H → Prop) : ip_wp X 24 18 ls st M K = ip_ki (ip_get ls 1) (fun x => ip_wp X 24 19 ls (.int x :: st) M K) := wp_iload_n ((ip_a24 18).trans (lk_of ip_s24 (k := 10) rfl))
theorem w24_19 (X : ip_X) (ls st : List Value) (M : ip_H) (K : Option Value → ip_H → Prop) : ip_wp X 24 19 ls st M K = ip_wp X 24 20 ls (.int 2 :: st) M K := wp_iconst ((ip_a24 19).trans (lk_of ip_s24 (k := 11) rfl))
theorem w24_20 (X : ip_X) (ls st : List Value) (M : ip_H) (K : Option Value → ip_H → Prop) (k : Nat) (x0 : Int32) (x1 : Int32) (x2 : Int32) (h0 : st.length ≤ 4) (h1 : (ip_sh M k).1 = 0) (h2 : (ip_sh M k).2.1 = 1) : ip_wp X 24 20 ls (.int x2 :: .int x1 :: .int x0 :: .ref k :: st) M K = ip_wp X 14 0 [.ref k, .int x0, .int x1, .int x2, .retAddr 1] [] M (fun r M1 => ip_wp X 24 23 ls (r.toList ++ st) M1 K) := (wp_callV1_4 ((ip_a24 20).trans (lk_of ip_s24 (k := 12) rfl)) ⟨h0, by exact Nat.le_of_ble_eq_true rfl, h1, h2⟩)
theorem w24_23 (X : ip_X) (ls st : List Value) (M : ip_H) (K : Option Value → ip_H → Prop) (x : Int32) : ip_wp X 24 23 ls (.int x :: st) M K = if x = 0 then ip_wp X 24 26 ls st M K else ip_wp X 24 44 ls st M K := wp_ifCond_ne ((ip_a24 23).trans (lk_of ip_s24 (k := 13) rfl))
theorem w24_26 (X : ip_X) (ls st : List Value) (M : ip_H) (K : Option Value → ip_H → Prop) : ip_wp X 24 26 ls st M K = ip_ka (ip_get ls 0) (fun x => ip_wp X 24 27 ls (x :: st) M K) := wp_aload_n ((ip_a24 26).trans (lk_of ip_s24 (k := 14) rfl))
theorem w24_27 (X : ip_X) (ls st : List Value) (M : ip_H) (K : Option Value → ip_H → Prop) : ip_wp X 24 27 ls st M K = ip_ka (ip_get ls 0) (fun x => ip_wp X 24 28 ls (x :: st) M K) := wp_aload_n ((ip_a24 27).trans (lk_of ip_s24 (k := 15) rfl))
theorem w24_28 (X : ip_X) (ls st : List Value) (M : ip_H) (K : Option Value → ip_H → Prop) (k : Nat) (h0 : (ip_sh M k).1 = 0) (h1 : (ip_sh M k).2.1 = 1) : ip_wp X 24 28 ls (.ref k :: st) M K = ip_wp X 24 31 ls (.int (M.2.1 k 4) :: st) M K := (wp_getI ((ip_a24 28).trans (lk_of ip_s24 (k := 16) rfl))).trans (if_pos ⟨h0, h1⟩)
theorem w24_31 (X : ip_X) (ls st : List Value) (M : ip_H) (K : Option Value → ip_H → Prop) : ip_wp X 24 31 ls st M K = ip_ki (ip_get ls 1) (fun x => ip_wp X 24 32 ls (.int x :: st) M K) := wp_iload_n ((ip_a24 31).trans (lk_of ip_s24 (k := 17) rfl))
theorem w24_32 (X : ip_X) (ls st : List Value) (M : ip_H) (K : Option Value → ip_H → Prop) : ip_wp X 24 32 ls st M K = ip_wp X 24 33 ls (.int 3 :: st) M K := wp_iconst ((ip_a24 32).trans (lk_of ip_s24 (k := 18) rfl))
theorem w24_33 (X : ip_X) (ls st : List Value) (M : ip_H) (K : Option Value → ip_H → Prop) (k : Nat) (x0 : Int32) (x1 : Int32) (x2 : Int32) (h0 : st.length ≤ 4) (h1 : (ip_sh M k).1 = 0) (h2 : (ip_sh M k).2.1 = 1) : ip_wp X 24 33 ls (.int x2 :: .int x1 :: .int x0 :: .ref k :: st) M K = ip_wp X 14 0 [.ref k, .int x0, .int x1, .int x2, .retAddr 1] [] M (fun r M1 => ip_wp X 24 36 ls (r.toList ++ st) M1 K) := (wp_callV1_4 ((ip_a24 33).trans (lk_of ip_s24 (k := 19) rfl)) ⟨h0, by exact Nat.le_of_ble_eq_true rfl, h1, h2⟩)
theorem w24_36 (X : ip_X) (ls st : List Value) (M : ip_H) (K : Option Value → ip_H → Prop) : ip_wp X 24 36 ls st M K = ip_wp X 24 37 ls (.int 1 :: st) M K := wp_iconst ((ip_a24 36).trans (lk_of ip_s24 (k := 20) rfl))
theorem w24_37 (X : ip_X) (ls st : List Value) (M : ip_H) (K : Option Value → ip_H → Prop) (x q : Int32) : ip_wp X 24 37 ls (.int q :: .int x :: st) M K = if x = q then ip_wp X 24 40 ls st M K else ip_wp X 24 44 ls st M K := wp_if_icmp_ne ((ip_a24 37).trans (lk_of ip_s24 (k := 21) rfl))
theorem w24_40 (X : ip_X) (ls st : List Value) (M : ip_H) (K : Option Value → ip_H → Prop) : ip_wp X 24 40 ls st M K = ip_wp X 24 41 ls (.int 1 :: st) M K := wp_iconst ((ip_a24 40).trans (lk_of ip_s24 (k := 22) rfl))
theorem w24_41 (X : ip_X) (ls st : List Value) (M : ip_H) (K : Option Value → ip_H → Prop) : ip_wp X 24 41 ls st M K = ip_wp X 24 45 ls st M K := wp_goto ((ip_a24 41).trans (lk_of ip_s24 (k := 23) rfl))
theorem w24_44 (X : ip_X) (ls st : List Value) (M : ip_H) (K : Option Value → ip_H → Prop) : ip_wp X 24 44 ls st M K = ip_wp X 24 45 ls (.int 0 :: st) M K := wp_iconst ((ip_a24 44).trans (lk_of ip_s24 (k := 24) rfl))
theorem w24_45 (X : ip_X) (ls : List Value) (M : ip_H) (K : Option Value → ip_H → Prop) (x : Int32) (h0 : x = 0 ∨ x = 1) : ip_wp X 24 45 ls [.int x] M K = K (some (.int x)) M := (wp_zret ((ip_a24 45).trans (lk_of ip_s24 (k := 25) rfl))).trans (if_pos h0)
theorem ip_a28 (pc : Nat) : ip_at 28 pc = ip_c28.lookup pc := rfl
theorem ip_s28 : lk_s 0 ip_c28 = true := by decide +kernel
theorem ip_l28_0 : ip_d28_0.length = 24 := rfl
theorem ip_f28_0 {k pc : Nat} {e : ip_E} (h : ip_d28_0[k]? = some (pc, e)) : ip_c28.lookup pc = some e := lk_of ip_s28 (lk_apl h)
theorem ip_f28_1 {k pc : Nat} {e : ip_E} (h : ip_d28_1[k]? = some (pc, e)) : ip_c28.lookup pc = some e := lk_of ip_s28 (lk_app ip_l28_0 h)
theorem w28_0 (X : ip_X) (ls st : List Value) (M : ip_H) (K : Option Value → ip_H → Prop) : ip_wp X 28 0 ls st M K = ip_wp X 28 2 ls (.int 10 :: st) M K := wp_bipush ((ip_a28 0).trans (ip_f28_0 (k := 0) rfl))
theorem w28_2 (X : ip_X) (ls st : List Value) (M : ip_H) (K : Option Value → ip_H → Prop) : ip_wp X 28 2 ls st M K = ip_ka (ip_get ls 0) (fun x => ip_wp X 28 3 ls (x :: st) M K) := wp_aload_n ((ip_a28 2).trans (ip_f28_0 (k := 1) rfl))
theorem w28_3 (X : ip_X) (ls st : List Value) (M : ip_H) (K : Option Value → ip_H → Prop) (k : Nat) (h0 : (ip_sh M k).1 = 0) (h1 : (ip_sh M k).2.1 = 1) : ip_wp X 28 3 ls (.ref k :: st) M K = ip_wp X 28 6 ls (.int (M.2.1 k 4) :: st) M K := (wp_getI ((ip_a28 3).trans (ip_f28_0 (k := 2) rfl))).trans (if_pos ⟨h0, h1⟩)
theorem w28_6 (X : ip_X) (ls st : List Value) (M : ip_H) (K : Option Value → ip_H → Prop) (x q : Int32) : ip_wp X 28 6 ls (.int q :: .int x :: st) M K = ip_wp X 28 7 ls (.int (x * q) :: st) M K := wp_imul ((ip_a28 6).trans (ip_f28_0 (k := 3) rfl))
theorem w28_7 (X : ip_X) (ls st : List Value) (M : ip_H) (K : Option Value → ip_H → Prop) (x : Int32) : ip_wp X 28 7 ls (.int x :: st) M K = ip_wp X 28 8 (ip_set1 ls 1 (.int x)) st M K := wp_istore_n ((ip_a28 7).trans (ip_f28_0 (k := 4) rfl))
theorem w28_8 (X : ip_X) (ls st : List Value) (M : ip_H) (K : Option Value → ip_H → Prop) : ip_wp X 28 8 ls st M K = ip_ki (ip_get ls 1) (fun x => ip_wp X 28 9 ls (.int x :: st) M K) := wp_iload_n ((ip_a28 8).trans (ip_f28_0 (k := 5) rfl))
theorem w28_9 (X : ip_X) (ls st : List Value) (M : ip_H) (K : Option Value → ip_H → Prop) (x : Int32) : ip_wp X 28 9 ls (.int x :: st) M K = if x < 0 then ip_wp X 28 24 ls st M K else ip_wp X 28 12 ls st M K := wp_ifCond_lt ((ip_a28 9).trans (ip_f28_0 (k := 6) rfl))
theorem w28_12 (X : ip_X) (ls st : List Value) (M : ip_H) (K : Option Value → ip_H → Prop) : ip_wp X 28 12 ls st M K = ip_ki (ip_get ls 1) (fun x => ip_wp X 28 13 ls (.int x :: st) M K) := wp_iload_n ((ip_a28 12).trans (ip_f28_0 (k := 7) rfl))
theorem w28_13 (X : ip_X) (ls st : List Value) (M : ip_H) (K : Option Value → ip_H → Prop) : ip_wp X 28 13 ls st M K = ip_ka (ip_get ls 0) (fun x => ip_wp X 28 14 ls (x :: st) M K) := wp_aload_n ((ip_a28 13).trans (ip_f28_0 (k := 8) rfl))
theorem w28_14 (X : ip_X) (ls st : List Value) (M : ip_H) (K : Option Value → ip_H → Prop) (k : Nat) (h0 : (ip_sh M k).1 = 0) (h1 : (ip_sh M k).2.1 = 1) : ip_wp X 28 14 ls (.ref k :: st) M K = ip_wp X 28 17 ls (ip_vr (M.2.2.2 k 0) :: st) M K := (wp_getR ((ip_a28 14).trans (ip_f28_0 (k := 9) rfl))).trans (if_pos ⟨h0, h1⟩)
theorem w28_17 (X : ip_X) (ls st : List Value) (M : ip_H) (K : Option Value → ip_H → Prop) (k : Nat) (h0 : (ip_sh M k).1 = 1) : ip_wp X 28 17 ls (.ref k :: st) M K = ip_wp X 28 18 ls (.int (Int32.ofNat (ip_sh M k).2.2) :: st) M K := (wp_alen ((ip_a28 17).trans (ip_f28_0 (k := 10) rfl))).trans (if_pos h0)
theorem w28_18 (X : ip_X) (ls st : List Value) (M : ip_H) (K : Option Value → ip_H → Prop) : ip_wp X 28 18 ls st M K = ip_wp X 28 20 ls (.int 10 :: st) M K := wp_bipush ((ip_a28 18).trans (ip_f28_0 (k := 11) rfl))
theorem w28_20 (X : ip_X) (ls st : List Value) (M : ip_H) (K : Option Value → ip_H → Prop) (x q : Int32) : ip_wp X 28 20 ls (.int q :: .int x :: st) M K = ip_wp X 28 21 ls (.int (x - q) :: st) M K := wp_isub ((ip_a28 20).trans (ip_f28_0 (k := 12) rfl))
theorem w28_21 (X : ip_X) (ls st : List Value) (M : ip_H) (K : Option Value → ip_H → Prop) (x q : Int32) : ip_wp X 28 21 ls (.int q :: .int x :: st) M K = if q < x then ip_wp X 28 24 ls st M K else ip_wp X 28 25 ls st M K := wp_if_icmp_le ((ip_a28 21).trans (ip_f28_0 (k := 13) rfl))
theorem w28_24 (X : ip_X) (ls : List Value) (M : ip_H) (K : Option Value → ip_H → Prop) : ip_wp X 28 24 ls [] M K = K none M := wp_vret ((ip_a28 24).trans (ip_f28_0 (k := 14) rfl))
theorem w28_25 (X : ip_X) (ls st : List Value) (M : ip_H) (K : Option Value → ip_H → Prop) : ip_wp X 28 25 ls st M K = ip_ka (ip_get ls 0) (fun x => ip_wp X 28 26 ls (x :: st) M K) := wp_aload_n ((ip_a28 25).trans (ip_f28_0 (k := 15) rfl))
theorem w28_26 (X : ip_X) (ls st : List Value) (M : ip_H) (K : Option Value → ip_H → Prop) (k : Nat) (h0 : (ip_sh M k).1 = 0) (h1 : (ip_sh M k).2.1 = 1) : ip_wp X 28 26 ls (.ref k :: st) M K = ip_wp X 28 29 ls (ip_vr (M.2.2.2 k 10) :: st) M K := (wp_getR ((ip_a28 26).trans (ip_f28_0 (k := 16) rfl))).trans (if_pos ⟨h0, h1⟩)
theorem w28_29 (X : ip_X) (ls st : List Value) (M : ip_H) (K : Option Value → ip_H → Prop) : ip_wp X 28 29 ls st M K = ip_ka (ip_get ls 0) (fun x => ip_wp X 28 30 ls (x :: st) M K) := wp_aload_n ((ip_a28 29).trans (ip_f28_0 (k := 17) rfl))
theorem w28_30 (X : ip_X) (ls st : List Value) (M : ip_H) (K : Option Value → ip_H → Prop) (k : Nat) (h0 : (ip_sh M k).1 = 0) (h1 : (ip_sh M k).2.1 = 1) : ip_wp X 28 30 ls (.ref k :: st) M K = ip_wp X 28 33 ls (ip_vr (M.2.2.2 k 0) :: st) M K := (wp_getR ((ip_a28 30).trans (ip_f28_0 (k := 18) rfl))).trans (if_pos ⟨h0, h1⟩)
theorem w28_33 (X : ip_X) (ls st : List Value) (M : ip_H) (K : Option Value → ip_H → Prop) : ip_wp X 28 33 ls st M K = ip_ki (ip_get ls 1) (fun x => ip_wp X 28 34 ls (.int x :: st) M K) := wp_iload_n ((ip_a28 33).trans (ip_f28_0 (k := 19) rfl))
theorem w28_34 (X : ip_X) (ls st : List Value) (M : ip_H) (K : Option Value → ip_H → Prop) (k : Nat) (x0 : Nat) (x1 : Int32) (h0 : st.length ≤ 4) (h1 : (ip_sh M k).1 = 0) (h2 : (ip_sh M k).2.1 = 8) : ip_wp X 28 34 ls (.int x1 :: .ref x0 :: .ref k :: st) M K = ip_wp X 97 0 [.ref k, .ref x0, .int x1] [] M (fun r M1 => ip_wp X 28 37 ls (r.toList ++ st) M1 K) := (wp_callV1_3 ((ip_a28 34).trans (ip_f28_0 (k := 20) rfl)) ⟨h0, by exact Nat.le_of_ble_eq_true rfl, h1, h2⟩)
theorem w28_37 (X : ip_X) (ls st : List Value) (M : ip_H) (K : Option Value → ip_H → Prop) : ip_wp X 28 37 ls st M K = ip_ka (ip_get ls 0) (fun x => ip_wp X 28 38 ls (x :: st) M K) := wp_aload_n ((ip_a28 37).trans (ip_f28_0 (k := 21) rfl))
theorem w28_38 (X : ip_X) (ls st : List Value) (M : ip_H) (K : Option Value → ip_H → Prop) (k : Nat) (h0 : (ip_sh M k).1 = 0) (h1 : (ip_sh M k).2.1 = 1) : ip_wp X 28 38 ls (.ref k :: st) M K = ip_wp X 28 41 ls (ip_vr (M.2.2.2 k 0) :: st) M K := (wp_getR ((ip_a28 38).trans (ip_f28_0 (k := 22) rfl))).trans (if_pos ⟨h0, h1⟩)
theorem w28_41 (X : ip_X) (ls st : List Value) (M : ip_H) (K : Option Value → ip_H → Prop) : ip_wp X 28 41 ls st M K = ip_ki (ip_get ls 1) (fun x => ip_wp X 28 42 ls (.int x :: st) M K) := wp_iload_n ((ip_a28 41).trans (ip_f28_0 (k := 23) rfl))
theorem w28_42 (X : ip_X) (ls st : List Value) (M : ip_H) (K : Option Value → ip_H → Prop) : ip_wp X 28 42 ls st M K = ip_wp X 28 43 ls (.int 4 :: st) M K := wp_iconst ((ip_a28 42).trans (ip_f28_1 (k := 0) rfl))
theorem w28_43 (X : ip_X) (ls st : List Value) (M : ip_H) (K : Option Value → ip_H → Prop) (x q : Int32) : ip_wp X 28 43 ls (.int q :: .int x :: st) M K = ip_wp X 28 44 ls (.int (x + q) :: st) M K := wp_iadd ((ip_a28 43).trans (ip_f28_1 (k := 1) rfl))
theorem w28_44 (X : ip_X) (ls st : List Value) (M : ip_H) (K : Option Value → ip_H → Prop) : ip_wp X 28 44 ls st M K = ip_ka (ip_get ls 0) (fun x => ip_wp X 28 45 ls (x :: st) M K) := wp_aload_n ((ip_a28 44).trans (ip_f28_1 (k := 2) rfl))
theorem w28_45 (X : ip_X) (ls st : List Value) (M : ip_H) (K : Option Value → ip_H → Prop) (k : Nat) (h0 : (ip_sh M k).1 = 0) (h1 : (ip_sh M k).2.1 = 1) : ip_wp X 28 45 ls (.ref k :: st) M K = ip_wp X 28 48 ls (.int (M.2.1 k 12) :: st) M K := (wp_getI ((ip_a28 45).trans (ip_f28_1 (k := 3) rfl))).trans (if_pos ⟨h0, h1⟩)
theorem w28_48 (X : ip_X) (ls st : List Value) (M : ip_H) (K : Option Value → ip_H → Prop) (i x : Int32) (k : Nat) (h0 : (ip_sh M k).1 = 1) (h1 : (ip_sh M k).2.1 = 0) (h2 : ip_ix i (ip_sh M k).2.2 = true) : ip_wp X 28 48 ls (.int x :: .int i :: .ref k :: st) M K = ip_wp X 28 49 ls st (ip_uI M k i.toNatClampNeg x) K := (wp_iastore ((ip_a28 48).trans (ip_f28_1 (k := 4) rfl))).trans (if_pos ⟨h0, h1, h2⟩)
theorem w28_49 (X : ip_X) (ls st : List Value) (M : ip_H) (K : Option Value → ip_H → Prop) : ip_wp X 28 49 ls st M K = ip_ka (ip_get ls 0) (fun x => ip_wp X 28 50 ls (x :: st) M K) := wp_aload_n ((ip_a28 49).trans (ip_f28_1 (k := 5) rfl))
theorem w28_50 (X : ip_X) (ls st : List Value) (M : ip_H) (K : Option Value → ip_H → Prop) (k : Nat) (h0 : (ip_sh M k).1 = 0) (h1 : (ip_sh M k).2.1 = 1) : ip_wp X 28 50 ls (.ref k :: st) M K = ip_wp X 28 53 ls (ip_vr (M.2.2.2 k 11) :: st) M K := (wp_getR ((ip_a28 50).trans (ip_f28_1 (k := 6) rfl))).trans (if_pos ⟨h0, h1⟩)
theorem w28_53 (X : ip_X) (ls st : List Value) (M : ip_H) (K : Option Value → ip_H → Prop) : ip_wp X 28 53 ls st M K = ip_ka (ip_get ls 0) (fun x => ip_wp X 28 54 ls (x :: st) M K) := wp_aload_n ((ip_a28 53).trans (ip_f28_1 (k := 7) rfl))
theorem w28_54 (X : ip_X) (ls st : List Value) (M : ip_H) (K : Option Value → ip_H → Prop) (k : Nat) (h0 : (ip_sh M k).1 = 0) (h1 : (ip_sh M k).2.1 = 1) : ip_wp X 28 54 ls (.ref k :: st) M K = ip_wp X 28 57 ls (ip_vr (M.2.2.2 k 0) :: st) M K := (wp_getR ((ip_a28 54).trans (ip_f28_1 (k := 8) rfl))).trans (if_pos ⟨h0, h1⟩)
theorem w28_57 (X : ip_X) (ls st : List Value) (M : ip_H) (K : Option Value → ip_H → Prop) : ip_wp X 28 57 ls st M K = ip_ki (ip_get ls 1) (fun x => ip_wp X 28 58 ls (.int x :: st) M K) := wp_iload_n ((ip_a28 57).trans (ip_f28_1 (k := 9) rfl))
theorem w28_58 (X : ip_X) (ls st : List Value) (M : ip_H) (K : Option Value → ip_H → Prop) : ip_wp X 28 58 ls st M K = ip_wp X 28 59 ls (.int 5 :: st) M K := wp_iconst ((ip_a28 58).trans (ip_f28_1 (k := 10) rfl))
theorem w28_59 (X : ip_X) (ls st : List Value) (M : ip_H) (K : Option Value → ip_H → Prop) (x q : Int32) : ip_wp X 28 59 ls (.int q :: .int x :: st) M K = ip_wp X 28 60 ls (.int (x + q) :: st) M K := wp_iadd ((ip_a28 59).trans (ip_f28_1 (k := 11) rfl))
theorem w28_60 (X : ip_X) (ls st : List Value) (M : ip_H) (K : Option Value → ip_H → Prop) (k : Nat) (x0 : Nat) (x1 : Int32) (h0 : st.length ≤ 4) (h1 : (ip_sh M k).1 = 0) (h2 : (ip_sh M k).2.1 = 8) : ip_wp X 28 60 ls (.int x1 :: .ref x0 :: .ref k :: st) M K = ip_wp X 97 0 [.ref k, .ref x0, .int x1] [] M (fun r M1 => ip_wp X 28 63 ls (r.toList ++ st) M1 K) := (wp_callV1_3 ((ip_a28 60).trans (ip_f28_1 (k := 12) rfl)) ⟨h0, by exact Nat.le_of_ble_eq_true rfl, h1, h2⟩)
theorem w28_63 (X : ip_X) (ls st : List Value) (M : ip_H) (K : Option Value → ip_H → Prop) : ip_wp X 28 63 ls st M K = ip_ka (ip_get ls 0) (fun x => ip_wp X 28 64 ls (x :: st) M K) := wp_aload_n ((ip_a28 63).trans (ip_f28_1 (k := 13) rfl))
theorem w28_64 (X : ip_X) (ls st : List Value) (M : ip_H) (K : Option Value → ip_H → Prop) (k : Nat) (h0 : (ip_sh M k).1 = 0) (h1 : (ip_sh M k).2.1 = 1) : ip_wp X 28 64 ls (.ref k :: st) M K = ip_wp X 28 67 ls (ip_vr (M.2.2.2 k 0) :: st) M K := (wp_getR ((ip_a28 64).trans (ip_f28_1 (k := 14) rfl))).trans (if_pos ⟨h0, h1⟩)
theorem w28_67 (X : ip_X) (ls st : List Value) (M : ip_H) (K : Option Value → ip_H → Prop) : ip_wp X 28 67 ls st M K = ip_ki (ip_get ls 1) (fun x => ip_wp X 28 68 ls (.int x :: st) M K) := wp_iload_n ((ip_a28 67).trans (ip_f28_1 (k := 15) rfl))
theorem w28_68 (X : ip_X) (ls st : List Value) (M : ip_H) (K : Option Value → ip_H → Prop) : ip_wp X 28 68 ls st M K = ip_wp X 28 70 ls (.int 9 :: st) M K := wp_bipush ((ip_a28 68).trans (ip_f28_1 (k := 16) rfl))
theorem w28_70 (X : ip_X) (ls st : List Value) (M : ip_H) (K : Option Value → ip_H → Prop) (x q : Int32) : ip_wp X 28 70 ls (.int q :: .int x :: st) M K = ip_wp X 28 71 ls (.int (x + q) :: st) M K := wp_iadd ((ip_a28 70).trans (ip_f28_1 (k := 17) rfl))
theorem w28_71 (X : ip_X) (ls st : List Value) (M : ip_H) (K : Option Value → ip_H → Prop) : ip_wp X 28 71 ls st M K = ip_ka (ip_get ls 0) (fun x => ip_wp X 28 72 ls (x :: st) M K) := wp_aload_n ((ip_a28 71).trans (ip_f28_1 (k := 18) rfl))
theorem w28_72 (X : ip_X) (ls st : List Value) (M : ip_H) (K : Option Value → ip_H → Prop) (k : Nat) (h0 : (ip_sh M k).1 = 0) (h1 : (ip_sh M k).2.1 = 1) : ip_wp X 28 72 ls (.ref k :: st) M K = ip_wp X 28 75 ls (.int (M.2.1 k 13) :: st) M K := (wp_getI ((ip_a28 72).trans (ip_f28_1 (k := 19) rfl))).trans (if_pos ⟨h0, h1⟩)
theorem w28_75 (X : ip_X) (ls st : List Value) (M : ip_H) (K : Option Value → ip_H → Prop) (i x : Int32) (k : Nat) (h0 : (ip_sh M k).1 = 1) (h1 : (ip_sh M k).2.1 = 0) (h2 : ip_ix i (ip_sh M k).2.2 = true) : ip_wp X 28 75 ls (.int x :: .int i :: .ref k :: st) M K = ip_wp X 28 76 ls st (ip_uI M k i.toNatClampNeg x) K := (wp_iastore ((ip_a28 75).trans (ip_f28_1 (k := 20) rfl))).trans (if_pos ⟨h0, h1, h2⟩)
theorem w28_76 (X : ip_X) (ls : List Value) (M : ip_H) (K : Option Value → ip_H → Prop) : ip_wp X 28 76 ls [] M K = K none M := wp_vret ((ip_a28 76).trans (ip_f28_1 (k := 21) rfl))
theorem ip_a30 (pc : Nat) : ip_at 30 pc = ip_c30.lookup pc := rfl
theorem w30_0 (X : ip_X) (ls st : List Value) (M : ip_H) (K : Option Value → ip_H → Prop) : ip_wp X 30 0 ls st M K = ip_wp X 30 1 ls (.int 0 :: st) M K := wp_iconst ((ip_a30 0).trans rfl)
theorem w30_1 (X : ip_X) (ls st : List Value) (M : ip_H) (K : Option Value → ip_H → Prop) (x : Int32) : ip_wp X 30 1 ls (.int x :: st) M K = ip_wp X 30 2 (ip_set1 ls 2 (.int x)) st M K := wp_istore_n ((ip_a30 1).trans rfl)
theorem w30_2 (X : ip_X) (ls st : List Value) (M : ip_H) (K : Option Value → ip_H → Prop) : ip_wp X 30 2 ls st M K = ip_ki (ip_get ls 2) (fun x => ip_wp X 30 3 ls (.int x :: st) M K) := wp_iload_n ((ip_a30 2).trans rfl)
theorem w30_3 (X : ip_X) (ls st : List Value) (M : ip_H) (K : Option Value → ip_H → Prop) : ip_wp X 30 3 ls st M K = ip_wp X 30 5 ls (.int 10 :: st) M K := wp_bipush ((ip_a30 3).trans rfl)
theorem w30_5 (X : ip_X) (ls st : List Value) (M : ip_H) (K : Option Value → ip_H → Prop) (x q : Int32) : ip_wp X 30 5 ls (.int q :: .int x :: st) M K = if x < q then ip_wp X 30 8 ls st M K else ip_wp X 30 36 ls st M K := wp_if_icmp_ge ((ip_a30 5).trans rfl)
theorem w30_8 (X : ip_X) (ls st : List Value) (M : ip_H) (K : Option Value → ip_H → Prop) : ip_wp X 30 8 ls st M K = ip_ka (ip_get ls 0) (fun x => ip_wp X 30 9 ls (x :: st) M K) := wp_aload_n ((ip_a30 8).trans rfl)
theorem w30_9 (X : ip_X) (ls st : List Value) (M : ip_H) (K : Option Value → ip_H → Prop) : ip_wp X 30 9 ls st M K = ip_ki (ip_get ls 1) (fun x => ip_wp X 30 10 ls (.int x :: st) M K) := wp_iload_n ((ip_a30 9).trans rfl)
theorem w30_10 (X : ip_X) (ls st : List Value) (M : ip_H) (K : Option Value → ip_H → Prop) : ip_wp X 30 10 ls st M K = ip_wp X 30 11 ls (.int 0 :: st) M K := wp_iconst ((ip_a30 10).trans rfl)
theorem w30_11 (X : ip_X) (ls st : List Value) (M : ip_H) (K : Option Value → ip_H → Prop) : ip_wp X 30 11 ls st M K = ip_ki (ip_get ls 2) (fun x => ip_wp X 30 12 ls (.int x :: st) M K) := wp_iload_n ((ip_a30 11).trans rfl)
theorem w30_12 (X : ip_X) (ls st : List Value) (M : ip_H) (K : Option Value → ip_H → Prop) (k : Nat) (x0 : Int32) (x1 : Int32) (x2 : Int32) (h0 : st.length ≤ 4) (h1 : (ip_sh M k).1 = 0) (h2 : (ip_sh M k).2.1 = 1) : ip_wp X 30 12 ls (.int x2 :: .int x1 :: .int x0 :: .ref k :: st) M K = ip_wp X 14 0 [.ref k, .int x0, .int x1, .int x2, .retAddr 1] [] M (fun r M1 => ip_wp X 30 15 ls (r.toList ++ st) M1 K) := (wp_callV1_4 ((ip_a30 12).trans rfl) ⟨h0, by exact Nat.le_of_ble_eq_true rfl, h1, h2⟩)
theorem w30_15 (X : ip_X) (ls st : List Value) (M : ip_H) (K : Option Value → ip_H → Prop) : ip_wp X 30 15 ls st M K = ip_ka (ip_get ls 0) (fun x => ip_wp X 30 16 ls (x :: st) M K) := wp_aload_n ((ip_a30 15).trans rfl)
theorem w30_16 (X : ip_X) (ls st : List Value) (M : ip_H) (K : Option Value → ip_H → Prop) : ip_wp X 30 16 ls st M K = ip_ka (ip_get ls 0) (fun x => ip_wp X 30 17 ls (x :: st) M K) := wp_aload_n ((ip_a30 16).trans rfl)
theorem w30_17 (X : ip_X) (ls st : List Value) (M : ip_H) (K : Option Value → ip_H → Prop) (k : Nat) (h0 : (ip_sh M k).1 = 0) (h1 : (ip_sh M k).2.1 = 1) : ip_wp X 30 17 ls (.ref k :: st) M K = ip_wp X 30 20 ls (.int (M.2.1 k 4) :: st) M K := (wp_getI ((ip_a30 17).trans rfl)).trans (if_pos ⟨h0, h1⟩)
theorem w30_20 (X : ip_X) (ls st : List Value) (M : ip_H) (K : Option Value → ip_H → Prop) : ip_wp X 30 20 ls st M K = ip_wp X 30 21 ls (.int 0 :: st) M K := wp_iconst ((ip_a30 20).trans rfl)
theorem w30_21 (X : ip_X) (ls st : List Value) (M : ip_H) (K : Option Value → ip_H → Prop) : ip_wp X 30 21 ls st M K = ip_ki (ip_get ls 2) (fun x => ip_wp X 30 22 ls (.int x :: st) M K) := wp_iload_n ((ip_a30 21).trans rfl)
theorem w30_22 (X : ip_X) (ls st : List Value) (M : ip_H) (K : Option Value → ip_H → Prop) (k : Nat) (x0 : Int32) (x1 : Int32) (x2 : Int32) (h0 : st.length ≤ 4) (h1 : (ip_sh M k).1 = 0) (h2 : (ip_sh M k).2.1 = 1) : ip_wp X 30 22 ls (.int x2 :: .int x1 :: .int x0 :: .ref k :: st) M K = ip_wp X 14 0 [.ref k, .int x0, .int x1, .int x2, .retAddr 1] [] M (fun r M1 => ip_wp X 30 25 ls (r.toList ++ st) M1 K) := (wp_callV1_4 ((ip_a30 22).trans rfl) ⟨h0, by exact Nat.le_of_ble_eq_true rfl, h1, h2⟩)
theorem w30_25 (X : ip_X) (ls st : List Value) (M : ip_H) (K : Option Value → ip_H → Prop) (x q : Int32) : ip_wp X 30 25 ls (.int q :: .int x :: st) M K = if x = q then ip_wp X 30 30 ls st M K else ip_wp X 30 28 ls st M K := wp_if_icmp_eq ((ip_a30 25).trans rfl)
theorem w30_28 (X : ip_X) (ls st : List Value) (M : ip_H) (K : Option Value → ip_H → Prop) : ip_wp X 30 28 ls st M K = ip_wp X 30 29 ls (.int 0 :: st) M K := wp_iconst ((ip_a30 28).trans rfl)
theorem w30_29 (X : ip_X) (ls : List Value) (M : ip_H) (K : Option Value → ip_H → Prop) (x : Int32) (h0 : x = 0 ∨ x = 1) : ip_wp X 30 29 ls [.int x] M K = K (some (.int x)) M := (wp_zret ((ip_a30 29).trans rfl)).trans (if_pos h0)
theorem w30_30 (X : ip_X) (ls st : List Value) (M : ip_H) (K : Option Value → ip_H → Prop) : ip_wp X 30 30 ls st M K = ip_ki (ip_get ls 2) (fun x => ip_wp X 30 33 (ip_set1 ls 2 (.int (x + 1))) st M K) := wp_iinc ((ip_a30 30).trans rfl)
theorem w30_33 (X : ip_X) (ls st : List Value) (M : ip_H) (K : Option Value → ip_H → Prop) : ip_wp X 30 33 ls st M K = ip_wp X 30 2 ls st M K := wp_goto ((ip_a30 33).trans rfl)
theorem w30_36 (X : ip_X) (ls st : List Value) (M : ip_H) (K : Option Value → ip_H → Prop) : ip_wp X 30 36 ls st M K = ip_wp X 30 37 ls (.int 1 :: st) M K := wp_iconst ((ip_a30 36).trans rfl)
theorem w30_37 (X : ip_X) (ls : List Value) (M : ip_H) (K : Option Value → ip_H → Prop) (x : Int32) (h0 : x = 0 ∨ x = 1) : ip_wp X 30 37 ls [.int x] M K = K (some (.int x)) M := (wp_zret ((ip_a30 37).trans rfl)).trans (if_pos h0)
theorem ip_a96 (pc : Nat) : ip_at 96 pc = ip_c96.lookup pc := rfl
theorem ip_s96 : lk_s 0 ip_c96 = true := by decide +kernel
theorem ip_l96_0 : ip_d96_0.length = 24 := rfl
theorem ip_f96_0 {k pc : Nat} {e : ip_E} (h : ip_d96_0[k]? = some (pc, e)) : ip_c96.lookup pc = some e := lk_of ip_s96 (lk_apl h)
theorem ip_f96_1 {k pc : Nat} {e : ip_E} (h : ip_d96_1[k]? = some (pc, e)) : ip_c96.lookup pc = some e := lk_of ip_s96 (lk_app ip_l96_0 h)
theorem w96_0 (X : ip_X) (ls st : List Value) (M : ip_H) (K : Option Value → ip_H → Prop) : ip_wp X 96 0 ls st M K = ip_ki (ip_get ls 2) (fun x => ip_wp X 96 1 ls (.int x :: st) M K) := wp_iload_n ((ip_a96 0).trans (ip_f96_0 (k := 0) rfl))
theorem w96_1 (X : ip_X) (ls st : List Value) (M : ip_H) (K : Option Value → ip_H → Prop) (x : Int32) : ip_wp X 96 1 ls (.int x :: st) M K = if x < 0 then ip_wp X 96 12 ls st M K else ip_wp X 96 4 ls st M K := wp_ifCond_lt ((ip_a96 1).trans (ip_f96_0 (k := 1) rfl))
theorem w96_4 (X : ip_X) (ls st : List Value) (M : ip_H) (K : Option Value → ip_H → Prop) : ip_wp X 96 4 ls st M K = ip_ki (ip_get ls 2) (fun x => ip_wp X 96 5 ls (.int x :: st) M K) := wp_iload_n ((ip_a96 4).trans (ip_f96_0 (k := 2) rfl))
theorem w96_5 (X : ip_X) (ls st : List Value) (M : ip_H) (K : Option Value → ip_H → Prop) : ip_wp X 96 5 ls st M K = ip_ka (ip_get ls 1) (fun x => ip_wp X 96 6 ls (x :: st) M K) := wp_aload_n ((ip_a96 5).trans (ip_f96_0 (k := 3) rfl))
theorem w96_6 (X : ip_X) (ls st : List Value) (M : ip_H) (K : Option Value → ip_H → Prop) (k : Nat) (h0 : (ip_sh M k).1 = 1) : ip_wp X 96 6 ls (.ref k :: st) M K = ip_wp X 96 7 ls (.int (Int32.ofNat (ip_sh M k).2.2) :: st) M K := (wp_alen ((ip_a96 6).trans (ip_f96_0 (k := 4) rfl))).trans (if_pos h0)
theorem w96_7 (X : ip_X) (ls st : List Value) (M : ip_H) (K : Option Value → ip_H → Prop) : ip_wp X 96 7 ls st M K = ip_wp X 96 8 ls (.int 4 :: st) M K := wp_iconst ((ip_a96 7).trans (ip_f96_0 (k := 5) rfl))
theorem w96_8 (X : ip_X) (ls st : List Value) (M : ip_H) (K : Option Value → ip_H → Prop) (x q : Int32) : ip_wp X 96 8 ls (.int q :: .int x :: st) M K = ip_wp X 96 9 ls (.int (x - q) :: st) M K := wp_isub ((ip_a96 8).trans (ip_f96_0 (k := 6) rfl))
theorem w96_9 (X : ip_X) (ls st : List Value) (M : ip_H) (K : Option Value → ip_H → Prop) (x q : Int32) : ip_wp X 96 9 ls (.int q :: .int x :: st) M K = if q < x then ip_wp X 96 12 ls st M K else ip_wp X 96 13 ls st M K := wp_if_icmp_le ((ip_a96 9).trans (ip_f96_0 (k := 7) rfl))
theorem w96_12 (X : ip_X) (ls : List Value) (M : ip_H) (K : Option Value → ip_H → Prop) : ip_wp X 96 12 ls [] M K = K none M := wp_vret ((ip_a96 12).trans (ip_f96_0 (k := 8) rfl))
theorem w96_13 (X : ip_X) (ls st : List Value) (M : ip_H) (K : Option Value → ip_H → Prop) : ip_wp X 96 13 ls st M K = ip_ka (ip_get ls 0) (fun x => ip_wp X 96 14 ls (x :: st) M K) := wp_aload_n ((ip_a96 13).trans (ip_f96_0 (k := 9) rfl))
theorem w96_14 (X : ip_X) (ls st : List Value) (M : ip_H) (K : Option Value → ip_H → Prop) : ip_wp X 96 14 ls st M K = ip_ka (ip_get ls 1) (fun x => ip_wp X 96 15 ls (x :: st) M K) := wp_aload_n ((ip_a96 14).trans (ip_f96_0 (k := 10) rfl))
theorem w96_15 (X : ip_X) (ls st : List Value) (M : ip_H) (K : Option Value → ip_H → Prop) : ip_wp X 96 15 ls st M K = ip_ki (ip_get ls 2) (fun x => ip_wp X 96 16 ls (.int x :: st) M K) := wp_iload_n ((ip_a96 15).trans (ip_f96_0 (k := 11) rfl))
theorem w96_16 (X : ip_X) (ls st : List Value) (M : ip_H) (K : Option Value → ip_H → Prop) (i : Int32) (k : Nat) (h0 : (ip_sh M k).1 = 1) (h1 : (ip_sh M k).2.1 = 0) (h2 : ip_ix i (ip_sh M k).2.2 = true) : ip_wp X 96 16 ls (.int i :: .ref k :: st) M K = ip_wp X 96 17 ls (.int (M.2.1 k i.toNatClampNeg) :: st) M K := (wp_iaload ((ip_a96 16).trans (ip_f96_0 (k := 12) rfl))).trans (if_pos ⟨h0, h1, h2⟩)
theorem w96_17 (X : ip_X) (ls st : List Value) (M : ip_H) (K : Option Value → ip_H → Prop) (x : Int32) : ip_wp X 96 17 ls (.int x :: st) M K = ip_wp X 96 18 ls (.long (x.toInt64) :: st) M K := wp_i2l ((ip_a96 17).trans (ip_f96_0 (k := 13) rfl))
theorem w96_18 (X : ip_X) (ls st : List Value) (M : ip_H) (K : Option Value → ip_H → Prop) (k : Nat) (x : Int64) (h0 : (ip_sh M k).1 = 0) (h1 : (ip_sh M k).2.1 = 8) : ip_wp X 96 18 ls (.long x :: .ref k :: st) M K = ip_wp X 96 21 ls st (ip_uL M k 0 x) K := (wp_putL ((ip_a96 18).trans (ip_f96_0 (k := 14) rfl))).trans (if_pos ⟨h0, h1⟩)
theorem w96_21 (X : ip_X) (ls st : List Value) (M : ip_H) (K : Option Value → ip_H → Prop) : ip_wp X 96 21 ls st M K = ip_ka (ip_get ls 0) (fun x => ip_wp X 96 22 ls (x :: st) M K) := wp_aload_n ((ip_a96 21).trans (ip_f96_0 (k := 15) rfl))
theorem w96_22 (X : ip_X) (ls st : List Value) (M : ip_H) (K : Option Value → ip_H → Prop) : ip_wp X 96 22 ls st M K = ip_ka (ip_get ls 1) (fun x => ip_wp X 96 23 ls (x :: st) M K) := wp_aload_n ((ip_a96 22).trans (ip_f96_0 (k := 16) rfl))
theorem w96_23 (X : ip_X) (ls st : List Value) (M : ip_H) (K : Option Value → ip_H → Prop) : ip_wp X 96 23 ls st M K = ip_ki (ip_get ls 2) (fun x => ip_wp X 96 24 ls (.int x :: st) M K) := wp_iload_n ((ip_a96 23).trans (ip_f96_0 (k := 17) rfl))
theorem w96_24 (X : ip_X) (ls st : List Value) (M : ip_H) (K : Option Value → ip_H → Prop) : ip_wp X 96 24 ls st M K = ip_wp X 96 25 ls (.int 1 :: st) M K := wp_iconst ((ip_a96 24).trans (ip_f96_0 (k := 18) rfl))
theorem w96_25 (X : ip_X) (ls st : List Value) (M : ip_H) (K : Option Value → ip_H → Prop) (x q : Int32) : ip_wp X 96 25 ls (.int q :: .int x :: st) M K = ip_wp X 96 26 ls (.int (x + q) :: st) M K := wp_iadd ((ip_a96 25).trans (ip_f96_0 (k := 19) rfl))
theorem w96_26 (X : ip_X) (ls st : List Value) (M : ip_H) (K : Option Value → ip_H → Prop) (i : Int32) (k : Nat) (h0 : (ip_sh M k).1 = 1) (h1 : (ip_sh M k).2.1 = 0) (h2 : ip_ix i (ip_sh M k).2.2 = true) : ip_wp X 96 26 ls (.int i :: .ref k :: st) M K = ip_wp X 96 27 ls (.int (M.2.1 k i.toNatClampNeg) :: st) M K := (wp_iaload ((ip_a96 26).trans (ip_f96_0 (k := 20) rfl))).trans (if_pos ⟨h0, h1, h2⟩)
theorem w96_27 (X : ip_X) (ls st : List Value) (M : ip_H) (K : Option Value → ip_H → Prop) (x : Int32) : ip_wp X 96 27 ls (.int x :: st) M K = ip_wp X 96 28 ls (.long (x.toInt64) :: st) M K := wp_i2l ((ip_a96 27).trans (ip_f96_0 (k := 21) rfl))
theorem w96_28 (X : ip_X) (ls st : List Value) (M : ip_H) (K : Option Value → ip_H → Prop) (k : Nat) (x : Int64) (h0 : (ip_sh M k).1 = 0) (h1 : (ip_sh M k).2.1 = 8) : ip_wp X 96 28 ls (.long x :: .ref k :: st) M K = ip_wp X 96 31 ls st (ip_uL M k 1 x) K := (wp_putL ((ip_a96 28).trans (ip_f96_0 (k := 22) rfl))).trans (if_pos ⟨h0, h1⟩)
theorem w96_31 (X : ip_X) (ls st : List Value) (M : ip_H) (K : Option Value → ip_H → Prop) : ip_wp X 96 31 ls st M K = ip_ka (ip_get ls 0) (fun x => ip_wp X 96 32 ls (x :: st) M K) := wp_aload_n ((ip_a96 31).trans (ip_f96_0 (k := 23) rfl))
theorem w96_32 (X : ip_X) (ls st : List Value) (M : ip_H) (K : Option Value → ip_H → Prop) : ip_wp X 96 32 ls st M K = ip_ka (ip_get ls 1) (fun x => ip_wp X 96 33 ls (x :: st) M K) := wp_aload_n ((ip_a96 32).trans (ip_f96_1 (k := 0) rfl))
theorem w96_33 (X : ip_X) (ls st : List Value) (M : ip_H) (K : Option Value → ip_H → Prop) : ip_wp X 96 33 ls st M K = ip_ki (ip_get ls 2) (fun x => ip_wp X 96 34 ls (.int x :: st) M K) := wp_iload_n ((ip_a96 33).trans (ip_f96_1 (k := 1) rfl))
theorem w96_34 (X : ip_X) (ls st : List Value) (M : ip_H) (K : Option Value → ip_H → Prop) : ip_wp X 96 34 ls st M K = ip_wp X 96 35 ls (.int 2 :: st) M K := wp_iconst ((ip_a96 34).trans (ip_f96_1 (k := 2) rfl))
theorem w96_35 (X : ip_X) (ls st : List Value) (M : ip_H) (K : Option Value → ip_H → Prop) (x q : Int32) : ip_wp X 96 35 ls (.int q :: .int x :: st) M K = ip_wp X 96 36 ls (.int (x + q) :: st) M K := wp_iadd ((ip_a96 35).trans (ip_f96_1 (k := 3) rfl))
theorem w96_36 (X : ip_X) (ls st : List Value) (M : ip_H) (K : Option Value → ip_H → Prop) (i : Int32) (k : Nat) (h0 : (ip_sh M k).1 = 1) (h1 : (ip_sh M k).2.1 = 0) (h2 : ip_ix i (ip_sh M k).2.2 = true) : ip_wp X 96 36 ls (.int i :: .ref k :: st) M K = ip_wp X 96 37 ls (.int (M.2.1 k i.toNatClampNeg) :: st) M K := (wp_iaload ((ip_a96 36).trans (ip_f96_1 (k := 4) rfl))).trans (if_pos ⟨h0, h1, h2⟩)
theorem w96_37 (X : ip_X) (ls st : List Value) (M : ip_H) (K : Option Value → ip_H → Prop) (x : Int32) : ip_wp X 96 37 ls (.int x :: st) M K = ip_wp X 96 38 ls (.long (x.toInt64) :: st) M K := wp_i2l ((ip_a96 37).trans (ip_f96_1 (k := 5) rfl))
theorem w96_38 (X : ip_X) (ls st : List Value) (M : ip_H) (K : Option Value → ip_H → Prop) (k : Nat) (x : Int64) (h0 : (ip_sh M k).1 = 0) (h1 : (ip_sh M k).2.1 = 8) : ip_wp X 96 38 ls (.long x :: .ref k :: st) M K = ip_wp X 96 41 ls st (ip_uL M k 2 x) K := (wp_putL ((ip_a96 38).trans (ip_f96_1 (k := 6) rfl))).trans (if_pos ⟨h0, h1⟩)
theorem w96_41 (X : ip_X) (ls st : List Value) (M : ip_H) (K : Option Value → ip_H → Prop) : ip_wp X 96 41 ls st M K = ip_ka (ip_get ls 0) (fun x => ip_wp X 96 42 ls (x :: st) M K) := wp_aload_n ((ip_a96 41).trans (ip_f96_1 (k := 7) rfl))
theorem w96_42 (X : ip_X) (ls st : List Value) (M : ip_H) (K : Option Value → ip_H → Prop) : ip_wp X 96 42 ls st M K = ip_ka (ip_get ls 1) (fun x => ip_wp X 96 43 ls (x :: st) M K) := wp_aload_n ((ip_a96 42).trans (ip_f96_1 (k := 8) rfl))
theorem w96_43 (X : ip_X) (ls st : List Value) (M : ip_H) (K : Option Value → ip_H → Prop) : ip_wp X 96 43 ls st M K = ip_ki (ip_get ls 2) (fun x => ip_wp X 96 44 ls (.int x :: st) M K) := wp_iload_n ((ip_a96 43).trans (ip_f96_1 (k := 9) rfl))
theorem w96_44 (X : ip_X) (ls st : List Value) (M : ip_H) (K : Option Value → ip_H → Prop) : ip_wp X 96 44 ls st M K = ip_wp X 96 45 ls (.int 3 :: st) M K := wp_iconst ((ip_a96 44).trans (ip_f96_1 (k := 10) rfl))
theorem w96_45 (X : ip_X) (ls st : List Value) (M : ip_H) (K : Option Value → ip_H → Prop) (x q : Int32) : ip_wp X 96 45 ls (.int q :: .int x :: st) M K = ip_wp X 96 46 ls (.int (x + q) :: st) M K := wp_iadd ((ip_a96 45).trans (ip_f96_1 (k := 11) rfl))
theorem w96_46 (X : ip_X) (ls st : List Value) (M : ip_H) (K : Option Value → ip_H → Prop) (i : Int32) (k : Nat) (h0 : (ip_sh M k).1 = 1) (h1 : (ip_sh M k).2.1 = 0) (h2 : ip_ix i (ip_sh M k).2.2 = true) : ip_wp X 96 46 ls (.int i :: .ref k :: st) M K = ip_wp X 96 47 ls (.int (M.2.1 k i.toNatClampNeg) :: st) M K := (wp_iaload ((ip_a96 46).trans (ip_f96_1 (k := 12) rfl))).trans (if_pos ⟨h0, h1, h2⟩)
theorem w96_47 (X : ip_X) (ls st : List Value) (M : ip_H) (K : Option Value → ip_H → Prop) (x : Int32) : ip_wp X 96 47 ls (.int x :: st) M K = ip_wp X 96 48 ls (.long (x.toInt64) :: st) M K := wp_i2l ((ip_a96 47).trans (ip_f96_1 (k := 13) rfl))
theorem w96_48 (X : ip_X) (ls st : List Value) (M : ip_H) (K : Option Value → ip_H → Prop) (k : Nat) (x : Int64) (h0 : (ip_sh M k).1 = 0) (h1 : (ip_sh M k).2.1 = 8) : ip_wp X 96 48 ls (.long x :: .ref k :: st) M K = ip_wp X 96 51 ls st (ip_uL M k 3 x) K := (wp_putL ((ip_a96 48).trans (ip_f96_1 (k := 14) rfl))).trans (if_pos ⟨h0, h1⟩)
theorem w96_51 (X : ip_X) (ls : List Value) (M : ip_H) (K : Option Value → ip_H → Prop) : ip_wp X 96 51 ls [] M K = K none M := wp_vret ((ip_a96 51).trans (ip_f96_1 (k := 15) rfl))
theorem ip_a97 (pc : Nat) : ip_at 97 pc = ip_c97.lookup pc := rfl
theorem ip_s97 : lk_s 0 ip_c97 = true := by decide +kernel
theorem ip_l97_0 : ip_d97_0.length = 24 := rfl
theorem ip_f97_0 {k pc : Nat} {e : ip_E} (h : ip_d97_0[k]? = some (pc, e)) : ip_c97.lookup pc = some e := lk_of ip_s97 (lk_apl h)
theorem ip_f97_1 {k pc : Nat} {e : ip_E} (h : ip_d97_1[k]? = some (pc, e)) : ip_c97.lookup pc = some e := lk_of ip_s97 (lk_app ip_l97_0 h)
theorem w97_0 (X : ip_X) (ls st : List Value) (M : ip_H) (K : Option Value → ip_H → Prop) : ip_wp X 97 0 ls st M K = ip_ki (ip_get ls 2) (fun x => ip_wp X 97 1 ls (.int x :: st) M K) := wp_iload_n ((ip_a97 0).trans (ip_f97_0 (k := 0) rfl))
theorem w97_1 (X : ip_X) (ls st : List Value) (M : ip_H) (K : Option Value → ip_H → Prop) (x : Int32) : ip_wp X 97 1 ls (.int x :: st) M K = if x < 0 then ip_wp X 97 12 ls st M K else ip_wp X 97 4 ls st M K := wp_ifCond_lt ((ip_a97 1).trans (ip_f97_0 (k := 1) rfl))
theorem w97_4 (X : ip_X) (ls st : List Value) (M : ip_H) (K : Option Value → ip_H → Prop) : ip_wp X 97 4 ls st M K = ip_ki (ip_get ls 2) (fun x => ip_wp X 97 5 ls (.int x :: st) M K) := wp_iload_n ((ip_a97 4).trans (ip_f97_0 (k := 2) rfl))
theorem w97_5 (X : ip_X) (ls st : List Value) (M : ip_H) (K : Option Value → ip_H → Prop) : ip_wp X 97 5 ls st M K = ip_ka (ip_get ls 1) (fun x => ip_wp X 97 6 ls (x :: st) M K) := wp_aload_n ((ip_a97 5).trans (ip_f97_0 (k := 3) rfl))
theorem w97_6 (X : ip_X) (ls st : List Value) (M : ip_H) (K : Option Value → ip_H → Prop) (k : Nat) (h0 : (ip_sh M k).1 = 1) : ip_wp X 97 6 ls (.ref k :: st) M K = ip_wp X 97 7 ls (.int (Int32.ofNat (ip_sh M k).2.2) :: st) M K := (wp_alen ((ip_a97 6).trans (ip_f97_0 (k := 4) rfl))).trans (if_pos h0)
theorem w97_7 (X : ip_X) (ls st : List Value) (M : ip_H) (K : Option Value → ip_H → Prop) : ip_wp X 97 7 ls st M K = ip_wp X 97 8 ls (.int 4 :: st) M K := wp_iconst ((ip_a97 7).trans (ip_f97_0 (k := 5) rfl))
theorem w97_8 (X : ip_X) (ls st : List Value) (M : ip_H) (K : Option Value → ip_H → Prop) (x q : Int32) : ip_wp X 97 8 ls (.int q :: .int x :: st) M K = ip_wp X 97 9 ls (.int (x - q) :: st) M K := wp_isub ((ip_a97 8).trans (ip_f97_0 (k := 6) rfl))
theorem w97_9 (X : ip_X) (ls st : List Value) (M : ip_H) (K : Option Value → ip_H → Prop) (x q : Int32) : ip_wp X 97 9 ls (.int q :: .int x :: st) M K = if q < x then ip_wp X 97 12 ls st M K else ip_wp X 97 13 ls st M K := wp_if_icmp_le ((ip_a97 9).trans (ip_f97_0 (k := 7) rfl))
theorem w97_12 (X : ip_X) (ls : List Value) (M : ip_H) (K : Option Value → ip_H → Prop) : ip_wp X 97 12 ls [] M K = K none M := wp_vret ((ip_a97 12).trans (ip_f97_0 (k := 8) rfl))
theorem w97_13 (X : ip_X) (ls st : List Value) (M : ip_H) (K : Option Value → ip_H → Prop) : ip_wp X 97 13 ls st M K = ip_ka (ip_get ls 1) (fun x => ip_wp X 97 14 ls (x :: st) M K) := wp_aload_n ((ip_a97 13).trans (ip_f97_0 (k := 9) rfl))
theorem w97_14 (X : ip_X) (ls st : List Value) (M : ip_H) (K : Option Value → ip_H → Prop) : ip_wp X 97 14 ls st M K = ip_ki (ip_get ls 2) (fun x => ip_wp X 97 15 ls (.int x :: st) M K) := wp_iload_n ((ip_a97 14).trans (ip_f97_0 (k := 10) rfl))
theorem w97_15 (X : ip_X) (ls st : List Value) (M : ip_H) (K : Option Value → ip_H → Prop) : ip_wp X 97 15 ls st M K = ip_ka (ip_get ls 0) (fun x => ip_wp X 97 16 ls (x :: st) M K) := wp_aload_n ((ip_a97 15).trans (ip_f97_0 (k := 11) rfl))
theorem w97_16 (X : ip_X) (ls st : List Value) (M : ip_H) (K : Option Value → ip_H → Prop) (k : Nat) (h0 : (ip_sh M k).1 = 0) (h1 : (ip_sh M k).2.1 = 8) : ip_wp X 97 16 ls (.ref k :: st) M K = ip_wp X 97 19 ls (.long (M.2.2.1 k 0) :: st) M K := (wp_getL ((ip_a97 16).trans (ip_f97_0 (k := 12) rfl))).trans (if_pos ⟨h0, h1⟩)
theorem w97_19 (X : ip_X) (ls st : List Value) (M : ip_H) (K : Option Value → ip_H → Prop) (x : Int64) : ip_wp X 97 19 ls (.long x :: st) M K = ip_wp X 97 20 ls (.int (x.toInt32) :: st) M K := wp_l2i ((ip_a97 19).trans (ip_f97_0 (k := 13) rfl))
theorem w97_20 (X : ip_X) (ls st : List Value) (M : ip_H) (K : Option Value → ip_H → Prop) (i x : Int32) (k : Nat) (h0 : (ip_sh M k).1 = 1) (h1 : (ip_sh M k).2.1 = 0) (h2 : ip_ix i (ip_sh M k).2.2 = true) : ip_wp X 97 20 ls (.int x :: .int i :: .ref k :: st) M K = ip_wp X 97 21 ls st (ip_uI M k i.toNatClampNeg x) K := (wp_iastore ((ip_a97 20).trans (ip_f97_0 (k := 14) rfl))).trans (if_pos ⟨h0, h1, h2⟩)
theorem w97_21 (X : ip_X) (ls st : List Value) (M : ip_H) (K : Option Value → ip_H → Prop) : ip_wp X 97 21 ls st M K = ip_ka (ip_get ls 1) (fun x => ip_wp X 97 22 ls (x :: st) M K) := wp_aload_n ((ip_a97 21).trans (ip_f97_0 (k := 15) rfl))
theorem w97_22 (X : ip_X) (ls st : List Value) (M : ip_H) (K : Option Value → ip_H → Prop) : ip_wp X 97 22 ls st M K = ip_ki (ip_get ls 2) (fun x => ip_wp X 97 23 ls (.int x :: st) M K) := wp_iload_n ((ip_a97 22).trans (ip_f97_0 (k := 16) rfl))
theorem w97_23 (X : ip_X) (ls st : List Value) (M : ip_H) (K : Option Value → ip_H → Prop) : ip_wp X 97 23 ls st M K = ip_wp X 97 24 ls (.int 1 :: st) M K := wp_iconst ((ip_a97 23).trans (ip_f97_0 (k := 17) rfl))
theorem w97_24 (X : ip_X) (ls st : List Value) (M : ip_H) (K : Option Value → ip_H → Prop) (x q : Int32) : ip_wp X 97 24 ls (.int q :: .int x :: st) M K = ip_wp X 97 25 ls (.int (x + q) :: st) M K := wp_iadd ((ip_a97 24).trans (ip_f97_0 (k := 18) rfl))
theorem w97_25 (X : ip_X) (ls st : List Value) (M : ip_H) (K : Option Value → ip_H → Prop) : ip_wp X 97 25 ls st M K = ip_ka (ip_get ls 0) (fun x => ip_wp X 97 26 ls (x :: st) M K) := wp_aload_n ((ip_a97 25).trans (ip_f97_0 (k := 19) rfl))
theorem w97_26 (X : ip_X) (ls st : List Value) (M : ip_H) (K : Option Value → ip_H → Prop) (k : Nat) (h0 : (ip_sh M k).1 = 0) (h1 : (ip_sh M k).2.1 = 8) : ip_wp X 97 26 ls (.ref k :: st) M K = ip_wp X 97 29 ls (.long (M.2.2.1 k 1) :: st) M K := (wp_getL ((ip_a97 26).trans (ip_f97_0 (k := 20) rfl))).trans (if_pos ⟨h0, h1⟩)
theorem w97_29 (X : ip_X) (ls st : List Value) (M : ip_H) (K : Option Value → ip_H → Prop) (x : Int64) : ip_wp X 97 29 ls (.long x :: st) M K = ip_wp X 97 30 ls (.int (x.toInt32) :: st) M K := wp_l2i ((ip_a97 29).trans (ip_f97_0 (k := 21) rfl))
theorem w97_30 (X : ip_X) (ls st : List Value) (M : ip_H) (K : Option Value → ip_H → Prop) (i x : Int32) (k : Nat) (h0 : (ip_sh M k).1 = 1) (h1 : (ip_sh M k).2.1 = 0) (h2 : ip_ix i (ip_sh M k).2.2 = true) : ip_wp X 97 30 ls (.int x :: .int i :: .ref k :: st) M K = ip_wp X 97 31 ls st (ip_uI M k i.toNatClampNeg x) K := (wp_iastore ((ip_a97 30).trans (ip_f97_0 (k := 22) rfl))).trans (if_pos ⟨h0, h1, h2⟩)
theorem w97_31 (X : ip_X) (ls st : List Value) (M : ip_H) (K : Option Value → ip_H → Prop) : ip_wp X 97 31 ls st M K = ip_ka (ip_get ls 1) (fun x => ip_wp X 97 32 ls (x :: st) M K) := wp_aload_n ((ip_a97 31).trans (ip_f97_0 (k := 23) rfl))
theorem w97_32 (X : ip_X) (ls st : List Value) (M : ip_H) (K : Option Value → ip_H → Prop) : ip_wp X 97 32 ls st M K = ip_ki (ip_get ls 2) (fun x => ip_wp X 97 33 ls (.int x :: st) M K) := wp_iload_n ((ip_a97 32).trans (ip_f97_1 (k := 0) rfl))
theorem w97_33 (X : ip_X) (ls st : List Value) (M : ip_H) (K : Option Value → ip_H → Prop) : ip_wp X 97 33 ls st M K = ip_wp X 97 34 ls (.int 2 :: st) M K := wp_iconst ((ip_a97 33).trans (ip_f97_1 (k := 1) rfl))
theorem w97_34 (X : ip_X) (ls st : List Value) (M : ip_H) (K : Option Value → ip_H → Prop) (x q : Int32) : ip_wp X 97 34 ls (.int q :: .int x :: st) M K = ip_wp X 97 35 ls (.int (x + q) :: st) M K := wp_iadd ((ip_a97 34).trans (ip_f97_1 (k := 2) rfl))
theorem w97_35 (X : ip_X) (ls st : List Value) (M : ip_H) (K : Option Value → ip_H → Prop) : ip_wp X 97 35 ls st M K = ip_ka (ip_get ls 0) (fun x => ip_wp X 97 36 ls (x :: st) M K) := wp_aload_n ((ip_a97 35).trans (ip_f97_1 (k := 3) rfl))
theorem w97_36 (X : ip_X) (ls st : List Value) (M : ip_H) (K : Option Value → ip_H → Prop) (k : Nat) (h0 : (ip_sh M k).1 = 0) (h1 : (ip_sh M k).2.1 = 8) : ip_wp X 97 36 ls (.ref k :: st) M K = ip_wp X 97 39 ls (.long (M.2.2.1 k 2) :: st) M K := (wp_getL ((ip_a97 36).trans (ip_f97_1 (k := 4) rfl))).trans (if_pos ⟨h0, h1⟩)
theorem w97_39 (X : ip_X) (ls st : List Value) (M : ip_H) (K : Option Value → ip_H → Prop) (x : Int64) : ip_wp X 97 39 ls (.long x :: st) M K = ip_wp X 97 40 ls (.int (x.toInt32) :: st) M K := wp_l2i ((ip_a97 39).trans (ip_f97_1 (k := 5) rfl))
theorem w97_40 (X : ip_X) (ls st : List Value) (M : ip_H) (K : Option Value → ip_H → Prop) (i x : Int32) (k : Nat) (h0 : (ip_sh M k).1 = 1) (h1 : (ip_sh M k).2.1 = 0) (h2 : ip_ix i (ip_sh M k).2.2 = true) : ip_wp X 97 40 ls (.int x :: .int i :: .ref k :: st) M K = ip_wp X 97 41 ls st (ip_uI M k i.toNatClampNeg x) K := (wp_iastore ((ip_a97 40).trans (ip_f97_1 (k := 6) rfl))).trans (if_pos ⟨h0, h1, h2⟩)
theorem w97_41 (X : ip_X) (ls st : List Value) (M : ip_H) (K : Option Value → ip_H → Prop) : ip_wp X 97 41 ls st M K = ip_ka (ip_get ls 1) (fun x => ip_wp X 97 42 ls (x :: st) M K) := wp_aload_n ((ip_a97 41).trans (ip_f97_1 (k := 7) rfl))
theorem w97_42 (X : ip_X) (ls st : List Value) (M : ip_H) (K : Option Value → ip_H → Prop) : ip_wp X 97 42 ls st M K = ip_ki (ip_get ls 2) (fun x => ip_wp X 97 43 ls (.int x :: st) M K) := wp_iload_n ((ip_a97 42).trans (ip_f97_1 (k := 8) rfl))
theorem w97_43 (X : ip_X) (ls st : List Value) (M : ip_H) (K : Option Value → ip_H → Prop) : ip_wp X 97 43 ls st M K = ip_wp X 97 44 ls (.int 3 :: st) M K := wp_iconst ((ip_a97 43).trans (ip_f97_1 (k := 9) rfl))
theorem w97_44 (X : ip_X) (ls st : List Value) (M : ip_H) (K : Option Value → ip_H → Prop) (x q : Int32) : ip_wp X 97 44 ls (.int q :: .int x :: st) M K = ip_wp X 97 45 ls (.int (x + q) :: st) M K := wp_iadd ((ip_a97 44).trans (ip_f97_1 (k := 10) rfl))
theorem w97_45 (X : ip_X) (ls st : List Value) (M : ip_H) (K : Option Value → ip_H → Prop) : ip_wp X 97 45 ls st M K = ip_ka (ip_get ls 0) (fun x => ip_wp X 97 46 ls (x :: st) M K) := wp_aload_n ((ip_a97 45).trans (ip_f97_1 (k := 11) rfl))
theorem w97_46 (X : ip_X) (ls st : List Value) (M : ip_H) (K : Option Value → ip_H → Prop) (k : Nat) (h0 : (ip_sh M k).1 = 0) (h1 : (ip_sh M k).2.1 = 8) : ip_wp X 97 46 ls (.ref k :: st) M K = ip_wp X 97 49 ls (.long (M.2.2.1 k 3) :: st) M K := (wp_getL ((ip_a97 46).trans (ip_f97_1 (k := 12) rfl))).trans (if_pos ⟨h0, h1⟩)
theorem w97_49 (X : ip_X) (ls st : List Value) (M : ip_H) (K : Option Value → ip_H → Prop) (x : Int64) : ip_wp X 97 49 ls (.long x :: st) M K = ip_wp X 97 50 ls (.int (x.toInt32) :: st) M K := wp_l2i ((ip_a97 49).trans (ip_f97_1 (k := 13) rfl))
theorem w97_50 (X : ip_X) (ls st : List Value) (M : ip_H) (K : Option Value → ip_H → Prop) (i x : Int32) (k : Nat) (h0 : (ip_sh M k).1 = 1) (h1 : (ip_sh M k).2.1 = 0) (h2 : ip_ix i (ip_sh M k).2.2 = true) : ip_wp X 97 50 ls (.int x :: .int i :: .ref k :: st) M K = ip_wp X 97 51 ls st (ip_uI M k i.toNatClampNeg x) K := (wp_iastore ((ip_a97 50).trans (ip_f97_1 (k := 14) rfl))).trans (if_pos ⟨h0, h1, h2⟩)
theorem w97_51 (X : ip_X) (ls : List Value) (M : ip_H) (K : Option Value → ip_H → Prop) : ip_wp X 97 51 ls [] M K = K none M := wp_vret ((ip_a97 51).trans (ip_f97_1 (k := 15) rfl))
theorem ip_a98 (pc : Nat) : ip_at 98 pc = ip_c98.lookup pc := rfl
theorem w98_0 (X : ip_X) (ls st : List Value) (M : ip_H) (K : Option Value → ip_H → Prop) : ip_wp X 98 0 ls st M K = ip_ka (ip_get ls 0) (fun x => ip_wp X 98 1 ls (x :: st) M K) := wp_aload_n ((ip_a98 0).trans rfl)
theorem w98_1_r (X : ip_X) (ls st : List Value) (M : ip_H) (K : Option Value → ip_H → Prop) (x : Nat) : ip_wp X 98 1 ls (.ref x :: st) M K = ip_wp X 98 2 ls (.ref x :: .ref x :: st) M K := wp_dup_r ((ip_a98 1).trans rfl)
theorem w98_1_i (X : ip_X) (ls st : List Value) (M : ip_H) (K : Option Value → ip_H → Prop) (x : Int32) : ip_wp X 98 1 ls (.int x :: st) M K = ip_wp X 98 2 ls (.int x :: .int x :: st) M K := wp_dup_i ((ip_a98 1).trans rfl)
theorem w98_2 (X : ip_X) (ls st : List Value) (M : ip_H) (K : Option Value → ip_H → Prop) (k : Nat) (h0 : (ip_sh M k).1 = 0) (h1 : (ip_sh M k).2.1 = 8) : ip_wp X 98 2 ls (.ref k :: st) M K = ip_wp X 98 5 ls (.long (M.2.2.1 k 0) :: st) M K := (wp_getL ((ip_a98 2).trans rfl)).trans (if_pos ⟨h0, h1⟩)
theorem w98_5 (X : ip_X) (ls st : List Value) (M : ip_H) (K : Option Value → ip_H → Prop) : ip_wp X 98 5 ls st M K = ip_kl (ip_get ls 1) (fun x => ip_wp X 98 6 ls (.long x :: st) M K) := wp_lload_n ((ip_a98 5).trans rfl)
theorem w98_6 (X : ip_X) (ls st : List Value) (M : ip_H) (K : Option Value → ip_H → Prop) : ip_wp X 98 6 ls st M K = ip_ka (ip_get ls 0) (fun x => ip_wp X 98 7 ls (x :: st) M K) := wp_aload_n ((ip_a98 6).trans rfl)
theorem w98_7 (X : ip_X) (ls st : List Value) (M : ip_H) (K : Option Value → ip_H → Prop) (k : Nat) (h0 : (ip_sh M k).1 = 0) (h1 : (ip_sh M k).2.1 = 8) : ip_wp X 98 7 ls (.ref k :: st) M K = ip_wp X 98 10 ls (.long (M.2.2.1 k 3) :: st) M K := (wp_getL ((ip_a98 7).trans rfl)).trans (if_pos ⟨h0, h1⟩)
theorem w98_10 (X : ip_X) (ls st : List Value) (M : ip_H) (K : Option Value → ip_H → Prop) (x q : Int64) : ip_wp X 98 10 ls (.long q :: .long x :: st) M K = ip_wp X 98 11 ls (.long (x * q) :: st) M K := wp_lmul ((ip_a98 10).trans rfl)
theorem w98_11 (X : ip_X) (ls st : List Value) (M : ip_H) (K : Option Value → ip_H → Prop) (x q : Int64) : ip_wp X 98 11 ls (.long q :: .long x :: st) M K = ip_wp X 98 12 ls (.long (x - q) :: st) M K := wp_lsub ((ip_a98 11).trans rfl)
theorem w98_12 (X : ip_X) (ls st : List Value) (M : ip_H) (K : Option Value → ip_H → Prop) (k : Nat) (x : Int64) (h0 : (ip_sh M k).1 = 0) (h1 : (ip_sh M k).2.1 = 8) : ip_wp X 98 12 ls (.long x :: .ref k :: st) M K = ip_wp X 98 15 ls st (ip_uL M k 0 x) K := (wp_putL ((ip_a98 12).trans rfl)).trans (if_pos ⟨h0, h1⟩)
theorem w98_15 (X : ip_X) (ls : List Value) (M : ip_H) (K : Option Value → ip_H → Prop) : ip_wp X 98 15 ls [] M K = K none M := wp_vret ((ip_a98 15).trans rfl)
theorem ip_a101 (pc : Nat) : ip_at 101 pc = ip_c101.lookup pc := rfl
theorem w101_0 (X : ip_X) (ls st : List Value) (M : ip_H) (K : Option Value → ip_H → Prop) : ip_wp X 101 0 ls st M K = ip_ka (ip_get ls 0) (fun x => ip_wp X 101 1 ls (x :: st) M K) := wp_aload_n ((ip_a101 0).trans rfl)
theorem w101_1 (X : ip_X) (ls st : List Value) (M : ip_H) (K : Option Value → ip_H → Prop) (k : Nat) (h0 : (ip_sh M k).1 = 0) (h1 : (ip_sh M k).2.1 = 8) : ip_wp X 101 1 ls (.ref k :: st) M K = ip_wp X 101 4 ls (.long (M.2.2.1 k 0) :: st) M K := (wp_getL ((ip_a101 1).trans rfl)).trans (if_pos ⟨h0, h1⟩)
theorem w101_4 (X : ip_X) (ls st : List Value) (M : ip_H) (K : Option Value → ip_H → Prop) : ip_wp X 101 4 ls st M K = ip_wp X 101 5 ls (.long 0 :: st) M K := wp_lconst ((ip_a101 4).trans rfl)
theorem w101_5 (X : ip_X) (ls st : List Value) (M : ip_H) (K : Option Value → ip_H → Prop) (x q : Int64) : ip_wp X 101 5 ls (.long q :: .long x :: st) M K = ip_wp X 101 6 ls (.int (lg_cmp x q) :: st) M K := wp_lcmp ((ip_a101 5).trans rfl)
theorem w101_6 (X : ip_X) (ls st : List Value) (M : ip_H) (K : Option Value → ip_H → Prop) (x : Int32) : ip_wp X 101 6 ls (.int x :: st) M K = if x = 0 then ip_wp X 101 9 ls st M K else ip_wp X 101 31 ls st M K := wp_ifCond_ne ((ip_a101 6).trans rfl)
theorem w101_9 (X : ip_X) (ls st : List Value) (M : ip_H) (K : Option Value → ip_H → Prop) : ip_wp X 101 9 ls st M K = ip_ka (ip_get ls 0) (fun x => ip_wp X 101 10 ls (x :: st) M K) := wp_aload_n ((ip_a101 9).trans rfl)
theorem w101_10 (X : ip_X) (ls st : List Value) (M : ip_H) (K : Option Value → ip_H → Prop) (k : Nat) (h0 : (ip_sh M k).1 = 0) (h1 : (ip_sh M k).2.1 = 8) : ip_wp X 101 10 ls (.ref k :: st) M K = ip_wp X 101 13 ls (.long (M.2.2.1 k 1) :: st) M K := (wp_getL ((ip_a101 10).trans rfl)).trans (if_pos ⟨h0, h1⟩)
theorem w101_13 (X : ip_X) (ls st : List Value) (M : ip_H) (K : Option Value → ip_H → Prop) : ip_wp X 101 13 ls st M K = ip_wp X 101 14 ls (.long 0 :: st) M K := wp_lconst ((ip_a101 13).trans rfl)
theorem w101_14 (X : ip_X) (ls st : List Value) (M : ip_H) (K : Option Value → ip_H → Prop) (x q : Int64) : ip_wp X 101 14 ls (.long q :: .long x :: st) M K = ip_wp X 101 15 ls (.int (lg_cmp x q) :: st) M K := wp_lcmp ((ip_a101 14).trans rfl)
theorem w101_15 (X : ip_X) (ls st : List Value) (M : ip_H) (K : Option Value → ip_H → Prop) (x : Int32) : ip_wp X 101 15 ls (.int x :: st) M K = if x = 0 then ip_wp X 101 18 ls st M K else ip_wp X 101 31 ls st M K := wp_ifCond_ne ((ip_a101 15).trans rfl)
theorem w101_18 (X : ip_X) (ls st : List Value) (M : ip_H) (K : Option Value → ip_H → Prop) : ip_wp X 101 18 ls st M K = ip_ka (ip_get ls 0) (fun x => ip_wp X 101 19 ls (x :: st) M K) := wp_aload_n ((ip_a101 18).trans rfl)
theorem w101_19 (X : ip_X) (ls st : List Value) (M : ip_H) (K : Option Value → ip_H → Prop) (k : Nat) (h0 : (ip_sh M k).1 = 0) (h1 : (ip_sh M k).2.1 = 8) : ip_wp X 101 19 ls (.ref k :: st) M K = ip_wp X 101 22 ls (.long (M.2.2.1 k 2) :: st) M K := (wp_getL ((ip_a101 19).trans rfl)).trans (if_pos ⟨h0, h1⟩)
theorem w101_22 (X : ip_X) (ls st : List Value) (M : ip_H) (K : Option Value → ip_H → Prop) : ip_wp X 101 22 ls st M K = ip_wp X 101 23 ls (.long 0 :: st) M K := wp_lconst ((ip_a101 22).trans rfl)
theorem w101_23 (X : ip_X) (ls st : List Value) (M : ip_H) (K : Option Value → ip_H → Prop) (x q : Int64) : ip_wp X 101 23 ls (.long q :: .long x :: st) M K = ip_wp X 101 24 ls (.int (lg_cmp x q) :: st) M K := wp_lcmp ((ip_a101 23).trans rfl)
theorem w101_24 (X : ip_X) (ls st : List Value) (M : ip_H) (K : Option Value → ip_H → Prop) (x : Int32) : ip_wp X 101 24 ls (.int x :: st) M K = if x = 0 then ip_wp X 101 27 ls st M K else ip_wp X 101 31 ls st M K := wp_ifCond_ne ((ip_a101 24).trans rfl)
theorem w101_27 (X : ip_X) (ls st : List Value) (M : ip_H) (K : Option Value → ip_H → Prop) : ip_wp X 101 27 ls st M K = ip_wp X 101 28 ls (.int 1 :: st) M K := wp_iconst ((ip_a101 27).trans rfl)
theorem w101_28 (X : ip_X) (ls st : List Value) (M : ip_H) (K : Option Value → ip_H → Prop) : ip_wp X 101 28 ls st M K = ip_wp X 101 32 ls st M K := wp_goto ((ip_a101 28).trans rfl)
theorem w101_31 (X : ip_X) (ls st : List Value) (M : ip_H) (K : Option Value → ip_H → Prop) : ip_wp X 101 31 ls st M K = ip_wp X 101 32 ls (.int 0 :: st) M K := wp_iconst ((ip_a101 31).trans rfl)
theorem w101_32 (X : ip_X) (ls : List Value) (M : ip_H) (K : Option Value → ip_H → Prop) (x : Int32) (h0 : x = 0 ∨ x = 1) : ip_wp X 101 32 ls [.int x] M K = K (some (.int x)) M := (wp_zret ((ip_a101 32).trans rfl)).trans (if_pos h0)
end
noncomputable section
-- PART c13yf07.course
-- A COURSE of the class: numbers
theorem he_k (k p w : Nat) : 10 * Int32.ofNat k + 5 * Int32.ofNat p + Int32.ofNat w = Int32.ofNat (10 * k + 5 * p + w) := by
  rw [show (10 : Int32) = Int32.ofNat 10 from rfl, show (5 : Int32) = Int32.ofNat 5 from rfl, ip_om, ip_om, ip_oa, ip_oa]
theorem he_2 (k p : Nat) : 10 * Int32.ofNat k + 5 * Int32.ofNat p = Int32.ofNat (10 * k + 5 * p) := by
  rw [show (10 : Int32) = Int32.ofNat 10 from rfl, show (5 : Int32) = Int32.ofNat 5 from rfl, ip_om, ip_om, ip_oa]
/-- four ints of a row, as a value -/
def qi (f : Nat → Int32) (j : Nat) : Int × Int × Int × Int := ((f j).toInt, (f (j + 1)).toInt, (f (j + 2)).toInt, (f (j + 3)).toInt)
/-- a value saved into a row -/
def k_sv (M : ip_H) (A j : Nat) (z : Int × Int × Int × Int) : ip_H := ip_uI (ip_uI (ip_uI (ip_uI M A j (Int32.ofInt z.1)) A (j + 1) (Int32.ofInt z.2.1)) A (j + 2) (Int32.ofInt z.2.2.1)) A (j + 3) (Int32.ofInt z.2.2.2)
theorem k_sv_R (M : ip_H) (A j : Nat) (z : Int × Int × Int × Int) : (k_sv M A j z).2.2.2 = M.2.2.2 := rfl
theorem k_sv_sh (M : ip_H) (A j : Nat) (z : Int × Int × Int × Int) (k : Nat) : ip_sh (k_sv M A j z) k = ip_sh M k := rfl
theorem gG_sv (M : ip_H) (A j : Nat) (z : Int × Int × Int × Int) (h : ip_G M) : ip_G (k_sv M A j z) := gG_uI _ _ _ _ (gG_uI _ _ _ _ (gG_uI _ _ _ _ (gG_uI _ _ _ _ h)))
theorem k_sv_I (M : ip_H) (A j : Nat) (z : Int × Int × Int × Int) (a b : Nat) : (k_sv M A j z).2.1 a b = if a = A ∧ b = j + 3 then Int32.ofInt z.2.2.2 else if a = A ∧ b = j + 2 then Int32.ofInt z.2.2.1 else if a = A ∧ b = j + 1 then Int32.ofInt z.2.1 else if a = A ∧ b = j then Int32.ofInt z.1 else M.2.1 a b := by
  unfold k_sv
  simp only [ip_uI_I]
theorem k_sv_o (M : ip_H) (A j : Nat) (z : Int × Int × Int × Int) (a : Nat) (h : ¬ a = A) : (k_sv M A j z).2.1 a = M.2.1 a := by
  funext b
  rw [k_sv_I]
  simp only [h, false_and, ↓reduceIte]
theorem qi_ld (M : ip_H) (v : Nat) (f : Nat → Int32) (j : Nat) : ip_uL (ip_uL (ip_uL (ip_uL M v 0 (f j).toInt64) v 1 (f (j + 1)).toInt64) v 2 (f (j + 2)).toInt64) v 3 (f (j + 3)).toInt64 = k_v M v (qi f j) := by
  unfold k_v qi
  dsimp only
  rw [z_w, z_w, z_w, z_w]
/-- no number but the lower one: nothing is left over -/
def k_iz (z : Int × Int × Int × Int) : Bool := decide (Int64.ofInt z.1 = 0) && (decide (Int64.ofInt z.2.1 = 0) && decide (Int64.ofInt z.2.2.1 = 0))
/-- STATE's number is whole -/
def k_wh (f : Nat → Int32) (j : Nat) : Bool := decide (f (j + 1) = 0) && (decide (f (j + 2) = 0) && decide (f (j + 3) = 1))
set_option maxHeartbeats 40000000 in
set_option maxRecDepth 100000 in
theorem s_96 (X : ip_X) (M : ip_H) (K : Option Value → ip_H → Prop) (v A n j : Nat) (hv : ip_sh M v = (0, 8, 4)) (ha : ip_sh M A = (1, 0, n)) (hn : n < 2147483648) (hj : j + 4 ≤ n) : ip_wp X 96 0 [.ref v, .ref A, .int (Int32.ofNat j)] [] M K = K none (k_v M v (qi (M.2.1 A) j)) := by
  have en : Int32.ofNat n - 4 = Int32.ofNat (n - 4) := by
    apply Int32.toInt_inj.mp
    rw [Int32.toInt_sub, ip_nt _ hn, ip_nt _ (by omega), show (4 : Int32).toInt = 4 from rfl, Int.bmod_eq_of_le_mul_two (by omega) (by omega)]
    omega
  have gl : (Int32.ofNat (n - 4) < Int32.ofNat j) = False := by rw [ip_nlt _ _ (by omega) (by omega)]; exact eq_false (by omega)
  have n0 := eq_false (ip_nn j (by omega))
  have c0 := ip_nc j (by omega)
  have l0 : (j < n) = True := eq_true (by omega)
  have n1 := eq_false (ip_nn (j + 1) (by omega))
  have c1 := ip_nc (j + 1) (by omega)
  have l1 : (j + 1 < n) = True := eq_true (by omega)
  have e1 : Int32.ofNat j + 1 = Int32.ofNat (j + 1) := ip_oa j 1
  have n2 := eq_false (ip_nn (j + 2) (by omega))
  have c2 := ip_nc (j + 2) (by omega)
  have l2 : (j + 2 < n) = True := eq_true (by omega)
  have e2 : Int32.ofNat j + 2 = Int32.ofNat (j + 2) := ip_oa j 2
  have n3 := eq_false (ip_nn (j + 3) (by omega))
  have c3 := ip_nc (j + 3) (by omega)
  have l3 : (j + 3 < n) = True := eq_true (by omega)
  have e3 : Int32.ofNat j + 3 = Int32.ofNat (j + 3) := ip_oa j 3
  rw [← qi_ld]
  simp (config := { maxSteps := 10000000, maxDischargeDepth := 30, decide := true }) only [w96_0, w96_1, w96_4, w96_5, w96_6, w96_7, w96_8, w96_9, w96_12, w96_13, w96_14, w96_15, w96_16, w96_17, w96_18, w96_21, w96_22, w96_23, w96_24, w96_25, w96_26, w96_27, w96_28, w96_31, w96_32, w96_33, w96_34, w96_35, w96_36, w96_37, w96_38, w96_41, w96_42, w96_43, w96_44, w96_45, w96_46, w96_47, w96_48, w96_51, ↓ip_ka0, ↓ip_ka1, ↓ip_ki2, ip_uL_I, ip_uL_sh, ↓reduceIte, and_self, not_false_eq_true, ip_ix_eq, hv, ha, en, gl, n0, c0, l0, n1, c1, l1, n2, c2, l2, n3, c3, l3, e1, e2, e3]

set_option maxHeartbeats 40000000 in
set_option maxRecDepth 100000 in
theorem s_97 (X : ip_X) (M : ip_H) (K : Option Value → ip_H → Prop) (v A n j : Nat) (hv : ip_sh M v = (0, 8, 4)) (ha : ip_sh M A = (1, 0, n)) (hn : n < 2147483648) (hj : j + 4 ≤ n) (z : Int × Int × Int × Int) (hz : cv M v z) : ip_wp X 97 0 [.ref v, .ref A, .int (Int32.ofNat j)] [] M K = K none (k_sv M A j z) := by
  have en : Int32.ofNat n - 4 = Int32.ofNat (n - 4) := by
    apply Int32.toInt_inj.mp
    rw [Int32.toInt_sub, ip_nt _ hn, ip_nt _ (by omega), show (4 : Int32).toInt = 4 from rfl, Int.bmod_eq_of_le_mul_two (by omega) (by omega)]
    omega
  have gl : (Int32.ofNat (n - 4) < Int32.ofNat j) = False := by rw [ip_nlt _ _ (by omega) (by omega)]; exact eq_false (by omega)
  have n0 := eq_false (ip_nn j (by omega))
  have c0 := ip_nc j (by omega)
  have l0 : (j < n) = True := eq_true (by omega)
  have n1 := eq_false (ip_nn (j + 1) (by omega))
  have c1 := ip_nc (j + 1) (by omega)
  have l1 : (j + 1 < n) = True := eq_true (by omega)
  have e1 : Int32.ofNat j + 1 = Int32.ofNat (j + 1) := ip_oa j 1
  have n2 := eq_false (ip_nn (j + 2) (by omega))
  have c2 := ip_nc (j + 2) (by omega)
  have l2 : (j + 2 < n) = True := eq_true (by omega)
  have e2 : Int32.ofNat j + 2 = Int32.ofNat (j + 2) := ip_oa j 2
  have n3 := eq_false (ip_nn (j + 3) (by omega))
  have c3 := ip_nc (j + 3) (by omega)
  have l3 : (j + 3 < n) = True := eq_true (by omega)
  have e3 : Int32.ofNat j + 3 = Int32.ofNat (j + 3) := ip_oa j 3
  obtain ⟨g0, g1, g2, g3⟩ := hz
  unfold k_sv
  simp (config := { maxSteps := 10000000, maxDischargeDepth := 30, decide := true }) only [w97_0, w97_1, w97_4, w97_5, w97_6, w97_7, w97_8, w97_9, w97_12, w97_13, w97_14, w97_15, w97_16, w97_19, w97_20, w97_21, w97_22, w97_23, w97_24, w97_25, w97_26, w97_29, w97_30, w97_31, w97_32, w97_33, w97_34, w97_35, w97_36, w97_39, w97_40, w97_41, w97_42, w97_43, w97_44, w97_45, w97_46, w97_49, w97_50, w97_51, ↓ip_ka0, ↓ip_ka1, ↓ip_ki2, ip_uI_L, ip_uI_sh, ↓reduceIte, and_self, not_false_eq_true, ip_ix_eq, hv, ha, g0, g1, g2, g3, z_l2i, en, gl, n0, c0, l0, n1, c1, l1, n2, c2, l2, n3, c3, l3, e1, e2, e3]

set_option maxHeartbeats 40000000 in
set_option maxRecDepth 100000 in
theorem s_98 (X : ip_X) (M : ip_H) (K : Option Value → ip_H → Prop) (v : Nat) (z : Int × Int × Int × Int) (m : Int) (hv : ip_sh M v = (0, 8, 4)) (hz : cv M v z) : ip_wp X 98 0 [.ref v, .long (Int64.ofInt m), .retAddr 1] [] M K = K none (ip_uL M v 0 (Int64.ofInt (z.1 - m * z.2.2.2))) := by
  obtain ⟨g0, g1, g2, g3⟩ := hz
  simp (config := { maxSteps := 10000000, maxDischargeDepth := 30, decide := true }) only [w98_0, w98_1_r, w98_1_i, w98_2, w98_5, w98_6, w98_7, w98_10, w98_11, w98_12, w98_15, ↓ip_ka0, ↓ip_kl1, hv, g0, g3, ← Int64.ofInt_mul, ← Int64.ofInt_sub]

set_option maxHeartbeats 40000000 in
set_option maxRecDepth 100000 in
theorem s_101 (X : ip_X) (M : ip_H) (K : Option Value → ip_H → Prop) (v : Nat) (z : Int × Int × Int × Int) (hv : ip_sh M v = (0, 8, 4)) (hz : cv M v z) : ip_wp X 101 0 [.ref v] [] M K = K (some (.int (ip_b (k_iz z)))) M := by
  obtain ⟨g0, g1, g2, g3⟩ := hz
  unfold k_iz
  by_cases e0 : Int64.ofInt z.1 = 0
  · skip
    by_cases e1 : Int64.ofInt z.2.1 = 0
    · skip
      by_cases e2 : Int64.ofInt z.2.2.1 = 0
      · simp (config := { maxSteps := 10000000, maxDischargeDepth := 30, decide := true }) only [w101_0, w101_1, w101_4, w101_5, w101_6, w101_9, w101_10, w101_13, w101_14, w101_15, w101_18, w101_19, w101_22, w101_23, w101_24, w101_27, w101_28, w101_31, w101_32, ↓ip_ka0, ↓reduceIte, or_true, ip_b_t, hv, g0, g1, g2, e0, e1, e2, decide_true, Bool.and_true]
      · simp (config := { maxSteps := 10000000, maxDischargeDepth := 30, decide := true }) only [w101_0, w101_1, w101_4, w101_5, w101_6, w101_9, w101_10, w101_13, w101_14, w101_15, w101_18, w101_19, w101_22, w101_23, w101_24, w101_27, w101_28, w101_31, w101_32, ↓ip_ka0, ↓reduceIte, or_false, ip_b_f, ip_cmp_eq, hv, g0, g1, g2, e0, e1, e2, decide_true, decide_false, Bool.and_false]
    · simp (config := { maxSteps := 10000000, maxDischargeDepth := 30, decide := true }) only [w101_0, w101_1, w101_4, w101_5, w101_6, w101_9, w101_10, w101_13, w101_14, w101_15, w101_18, w101_19, w101_22, w101_23, w101_24, w101_27, w101_28, w101_31, w101_32, ↓ip_ka0, ↓reduceIte, or_false, ip_b_f, ip_cmp_eq, hv, g0, g1, e0, e1, decide_true, decide_false, Bool.and_false, Bool.false_and]
  · simp (config := { maxSteps := 10000000, maxDischargeDepth := 30, decide := true }) only [w101_0, w101_1, w101_4, w101_5, w101_6, w101_9, w101_10, w101_13, w101_14, w101_15, w101_18, w101_19, w101_22, w101_23, w101_24, w101_27, w101_28, w101_31, w101_32, ↓ip_ka0, ↓reduceIte, or_false, ip_b_f, ip_cmp_eq, hv, g0, e0, decide_false, Bool.false_and]


set_option maxHeartbeats 40000000 in
set_option maxRecDepth 100000 in
theorem s_14_6 (X : ip_X) (M : ip_H) (K : Option Value → ip_H → Prop) (k j : Nat) (part what : Int32) (hk : k ≤ 60) (he : 10 * Int32.ofNat k + 5 * part + what = Int32.ofNat j) (hj : j < 610) (hG : ip_G M) : ip_wp X 14 0 [.ref 6, .int (Int32.ofNat k), .int part, .int what, .retAddr 1] [] M K = K (some (.int (M.2.1 7 j))) M := by
  have nk := eq_false (ip_nn k (by omega))
  have n0 := eq_false (ip_nn j (by omega))
  have c0 := ip_nc j (by omega)
  have l0 : (j < 610) = True := eq_true hj
  have g : (Int32.ofNat j < 610) = True := by rw [show (610 : Int32) = Int32.ofNat 610 from rfl, ip_nlt _ _ (by omega) (by decide)]; exact eq_true hj
  simp (config := { maxSteps := 10000000, maxDischargeDepth := 30, decide := true }) only [w14_0, w14_2, w14_3, w14_4, w14_5, w14_6, w14_7, w14_8, w14_9, w14_10, w14_12, w14_13, w14_16, w14_18, w14_21, w14_23, w14_24, w14_27, w14_28, w14_31, w14_32, w14_35, w14_37, w14_38, w14_41, w14_43, ↓ip_ka0, ↓ip_ki1, ↓ip_ki2, ↓ip_ki3, ↓ip_ki4, ip_get_0, ip_get_s, ip_set1, ip_clr_s, ip_cat_i, List.set_cons_zero, List.set_cons_succ, ip_vr_some, ↓reduceIte, Nat.reduceEqDiff, and_self, not_false_eq_true, ip_ix_eq, Int32.reduceOfNat, gS_6 hG, gS_7 hG, gR_6_0 hG, he, nk, n0, c0, l0, g]

set_option maxHeartbeats 40000000 in
set_option maxRecDepth 100000 in
theorem s_15_6_0 (X : ip_X) (M : ip_H) (K : Option Value → ip_H → Prop) (k : Nat) (hk : k ≤ 60) (hG : ip_G M) : ip_wp X 15 0 [.ref 6, .int (Int32.ofNat k), .int 0] [] M K = K (some (.int (M.2.1 7 (10 * k + 4)))) M := by
  have t := fun K => s_14_6 X M K k (10 * k + 4) 0 4 hk (he_k k 0 4) (by omega) hG
  simp (config := { maxSteps := 10000000, maxDischargeDepth := 30, decide := true }) only [w15_0, w15_1, w15_2, w15_3, w15_4, w15_7, ↓ip_ka0, ↓ip_ki1, ↓ip_ki2, Option.toList_some, List.nil_append, List.cons_append, List.length_nil, Nat.zero_le, gS_6 hG, t]

set_option maxHeartbeats 40000000 in
set_option maxRecDepth 100000 in
theorem s_16_6_0 (X : ip_X) (M : ip_H) (K : Option Value → ip_H → Prop) (k v : Nat) (hk : k ≤ 60) (hv : ip_sh M v = (0, 8, 4)) (hG : ip_G M) : ip_wp X 16 0 [.ref 6, .int (Int32.ofNat k), .int 0, .ref v] [] M K = K none (k_v M v (qi (M.2.1 7) (10 * k + 0))) := by
  have e : 10 * Int32.ofNat k + 0 = Int32.ofNat (10 * k + 0) := by
    have h := he_2 k 0
    rwa [show (5 : Int32) * Int32.ofNat 0 = 0 from by decide] at h
  have t := fun K => s_96 X M K v 7 610 (10 * k + 0) hv (gS_7 hG) (by decide) (by omega)
  simp (config := { maxSteps := 10000000, maxDischargeDepth := 30, decide := true }) only [w16_0, w16_1, w16_2, w16_5, w16_7, w16_8, w16_9, w16_10, w16_11, w16_12, w16_13, w16_16, ↓ip_ka0, ↓ip_ki1, ↓ip_ki2, ↓ip_ka3, ip_vr_some, Option.toList_none, List.nil_append, List.length_nil, Nat.zero_le, Int32.reduceMul, gS_6 hG, gR_6_0 hG, hv, t, e, Int32.reduceMul]

set_option maxHeartbeats 40000000 in
set_option maxRecDepth 100000 in
theorem s_24_6_0 (X : ip_X) (M : ip_H) (K : Option Value → ip_H → Prop) (k : Nat) (hk : k ≤ 60) (hs : M.2.1 6 4 = Int32.ofNat k) (hG : ip_G M) : ip_wp X 24 0 [.ref 6, .int 0] [] M K = K (some (.int (ip_b (k_wh (M.2.1 7) (10 * k + 0))))) M := by
  have t1 := fun K => s_14_6 X M K k (10 * k + 0 + 1) 0 1 hk (he_k k 0 1) (by omega) hG
  have t2 := fun K => s_14_6 X M K k (10 * k + 0 + 2) 0 2 hk (he_k k 0 2) (by omega) hG
  have t3 := fun K => s_14_6 X M K k (10 * k + 0 + 3) 0 3 hk (he_k k 0 3) (by omega) hG
  unfold k_wh
  by_cases e0 : M.2.1 7 (10 * k + 0 + 1) = 0
  · skip
    by_cases e1 : M.2.1 7 (10 * k + 0 + 2) = 0
    · skip
      by_cases e2 : M.2.1 7 (10 * k + 0 + 3) = 1
      · simp (config := { maxSteps := 10000000, maxDischargeDepth := 30, decide := true }) only [w24_0, w24_1, w24_2, w24_5, w24_6, w24_7, w24_10, w24_13, w24_14, w24_15, w24_18, w24_19, w24_20, w24_23, w24_26, w24_27, w24_28, w24_31, w24_32, w24_33, w24_36, w24_37, w24_40, w24_41, w24_44, w24_45, ↓ip_ka0, ↓ip_ki1, Option.toList_some, List.nil_append, List.cons_append, List.length_nil, ↓reduceIte, Nat.zero_le, or_true, ip_b_t, gS_6 hG, t1, t2, t3, hs, e0, e1, e2, decide_true, Bool.and_true]
      · simp (config := { maxSteps := 10000000, maxDischargeDepth := 30, decide := true }) only [w24_0, w24_1, w24_2, w24_5, w24_6, w24_7, w24_10, w24_13, w24_14, w24_15, w24_18, w24_19, w24_20, w24_23, w24_26, w24_27, w24_28, w24_31, w24_32, w24_33, w24_36, w24_37, w24_40, w24_41, w24_44, w24_45, ↓ip_ka0, ↓ip_ki1, Option.toList_some, List.nil_append, List.cons_append, List.length_nil, ↓reduceIte, Nat.zero_le, or_false, ip_b_f, gS_6 hG, t1, t2, t3, hs, e0, e1, e2, decide_true, decide_false, Bool.and_false]
    · simp (config := { maxSteps := 10000000, maxDischargeDepth := 30, decide := true }) only [w24_0, w24_1, w24_2, w24_5, w24_6, w24_7, w24_10, w24_13, w24_14, w24_15, w24_18, w24_19, w24_20, w24_23, w24_26, w24_27, w24_28, w24_31, w24_32, w24_33, w24_36, w24_37, w24_40, w24_41, w24_44, w24_45, ↓ip_ka0, ↓ip_ki1, Option.toList_some, List.nil_append, List.cons_append, List.length_nil, ↓reduceIte, Nat.zero_le, or_false, ip_b_f, gS_6 hG, t1, t2, t3, hs, e0, e1, decide_true, decide_false, Bool.and_false, Bool.false_and]
  · simp (config := { maxSteps := 10000000, maxDischargeDepth := 30, decide := true }) only [w24_0, w24_1, w24_2, w24_5, w24_6, w24_7, w24_10, w24_13, w24_14, w24_15, w24_18, w24_19, w24_20, w24_23, w24_26, w24_27, w24_28, w24_31, w24_32, w24_33, w24_36, w24_37, w24_40, w24_41, w24_44, w24_45, ↓ip_ka0, ↓ip_ki1, Option.toList_some, List.nil_append, List.cons_append, List.length_nil, ↓reduceIte, Nat.zero_le, or_false, ip_b_f, gS_6 hG, t1, t3, hs, e0, decide_false, Bool.false_and]

set_option maxHeartbeats 40000000 in
set_option maxRecDepth 100000 in
theorem s_15_6_1 (X : ip_X) (M : ip_H) (K : Option Value → ip_H → Prop) (k : Nat) (hk : k ≤ 60) (hG : ip_G M) : ip_wp X 15 0 [.ref 6, .int (Int32.ofNat k), .int 1] [] M K = K (some (.int (M.2.1 7 (10 * k + 9)))) M := by
  have t := fun K => s_14_6 X M K k (10 * k + 9) 1 4 hk (he_k k 1 4) (by omega) hG
  simp (config := { maxSteps := 10000000, maxDischargeDepth := 30, decide := true }) only [w15_0, w15_1, w15_2, w15_3, w15_4, w15_7, ↓ip_ka0, ↓ip_ki1, ↓ip_ki2, Option.toList_some, List.nil_append, List.cons_append, List.length_nil, Nat.zero_le, gS_6 hG, t]

set_option maxHeartbeats 40000000 in
set_option maxRecDepth 100000 in
theorem s_16_6_1 (X : ip_X) (M : ip_H) (K : Option Value → ip_H → Prop) (k v : Nat) (hk : k ≤ 60) (hv : ip_sh M v = (0, 8, 4)) (hG : ip_G M) : ip_wp X 16 0 [.ref 6, .int (Int32.ofNat k), .int 1, .ref v] [] M K = K none (k_v M v (qi (M.2.1 7) (10 * k + 5))) := by
  have e : 10 * Int32.ofNat k + 5 = Int32.ofNat (10 * k + 5) := by
    have h := he_2 k 1
    rwa [show (5 : Int32) * Int32.ofNat 1 = 5 from by decide] at h
  have t := fun K => s_96 X M K v 7 610 (10 * k + 5) hv (gS_7 hG) (by decide) (by omega)
  simp (config := { maxSteps := 10000000, maxDischargeDepth := 30, decide := true }) only [w16_0, w16_1, w16_2, w16_5, w16_7, w16_8, w16_9, w16_10, w16_11, w16_12, w16_13, w16_16, ↓ip_ka0, ↓ip_ki1, ↓ip_ki2, ↓ip_ka3, ip_vr_some, Option.toList_none, List.nil_append, List.length_nil, Nat.zero_le, Int32.reduceMul, gS_6 hG, gR_6_0 hG, hv, t, e, Int32.reduceMul]

set_option maxHeartbeats 40000000 in
set_option maxRecDepth 100000 in
theorem s_24_6_1 (X : ip_X) (M : ip_H) (K : Option Value → ip_H → Prop) (k : Nat) (hk : k ≤ 60) (hs : M.2.1 6 4 = Int32.ofNat k) (hG : ip_G M) : ip_wp X 24 0 [.ref 6, .int 1] [] M K = K (some (.int (ip_b (k_wh (M.2.1 7) (10 * k + 5))))) M := by
  have t1 := fun K => s_14_6 X M K k (10 * k + 5 + 1) 1 1 hk (he_k k 1 1) (by omega) hG
  have t2 := fun K => s_14_6 X M K k (10 * k + 5 + 2) 1 2 hk (he_k k 1 2) (by omega) hG
  have t3 := fun K => s_14_6 X M K k (10 * k + 5 + 3) 1 3 hk (he_k k 1 3) (by omega) hG
  unfold k_wh
  by_cases e0 : M.2.1 7 (10 * k + 5 + 1) = 0
  · skip
    by_cases e1 : M.2.1 7 (10 * k + 5 + 2) = 0
    · skip
      by_cases e2 : M.2.1 7 (10 * k + 5 + 3) = 1
      · simp (config := { maxSteps := 10000000, maxDischargeDepth := 30, decide := true }) only [w24_0, w24_1, w24_2, w24_5, w24_6, w24_7, w24_10, w24_13, w24_14, w24_15, w24_18, w24_19, w24_20, w24_23, w24_26, w24_27, w24_28, w24_31, w24_32, w24_33, w24_36, w24_37, w24_40, w24_41, w24_44, w24_45, ↓ip_ka0, ↓ip_ki1, Option.toList_some, List.nil_append, List.cons_append, List.length_nil, ↓reduceIte, Nat.zero_le, or_true, ip_b_t, gS_6 hG, t1, t2, t3, hs, e0, e1, e2, decide_true, Bool.and_true]
      · simp (config := { maxSteps := 10000000, maxDischargeDepth := 30, decide := true }) only [w24_0, w24_1, w24_2, w24_5, w24_6, w24_7, w24_10, w24_13, w24_14, w24_15, w24_18, w24_19, w24_20, w24_23, w24_26, w24_27, w24_28, w24_31, w24_32, w24_33, w24_36, w24_37, w24_40, w24_41, w24_44, w24_45, ↓ip_ka0, ↓ip_ki1, Option.toList_some, List.nil_append, List.cons_append, List.length_nil, ↓reduceIte, Nat.zero_le, or_false, ip_b_f, gS_6 hG, t1, t2, t3, hs, e0, e1, e2, decide_true, decide_false, Bool.and_false]
    · simp (config := { maxSteps := 10000000, maxDischargeDepth := 30, decide := true }) only [w24_0, w24_1, w24_2, w24_5, w24_6, w24_7, w24_10, w24_13, w24_14, w24_15, w24_18, w24_19, w24_20, w24_23, w24_26, w24_27, w24_28, w24_31, w24_32, w24_33, w24_36, w24_37, w24_40, w24_41, w24_44, w24_45, ↓ip_ka0, ↓ip_ki1, Option.toList_some, List.nil_append, List.cons_append, List.length_nil, ↓reduceIte, Nat.zero_le, or_false, ip_b_f, gS_6 hG, t1, t2, t3, hs, e0, e1, decide_true, decide_false, Bool.and_false, Bool.false_and]
  · simp (config := { maxSteps := 10000000, maxDischargeDepth := 30, decide := true }) only [w24_0, w24_1, w24_2, w24_5, w24_6, w24_7, w24_10, w24_13, w24_14, w24_15, w24_18, w24_19, w24_20, w24_23, w24_26, w24_27, w24_28, w24_31, w24_32, w24_33, w24_36, w24_37, w24_40, w24_41, w24_44, w24_45, ↓ip_ka0, ↓ip_ki1, Option.toList_some, List.nil_append, List.cons_append, List.length_nil, ↓reduceIte, Nat.zero_le, or_false, ip_b_f, gS_6 hG, t1, t3, hs, e0, decide_false, Bool.false_and]

/-- the COURSE ENDS -/
def k_en6 (M : ip_H) (k : Nat) : Bool := k_wh (M.2.1 7) (10 * k + 0) && (decide (M.2.1 6 3 = 0) || k_wh (M.2.1 7) (10 * k + 5))
set_option maxHeartbeats 40000000 in
set_option maxRecDepth 100000 in
theorem s_23_6 (X : ip_X) (M : ip_H) (K : Option Value → ip_H → Prop) (k : Nat) (hk : k ≤ 60) (hs : M.2.1 6 4 = Int32.ofNat k) (hG : ip_G M) : ip_wp X 23 0 [.ref 6] [] M K = K (some (.int (ip_b (k_en6 M k)))) M := by
  have t0 := fun K => s_24_6_0 X M K k hk hs hG
  have t1 := fun K => s_24_6_1 X M K k hk hs hG
  unfold k_en6
  cases h0 : k_wh (M.2.1 7) (10 * k + 0)
  · rw [h0] at t0
    simp (config := { maxSteps := 10000000, maxDischargeDepth := 30, decide := true }) only [w23_0, w23_1, w23_2, w23_5, w23_8, w23_9, w23_12, w23_15, w23_16, w23_17, w23_20, w23_23, w23_24, w23_27, w23_28, ↓ip_ka0, Option.toList_some, List.nil_append, List.cons_append, List.length_nil, ↓reduceIte, Nat.zero_le, or_false, ip_b_f, gS_6 hG, t0, Bool.false_and]
  · rw [h0] at t0
    by_cases hw : M.2.1 6 3 = 0
    · simp (config := { maxSteps := 10000000, maxDischargeDepth := 30, decide := true }) only [w23_0, w23_1, w23_2, w23_5, w23_8, w23_9, w23_12, w23_15, w23_16, w23_17, w23_20, w23_23, w23_24, w23_27, w23_28, ↓ip_ka0, Option.toList_some, List.nil_append, List.cons_append, List.length_nil, ↓reduceIte, Nat.zero_le, or_true, ip_b_t, gS_6 hG, t0, hw, decide_true, Bool.and_true, Bool.true_or]
    · cases h1 : k_wh (M.2.1 7) (10 * k + 5)
      · rw [h1] at t1
        simp (config := { maxSteps := 10000000, maxDischargeDepth := 30, decide := true }) only [w23_0, w23_1, w23_2, w23_5, w23_8, w23_9, w23_12, w23_15, w23_16, w23_17, w23_20, w23_23, w23_24, w23_27, w23_28, ↓ip_ka0, Option.toList_some, List.nil_append, List.cons_append, List.length_nil, ↓reduceIte, Nat.zero_le, or_false, ip_b_t, ip_b_f, gS_6 hG, t0, t1, hw, decide_false, Bool.and_false, Bool.or_false]
      · rw [h1] at t1
        simp (config := { maxSteps := 10000000, maxDischargeDepth := 30, decide := true }) only [w23_0, w23_1, w23_2, w23_5, w23_8, w23_9, w23_12, w23_15, w23_16, w23_17, w23_20, w23_23, w23_24, w23_27, w23_28, ↓ip_ka0, Option.toList_some, List.nil_append, List.cons_append, List.length_nil, ↓reduceIte, Nat.zero_le, or_true, ip_b_t, gS_6 hG, t0, t1, hw, decide_false, Bool.and_true, Bool.or_true]

set_option maxHeartbeats 40000000 in
set_option maxRecDepth 100000 in
theorem s_11_6 (X : ip_X) (M : ip_H) (K : Option Value → ip_H → Prop) (hG : ip_G M) : ip_wp X 11 0 [.ref 6] [] M K = K (some (.int (ip_b (!decide (M.2.1 6 3 = -1))))) M := by
  by_cases h : M.2.1 6 3 = -1
  · simp (config := { maxSteps := 10000000, maxDischargeDepth := 30, decide := true }) only [w11_0, w11_1, w11_4, w11_5, w11_8, w11_9, w11_12, w11_13, ↓ip_ka0, ↓reduceIte, or_false, ip_b_f, gS_6 hG, h, decide_true, Bool.not_true]
  · simp (config := { maxSteps := 10000000, maxDischargeDepth := 30, decide := true }) only [w11_0, w11_1, w11_4, w11_5, w11_8, w11_9, w11_12, w11_13, ↓ip_ka0, ↓reduceIte, or_true, ip_b_t, gS_6 hG, h, decide_false, Bool.not_false]

set_option maxHeartbeats 40000000 in
set_option maxRecDepth 100000 in
theorem s_12_6 (X : ip_X) (M : ip_H) (K : Option Value → ip_H → Prop) (hG : ip_G M) : ip_wp X 12 0 [.ref 6] [] M K = K (some (.int (ip_b (!decide (M.2.1 6 3 = -1) && !decide (M.2.1 6 5 = -1))))) M := by
  have t := fun K => s_11_6 X M K hG
  by_cases h : M.2.1 6 3 = -1
  · simp (config := { maxSteps := 10000000, maxDischargeDepth := 30, decide := true }) only [w12_0, w12_1, w12_4, w12_7, w12_8, w12_11, w12_12, w12_15, w12_16, w12_19, w12_20, ↓ip_ka0, Option.toList_some, List.nil_append, List.cons_append, List.length_nil, ↓reduceIte, Nat.zero_le, or_false, ip_b_f, gS_6 hG, t, h, decide_true, Bool.not_true, Bool.false_and]
  · by_cases h5 : M.2.1 6 5 = -1
    · simp (config := { maxSteps := 10000000, maxDischargeDepth := 30, decide := true }) only [w12_0, w12_1, w12_4, w12_7, w12_8, w12_11, w12_12, w12_15, w12_16, w12_19, w12_20, ↓ip_ka0, Option.toList_some, List.nil_append, List.cons_append, List.length_nil, ↓reduceIte, Nat.zero_le, or_false, ip_b_t, ip_b_f, gS_6 hG, t, h, h5, decide_true, decide_false, Bool.not_true, Bool.not_false, Bool.and_false]
    · simp (config := { maxSteps := 10000000, maxDischargeDepth := 30, decide := true }) only [w12_0, w12_1, w12_4, w12_7, w12_8, w12_11, w12_12, w12_15, w12_16, w12_19, w12_20, ↓ip_ka0, Option.toList_some, List.nil_append, List.cons_append, List.length_nil, ↓reduceIte, Nat.zero_le, or_true, ip_b_t, gS_6 hG, t, h, h5, decide_false, Bool.not_false, Bool.and_true]

set_option maxHeartbeats 40000000 in
set_option maxRecDepth 100000 in
theorem s_28_6 (X : ip_X) (M : ip_H) (K : Option Value → ip_H → Prop) (k : Nat) (hk : k ≤ 60) (hs : M.2.1 6 4 = Int32.ofNat k) (y z : Int × Int × Int × Int) (hy : cv M 15 y) (hz : cv M 16 z) (hG : ip_G M) : ip_wp X 28 0 [.ref 6, .retAddr 1] [] M K = K none (ip_uI (k_sv (ip_uI (k_sv M 7 (10 * k) y) 7 (10 * k + 4) (M.2.1 6 12)) 7 (10 * k + 5) z) 7 (10 * k + 9) (M.2.1 6 13)) := by
  have e10 : 10 * Int32.ofNat k = Int32.ofNat (10 * k) := by rw [show (10 : Int32) = Int32.ofNat 10 from rfl, ip_om]
  have nk := eq_false (ip_nn (10 * k) (by omega))
  have g : ((600 : Int32) < Int32.ofNat (10 * k)) = False := by rw [show (600 : Int32) = Int32.ofNat 600 from rfl, ip_nlt _ _ (by decide) (by omega)]; exact eq_false (by omega)
  have n4 := eq_false (ip_nn (10 * k + 4) (by omega))
  have c4 := ip_nc (10 * k + 4) (by omega)
  have l4 : (10 * k + 4 < 610) = True := eq_true (by omega)
  have e4 : Int32.ofNat (10 * k) + 4 = Int32.ofNat (10 * k + 4) := ip_oa (10 * k) 4
  have n5 := eq_false (ip_nn (10 * k + 5) (by omega))
  have c5 := ip_nc (10 * k + 5) (by omega)
  have l5 : (10 * k + 5 < 610) = True := eq_true (by omega)
  have e5 : Int32.ofNat (10 * k) + 5 = Int32.ofNat (10 * k + 5) := ip_oa (10 * k) 5
  have n9 := eq_false (ip_nn (10 * k + 9) (by omega))
  have c9 := ip_nc (10 * k + 9) (by omega)
  have l9 : (10 * k + 9 < 610) = True := eq_true (by omega)
  have e9 : Int32.ofNat (10 * k) + 9 = Int32.ofNat (10 * k + 9) := ip_oa (10 * k) 9
  have t1 := fun K => s_97 X M K 15 7 610 (10 * k) (gS_15 hG) (gS_7 hG) (by decide) (by omega) y hy
  have hz2 : cv (ip_uI (k_sv M 7 (10 * k) y) 7 (10 * k + 4) (M.2.1 6 12)) 16 z := hz
  have t2 := fun K => s_97 X (ip_uI (k_sv M 7 (10 * k) y) 7 (10 * k + 4) (M.2.1 6 12)) K 16 7 610 (10 * k + 5) (gS_16 hG) (gS_7 hG) (by decide) (by omega) z hz2
  simp (config := { maxSteps := 10000000, maxDischargeDepth := 30, decide := true }) only [w28_0, w28_2, w28_3, w28_6, w28_7, w28_8, w28_9, w28_12, w28_13, w28_14, w28_17, w28_18, w28_20, w28_21, w28_24, w28_25, w28_26, w28_29, w28_30, w28_33, w28_34, w28_37, w28_38, w28_41, w28_42, w28_43, w28_44, w28_45, w28_48, w28_49, w28_50, w28_53, w28_54, w28_57, w28_58, w28_59, w28_60, w28_63, w28_64, w28_67, w28_68, w28_70, w28_71, w28_72, w28_75, w28_76, ↓ip_ka0, ↓ip_ki1, ip_set1, ip_clr_s, List.set_cons_zero, List.set_cons_succ, ip_uI_I, ip_uI_R, ip_uI_sh, ip_vr_some, Option.toList_none, List.nil_append, List.length_nil, ↓reduceIte, Nat.reduceEqDiff, Nat.zero_le, false_and, and_self, not_false_eq_true, Int32.reduceSub, ip_ix_eq, Int32.reduceOfNat, gS_6 hG, gS_7 hG, gR_6_0 hG, gS_15 hG, gS_16 hG, gR_6_10 hG, gR_6_11 hG, hs, e10, nk, g, t1, t2, n4, c4, l4, e4, e5, n9, c9, l9, e9, k_sv_sh, k_sv_R, gG_sv, k_sv_I]

/-- STATE k is like the last one (m), from the j-th number on -/
def k_li (f : Nat → Int32) (k m : Nat) : Nat → Nat → Bool
  | 0, _ => true
  | n + 1, w => decide (f (10 * k + w) = f (10 * m + w)) && k_li f k m n (w + 1)
set_option maxHeartbeats 40000000 in
set_option maxRecDepth 100000 in
theorem s_30l_6 (X : ip_X) (M : ip_H) (K : Option Value → ip_H → Prop) (k m : Nat) (hk : k ≤ 60) (hm : m ≤ 60) (hs : M.2.1 6 4 = Int32.ofNat m) (hG : ip_G M) : ∀ (n w : Nat), w + n = 10 → ip_wp X 30 2 [.ref 6, .int (Int32.ofNat k), .int (Int32.ofNat w)] [] M K = K (some (.int (ip_b (k_li (M.2.1 7) k m n w)))) M := by
  intro n
  induction n with
  | zero =>
    intro w hw
    have hw2 : w = 10 := by omega
    subst hw2
    have g : ((Int32.ofNat 10) < 10) = False := by decide
    have e : k_li (M.2.1 7) k m 0 10 = true := rfl
    rw [e]
    simp (config := { maxSteps := 10000000, maxDischargeDepth := 30, decide := true }) only [w30_2, w30_3, w30_5, w30_36, w30_37, ↓ip_ki2, ↓reduceIte, or_true, ip_b_t, Int32.reduceOfNat]
  | succ n ih =>
    intro w hw
    have g : (Int32.ofNat w < 10) = True := by rw [show (10 : Int32) = Int32.ofNat 10 from rfl, ip_nlt _ _ (by omega) (by decide)]; exact eq_true (by omega)
    have t1 := fun K => s_14_6 X M K k (10 * k + w) 0 (Int32.ofNat w) hk (he_k k 0 w) (by omega) hG
    have t2 := fun K => s_14_6 X M K m (10 * m + w) 0 (Int32.ofNat w) hm (he_k m 0 w) (by omega) hG
    have ew : Int32.ofNat w + 1 = Int32.ofNat (w + 1) := ip_oa w 1
    have e : k_li (M.2.1 7) k m (n + 1) w = (decide (M.2.1 7 (10 * k + w) = M.2.1 7 (10 * m + w)) && k_li (M.2.1 7) k m n (w + 1)) := rfl
    rw [e]
    by_cases h : M.2.1 7 (10 * k + w) = M.2.1 7 (10 * m + w)
    · rw [decide_eq_true h, Bool.true_and, ← ih (w + 1) (by omega)]
      generalize hR : ip_wp X 30 2 [.ref 6, .int (Int32.ofNat k), .int (Int32.ofNat (w + 1))] [] M K = Q
      simp (config := { maxSteps := 10000000, maxDischargeDepth := 30, decide := true }) only [w30_2, w30_3, w30_5, w30_8, w30_9, w30_10, w30_11, w30_12, w30_15, w30_16, w30_17, w30_20, w30_21, w30_22, w30_25, w30_28, w30_29, w30_30, ↓ip_ka0, ↓ip_ki1, ↓ip_ki2, ip_get_0, ip_get_s, ip_set1, ip_clr_s, ip_cat_i, List.set_cons_zero, List.set_cons_succ, Option.toList_some, List.nil_append, List.cons_append, List.length_nil, List.length_cons, ↓reduceIte, Nat.reduceLeDiff, Nat.reduceEqDiff, Nat.zero_add, Nat.zero_le, gS_6 hG, hs, g, t1, t2, ew, h]
      rw [w30_33, hR]
    · rw [decide_eq_false h, Bool.false_and]
      simp (config := { maxSteps := 10000000, maxDischargeDepth := 30, decide := true }) only [w30_2, w30_3, w30_5, w30_8, w30_9, w30_10, w30_11, w30_12, w30_15, w30_16, w30_17, w30_20, w30_21, w30_22, w30_25, w30_28, w30_29, ↓ip_ka0, ↓ip_ki1, ↓ip_ki2, Option.toList_some, List.nil_append, List.cons_append, List.length_nil, List.length_cons, ↓reduceIte, Nat.reduceLeDiff, Nat.zero_add, Nat.zero_le, or_false, ip_b_f, gS_6 hG, hs, g, t1, t2, h]

set_option maxHeartbeats 40000000 in
set_option maxRecDepth 100000 in
theorem s_30_6 (X : ip_X) (M : ip_H) (K : Option Value → ip_H → Prop) (k m : Nat) (hk : k ≤ 60) (hm : m ≤ 60) (hs : M.2.1 6 4 = Int32.ofNat m) (hG : ip_G M) : ip_wp X 30 0 [.ref 6, .int (Int32.ofNat k), .retAddr 1] [] M K = K (some (.int (ip_b (k_li (M.2.1 7) k m 10 0)))) M := by
  rw [← s_30l_6 X M K k m hk hm hs hG 10 0 rfl]
  simp (config := { maxSteps := 10000000, maxDischargeDepth := 30, decide := true }) only [w30_0, w30_1, ip_get_0, ip_get_s, ip_set1, ip_clr_s, ip_cat_i, List.set_cons_zero, List.set_cons_succ, ↓reduceIte, Nat.reduceEqDiff, Int32.reduceOfNat]

set_option maxHeartbeats 40000000 in
set_option maxRecDepth 100000 in
theorem s_19 (X : ip_X) (M : ip_H) (K : Option Value → ip_H → Prop) (v : Nat) (z : Int × Int × Int × Int) (hG : ip_G M) (hv : ip_sh M v = (0, 8, 4)) (hz : cv M v z) : ip_wp X 19 0 [.ref 1, .ref v] [] M K = K (some (.int (ip_b (decide (0 < z_sg (zN (M.2.1 1 0).toInt (M.2.1 1 1).toInt (M.2.1 1 2).toInt z.1 z.2.1 z.2.2.1)) && !decide (99 < c_f4 (M.2.1 1 0).toInt (M.2.1 1 1).toInt (M.2.1 1 2).toInt z))))) M := by
  have t1 := fun K => s_46 X M K v z hG hv hz
  have t2 := fun K => s_49 X M K v z hG hv hz
  by_cases h1 : 0 < z_sg (zN (M.2.1 1 0).toInt (M.2.1 1 1).toInt (M.2.1 1 2).toInt z.1 z.2.1 z.2.2.1)
  · by_cases h2 : 99 < c_f4 (M.2.1 1 0).toInt (M.2.1 1 1).toInt (M.2.1 1 2).toInt z
    · simp (config := { maxSteps := 10000000, maxDischargeDepth := 30, decide := true }) only [w19_0, w19_1, w19_2, w19_5, w19_8, w19_9, w19_10, w19_13, w19_15, w19_18, w19_19, w19_22, w19_23, ↓ip_ka0, ↓ip_ka1, Option.toList_some, List.nil_append, List.cons_append, List.length_nil, ↓reduceIte, Nat.zero_le, or_false, ip_b_f, t1, t2, h1, h2, gS_1 hG, decide_true, Bool.not_true, Bool.and_false]
    · simp (config := { maxSteps := 10000000, maxDischargeDepth := 30, decide := true }) only [w19_0, w19_1, w19_2, w19_5, w19_8, w19_9, w19_10, w19_13, w19_15, w19_18, w19_19, w19_22, w19_23, ↓ip_ka0, ↓ip_ka1, Option.toList_some, List.nil_append, List.cons_append, List.length_nil, ↓reduceIte, Nat.zero_le, or_true, ip_b_t, t1, t2, h1, h2, gS_1 hG, decide_true, decide_false, Bool.not_false, Bool.and_true]
  · simp (config := { maxSteps := 10000000, maxDischargeDepth := 30, decide := true }) only [w19_0, w19_1, w19_2, w19_5, w19_8, w19_9, w19_10, w19_13, w19_15, w19_18, w19_19, w19_22, w19_23, ↓ip_ka0, ↓ip_ka1, Option.toList_some, List.nil_append, List.cons_append, List.length_nil, ↓reduceIte, Nat.zero_le, or_false, ip_b_f, t1, h1, gS_1 hG, decide_false, Bool.false_and]

set_option maxHeartbeats 40000000 in
set_option maxRecDepth 100000 in
theorem s_18 (X : ip_X) (M : ip_H) (K : Option Value → ip_H → Prop) (v w : Nat) (z y : Int × Int × Int × Int) (hG : ip_G M) (hv : ip_sh M v = (0, 8, 4)) (hz : cv M v z) (hw : ip_sh M w = (0, 8, 4)) (hy : cv M w y) : ip_wp X 18 0 [.ref 1, .ref v, .ref w] [] M K = K (some (.int (ip_b ((decide (0 < z_sg (zN (M.2.1 1 0).toInt (M.2.1 1 1).toInt (M.2.1 1 2).toInt z.1 z.2.1 z.2.2.1)) && !decide (99 < c_f4 (M.2.1 1 0).toInt (M.2.1 1 1).toInt (M.2.1 1 2).toInt z)) && (decide (0 < z_sg (zN (M.2.1 1 0).toInt (M.2.1 1 1).toInt (M.2.1 1 2).toInt y.1 y.2.1 y.2.2.1)) && !decide (99 < c_f4 (M.2.1 1 0).toInt (M.2.1 1 1).toInt (M.2.1 1 2).toInt y)))))) M := by
  have t1 := fun K => s_19 X M K v z hG hv hz
  have t2 := fun K => s_19 X M K w y hG hw hy
  cases h1 : (decide (0 < z_sg (zN (M.2.1 1 0).toInt (M.2.1 1 1).toInt (M.2.1 1 2).toInt z.1 z.2.1 z.2.2.1)) && !decide (99 < c_f4 (M.2.1 1 0).toInt (M.2.1 1 1).toInt (M.2.1 1 2).toInt z))
  · rw [h1] at t1
    simp (config := { maxSteps := 10000000, maxDischargeDepth := 30, decide := true }) only [w18_0, w18_1, w18_2, w18_5, w18_8, w18_9, w18_10, w18_13, w18_16, w18_17, w18_20, w18_21, ↓ip_ka0, ↓ip_ka1, Option.toList_some, List.nil_append, List.cons_append, List.length_nil, ↓reduceIte, Nat.zero_le, or_false, ip_b_f, t1, Bool.false_and]
  · rw [h1] at t1
    cases h2 : (decide (0 < z_sg (zN (M.2.1 1 0).toInt (M.2.1 1 1).toInt (M.2.1 1 2).toInt y.1 y.2.1 y.2.2.1)) && !decide (99 < c_f4 (M.2.1 1 0).toInt (M.2.1 1 1).toInt (M.2.1 1 2).toInt y))
    · rw [h2] at t2
      simp (config := { maxSteps := 10000000, maxDischargeDepth := 30, decide := true }) only [w18_0, w18_1, w18_2, w18_5, w18_8, w18_9, w18_10, w18_13, w18_16, w18_17, w18_20, w18_21, ↓ip_ka0, ↓ip_ka1, ↓ip_ka2, Option.toList_some, List.nil_append, List.cons_append, List.length_nil, ↓reduceIte, Nat.zero_le, or_false, ip_b_t, ip_b_f, t1, t2, Bool.and_false]
    · rw [h2] at t2
      simp (config := { maxSteps := 10000000, maxDischargeDepth := 30, decide := true }) only [w18_0, w18_1, w18_2, w18_5, w18_8, w18_9, w18_10, w18_13, w18_16, w18_17, w18_20, w18_21, ↓ip_ka0, ↓ip_ka1, ↓ip_ka2, Option.toList_some, List.nil_append, List.cons_append, List.length_nil, ↓reduceIte, Nat.zero_le, or_true, ip_b_t, t1, t2, Bool.and_true]
end
noncomputable section
-- PART c13yf08.cowalk2
-- equations of the instructions, by program counter
theorem ip_a20 (pc : Nat) : ip_at 20 pc = ip_c20.lookup pc := rfl
theorem ip_s20 : lk_s 0 ip_c20 = true := by decide +kernel
theorem w20_0 (X : ip_X) (ls st : List Value) (M : ip_H) (K : Option Value → ip_H → Prop) : ip_wp X 20 0 ls st M K = ip_ka (ip_get ls 0) (fun x => ip_wp X 20 1 ls (x :: st) M K) := wp_aload_n ((ip_a20 0).trans (lk_of ip_s20 (k := 0) rfl))
theorem w20_1 (X : ip_X) (ls st : List Value) (M : ip_H) (K : Option Value → ip_H → Prop) (k : Nat) (h0 : st.length ≤ 4) (h1 : (ip_sh M k).1 = 0) (h2 : (ip_sh M k).2.1 = 1) : ip_wp X 20 1 ls (.ref k :: st) M K = ip_wp X 21 0 [.ref k] [] M (fun r M1 => ip_wp X 20 4 ls (r.toList ++ st) M1 K) := (wp_callV1_1 ((ip_a20 1).trans (lk_of ip_s20 (k := 1) rfl)) ⟨h0, by exact Nat.le_of_ble_eq_true rfl, h1, h2⟩)
theorem w20_4 (X : ip_X) (ls st : List Value) (M : ip_H) (K : Option Value → ip_H → Prop) : ip_wp X 20 4 ls st M K = ip_ka (ip_get ls 0) (fun x => ip_wp X 20 5 ls (x :: st) M K) := wp_aload_n ((ip_a20 4).trans (lk_of ip_s20 (k := 2) rfl))
theorem w20_5 (X : ip_X) (ls st : List Value) (M : ip_H) (K : Option Value → ip_H → Prop) : ip_wp X 20 5 ls st M K = ip_ki (ip_get ls 4) (fun x => ip_wp X 20 7 ls (.int x :: st) M K) := wp_iload ((ip_a20 5).trans (lk_of ip_s20 (k := 3) rfl))
theorem w20_7 (X : ip_X) (ls st : List Value) (M : ip_H) (K : Option Value → ip_H → Prop) (k : Nat) (x : Int32) (h0 : (ip_sh M k).1 = 0) (h1 : (ip_sh M k).2.1 = 1) : ip_wp X 20 7 ls (.int x :: .ref k :: st) M K = ip_wp X 20 10 ls st (ip_uI M k 3 x) K := (wp_putI ((ip_a20 7).trans (lk_of ip_s20 (k := 4) rfl))).trans (if_pos ⟨h0, h1⟩)
theorem w20_10 (X : ip_X) (ls st : List Value) (M : ip_H) (K : Option Value → ip_H → Prop) : ip_wp X 20 10 ls st M K = ip_ka (ip_get ls 0) (fun x => ip_wp X 20 11 ls (x :: st) M K) := wp_aload_n ((ip_a20 10).trans (lk_of ip_s20 (k := 5) rfl))
theorem w20_11 (X : ip_X) (ls st : List Value) (M : ip_H) (K : Option Value → ip_H → Prop) (k : Nat) (h0 : (ip_sh M k).1 = 0) (h1 : (ip_sh M k).2.1 = 1) : ip_wp X 20 11 ls (.ref k :: st) M K = ip_wp X 20 14 ls (ip_vr (M.2.2.2 k 10) :: st) M K := (wp_getR ((ip_a20 11).trans (lk_of ip_s20 (k := 6) rfl))).trans (if_pos ⟨h0, h1⟩)
theorem w20_14 (X : ip_X) (ls st : List Value) (M : ip_H) (K : Option Value → ip_H → Prop) : ip_wp X 20 14 ls st M K = ip_ka (ip_get ls 2) (fun x => ip_wp X 20 15 ls (x :: st) M K) := wp_aload_n ((ip_a20 14).trans (lk_of ip_s20 (k := 7) rfl))
theorem w20_15 (X : ip_X) (ls st : List Value) (M : ip_H) (K : Option Value → ip_H → Prop) (k : Nat) (x0 : Nat) (h0 : st.length ≤ 4) (h1 : (ip_sh M k).1 = 0) (h2 : (ip_sh M k).2.1 = 8) : ip_wp X 20 15 ls (.ref x0 :: .ref k :: st) M K = ip_wp X 95 0 [.ref k, .ref x0] [] M (fun r M1 => ip_wp X 20 18 ls (r.toList ++ st) M1 K) := (wp_callV1_2 ((ip_a20 15).trans (lk_of ip_s20 (k := 8) rfl)) ⟨h0, by exact Nat.le_of_ble_eq_true rfl, h1, h2⟩)
theorem w20_18 (X : ip_X) (ls st : List Value) (M : ip_H) (K : Option Value → ip_H → Prop) : ip_wp X 20 18 ls st M K = ip_ka (ip_get ls 0) (fun x => ip_wp X 20 19 ls (x :: st) M K) := wp_aload_n ((ip_a20 18).trans (lk_of ip_s20 (k := 9) rfl))
theorem w20_19 (X : ip_X) (ls st : List Value) (M : ip_H) (K : Option Value → ip_H → Prop) (k : Nat) (h0 : (ip_sh M k).1 = 0) (h1 : (ip_sh M k).2.1 = 1) : ip_wp X 20 19 ls (.ref k :: st) M K = ip_wp X 20 22 ls (ip_vr (M.2.2.2 k 11) :: st) M K := (wp_getR ((ip_a20 19).trans (lk_of ip_s20 (k := 10) rfl))).trans (if_pos ⟨h0, h1⟩)
theorem w20_22 (X : ip_X) (ls st : List Value) (M : ip_H) (K : Option Value → ip_H → Prop) : ip_wp X 20 22 ls st M K = ip_ka (ip_get ls 3) (fun x => ip_wp X 20 23 ls (x :: st) M K) := wp_aload_n ((ip_a20 22).trans (lk_of ip_s20 (k := 11) rfl))
theorem w20_23 (X : ip_X) (ls st : List Value) (M : ip_H) (K : Option Value → ip_H → Prop) (k : Nat) (x0 : Nat) (h0 : st.length ≤ 4) (h1 : (ip_sh M k).1 = 0) (h2 : (ip_sh M k).2.1 = 8) : ip_wp X 20 23 ls (.ref x0 :: .ref k :: st) M K = ip_wp X 95 0 [.ref k, .ref x0] [] M (fun r M1 => ip_wp X 20 26 ls (r.toList ++ st) M1 K) := (wp_callV1_2 ((ip_a20 23).trans (lk_of ip_s20 (k := 12) rfl)) ⟨h0, by exact Nat.le_of_ble_eq_true rfl, h1, h2⟩)
theorem w20_26 (X : ip_X) (ls st : List Value) (M : ip_H) (K : Option Value → ip_H → Prop) : ip_wp X 20 26 ls st M K = ip_ka (ip_get ls 0) (fun x => ip_wp X 20 27 ls (x :: st) M K) := wp_aload_n ((ip_a20 26).trans (lk_of ip_s20 (k := 13) rfl))
theorem w20_27 (X : ip_X) (ls st : List Value) (M : ip_H) (K : Option Value → ip_H → Prop) : ip_wp X 20 27 ls st M K = ip_ka (ip_get ls 1) (fun x => ip_wp X 20 28 ls (x :: st) M K) := wp_aload_n ((ip_a20 27).trans (lk_of ip_s20 (k := 14) rfl))
theorem w20_28 (X : ip_X) (ls st : List Value) (M : ip_H) (K : Option Value → ip_H → Prop) : ip_wp X 20 28 ls st M K = ip_ka (ip_get ls 2) (fun x => ip_wp X 20 29 ls (x :: st) M K) := wp_aload_n ((ip_a20 28).trans (lk_of ip_s20 (k := 15) rfl))
theorem w20_29 (X : ip_X) (ls st : List Value) (M : ip_H) (K : Option Value → ip_H → Prop) (k : Nat) (x0 : Nat) (h0 : st.length ≤ 4) (h1 : (ip_sh M k).1 = 0) (h2 : (ip_sh M k).2.1 = 2) : ip_wp X 20 29 ls (.ref x0 :: .ref k :: st) M K = ip_wp X 49 0 [.ref k, .ref x0, .retAddr 1, .retAddr 1, .retAddr 1, .retAddr 1] [] M (fun r M1 => ip_wp X 20 32 ls (r.toList ++ st) M1 K) := (wp_callV1_2 ((ip_a20 29).trans (lk_of ip_s20 (k := 16) rfl)) ⟨h0, by exact Nat.le_of_ble_eq_true rfl, h1, h2⟩)
theorem w20_32 (X : ip_X) (ls st : List Value) (M : ip_H) (K : Option Value → ip_H → Prop) (k : Nat) (x : Int32) (h0 : (ip_sh M k).1 = 0) (h1 : (ip_sh M k).2.1 = 1) : ip_wp X 20 32 ls (.int x :: .ref k :: st) M K = ip_wp X 20 35 ls st (ip_uI M k 12 x) K := (wp_putI ((ip_a20 32).trans (lk_of ip_s20 (k := 17) rfl))).trans (if_pos ⟨h0, h1⟩)
theorem w20_35 (X : ip_X) (ls st : List Value) (M : ip_H) (K : Option Value → ip_H → Prop) : ip_wp X 20 35 ls st M K = ip_ka (ip_get ls 0) (fun x => ip_wp X 20 36 ls (x :: st) M K) := wp_aload_n ((ip_a20 35).trans (lk_of ip_s20 (k := 18) rfl))
theorem w20_36 (X : ip_X) (ls st : List Value) (M : ip_H) (K : Option Value → ip_H → Prop) : ip_wp X 20 36 ls st M K = ip_ka (ip_get ls 1) (fun x => ip_wp X 20 37 ls (x :: st) M K) := wp_aload_n ((ip_a20 36).trans (lk_of ip_s20 (k := 19) rfl))
theorem w20_37 (X : ip_X) (ls st : List Value) (M : ip_H) (K : Option Value → ip_H → Prop) : ip_wp X 20 37 ls st M K = ip_ka (ip_get ls 3) (fun x => ip_wp X 20 38 ls (x :: st) M K) := wp_aload_n ((ip_a20 37).trans (lk_of ip_s20 (k := 20) rfl))
theorem w20_38 (X : ip_X) (ls st : List Value) (M : ip_H) (K : Option Value → ip_H → Prop) (k : Nat) (x0 : Nat) (h0 : st.length ≤ 4) (h1 : (ip_sh M k).1 = 0) (h2 : (ip_sh M k).2.1 = 2) : ip_wp X 20 38 ls (.ref x0 :: .ref k :: st) M K = ip_wp X 49 0 [.ref k, .ref x0, .retAddr 1, .retAddr 1, .retAddr 1, .retAddr 1] [] M (fun r M1 => ip_wp X 20 41 ls (r.toList ++ st) M1 K) := (wp_callV1_2 ((ip_a20 38).trans (lk_of ip_s20 (k := 21) rfl)) ⟨h0, by exact Nat.le_of_ble_eq_true rfl, h1, h2⟩)
theorem w20_41 (X : ip_X) (ls st : List Value) (M : ip_H) (K : Option Value → ip_H → Prop) (k : Nat) (x : Int32) (h0 : (ip_sh M k).1 = 0) (h1 : (ip_sh M k).2.1 = 1) : ip_wp X 20 41 ls (.int x :: .ref k :: st) M K = ip_wp X 20 44 ls st (ip_uI M k 13 x) K := (wp_putI ((ip_a20 41).trans (lk_of ip_s20 (k := 22) rfl))).trans (if_pos ⟨h0, h1⟩)
theorem w20_44 (X : ip_X) (ls st : List Value) (M : ip_H) (K : Option Value → ip_H → Prop) : ip_wp X 20 44 ls st M K = ip_ka (ip_get ls 0) (fun x => ip_wp X 20 45 ls (x :: st) M K) := wp_aload_n ((ip_a20 44).trans (lk_of ip_s20 (k := 23) rfl))
theorem w20_45 (X : ip_X) (ls st : List Value) (M : ip_H) (K : Option Value → ip_H → Prop) (k : Nat) (h0 : st.length ≤ 4) (h1 : (ip_sh M k).1 = 0) (h2 : (ip_sh M k).2.1 = 1) : ip_wp X 20 45 ls (.ref k :: st) M K = ip_wp X 28 0 [.ref k, .retAddr 1] [] M (fun r M1 => ip_wp X 20 48 ls (r.toList ++ st) M1 K) := (wp_callV1_1 ((ip_a20 45).trans (lk_of ip_s20 (k := 24) rfl)) ⟨h0, by exact Nat.le_of_ble_eq_true rfl, h1, h2⟩)
theorem w20_48 (X : ip_X) (ls st : List Value) (M : ip_H) (K : Option Value → ip_H → Prop) : ip_wp X 20 48 ls st M K = ip_ka (ip_get ls 0) (fun x => ip_wp X 20 49 ls (x :: st) M K) := wp_aload_n ((ip_a20 48).trans (lk_of ip_s20 (k := 25) rfl))
theorem w20_49 (X : ip_X) (ls st : List Value) (M : ip_H) (K : Option Value → ip_H → Prop) (k : Nat) (h0 : (ip_sh M k).1 = 0) (h1 : (ip_sh M k).2.1 = 1) : ip_wp X 20 49 ls (.ref k :: st) M K = ip_wp X 20 52 ls (ip_vr (M.2.2.2 k 2) :: st) M K := (wp_getR ((ip_a20 49).trans (lk_of ip_s20 (k := 26) rfl))).trans (if_pos ⟨h0, h1⟩)
theorem w20_52 (X : ip_X) (ls st : List Value) (M : ip_H) (K : Option Value → ip_H → Prop) (k : Nat) (h0 : st.length ≤ 4) (h1 : (ip_sh M k).1 = 0) (h2 : (ip_sh M k).2.1 = 4) : ip_wp X 20 52 ls (.ref k :: st) M K = ip_wp X 64 0 [.ref k] [] M (fun r M1 => ip_wp X 20 55 ls (r.toList ++ st) M1 K) := (wp_callV1_1 ((ip_a20 52).trans (lk_of ip_s20 (k := 27) rfl)) ⟨h0, by exact Nat.le_of_ble_eq_true rfl, h1, h2⟩)
theorem w20_55 (X : ip_X) (ls : List Value) (M : ip_H) (K : Option Value → ip_H → Prop) : ip_wp X 20 55 ls [] M K = K none M := wp_vret ((ip_a20 55).trans (lk_of ip_s20 (k := 28) rfl))
theorem ip_a25 (pc : Nat) : ip_at 25 pc = ip_c25.lookup pc := rfl
theorem ip_s25 : lk_s 0 ip_c25 = true := by decide +kernel
theorem ip_l25_0 : ip_d25_0.length = 24 := rfl
theorem ip_l25_1 : ip_d25_1.length = 24 := rfl
theorem ip_l25_2 : ip_d25_2.length = 24 := rfl
theorem ip_l25_3 : ip_d25_3.length = 24 := rfl
theorem ip_f25_0 {k pc : Nat} {e : ip_E} (h : ip_d25_0[k]? = some (pc, e)) : ip_c25.lookup pc = some e := lk_of ip_s25 (lk_apl h)
theorem ip_f25_1 {k pc : Nat} {e : ip_E} (h : ip_d25_1[k]? = some (pc, e)) : ip_c25.lookup pc = some e := lk_of ip_s25 (lk_app ip_l25_0 (lk_apl h))
theorem ip_f25_2 {k pc : Nat} {e : ip_E} (h : ip_d25_2[k]? = some (pc, e)) : ip_c25.lookup pc = some e := lk_of ip_s25 (lk_app ip_l25_0 (lk_app ip_l25_1 (lk_apl h)))
theorem ip_f25_3 {k pc : Nat} {e : ip_E} (h : ip_d25_3[k]? = some (pc, e)) : ip_c25.lookup pc = some e := lk_of ip_s25 (lk_app ip_l25_0 (lk_app ip_l25_1 (lk_app ip_l25_2 (lk_apl h))))
theorem ip_f25_4 {k pc : Nat} {e : ip_E} (h : ip_d25_4[k]? = some (pc, e)) : ip_c25.lookup pc = some e := lk_of ip_s25 (lk_app ip_l25_0 (lk_app ip_l25_1 (lk_app ip_l25_2 (lk_app ip_l25_3 h))))
theorem w25_0 (X : ip_X) (ls st : List Value) (M : ip_H) (K : Option Value → ip_H → Prop) : ip_wp X 25 0 ls st M K = ip_ka (ip_get ls 0) (fun x => ip_wp X 25 1 ls (x :: st) M K) := wp_aload_n ((ip_a25 0).trans (ip_f25_0 (k := 0) rfl))
theorem w25_1 (X : ip_X) (ls st : List Value) (M : ip_H) (K : Option Value → ip_H → Prop) (k : Nat) (h0 : st.length ≤ 4) (h1 : (ip_sh M k).1 = 0) (h2 : (ip_sh M k).2.1 = 1) : ip_wp X 25 1 ls (.ref k :: st) M K = ip_wp X 11 0 [.ref k] [] M (fun r M1 => ip_wp X 25 4 ls (r.toList ++ st) M1 K) := (wp_callV1_1 ((ip_a25 1).trans (ip_f25_0 (k := 1) rfl)) ⟨h0, by exact Nat.le_of_ble_eq_true rfl, h1, h2⟩)
theorem w25_4 (X : ip_X) (ls st : List Value) (M : ip_H) (K : Option Value → ip_H → Prop) (x : Int32) : ip_wp X 25 4 ls (.int x :: st) M K = if x = 0 then ip_wp X 25 14 ls st M K else ip_wp X 25 7 ls st M K := wp_ifCond_eq ((ip_a25 4).trans (ip_f25_0 (k := 2) rfl))
theorem w25_7 (X : ip_X) (ls st : List Value) (M : ip_H) (K : Option Value → ip_H → Prop) : ip_wp X 25 7 ls st M K = ip_ka (ip_get ls 0) (fun x => ip_wp X 25 8 ls (x :: st) M K) := wp_aload_n ((ip_a25 7).trans (ip_f25_0 (k := 3) rfl))
theorem w25_8 (X : ip_X) (ls st : List Value) (M : ip_H) (K : Option Value → ip_H → Prop) (k : Nat) (h0 : st.length ≤ 4) (h1 : (ip_sh M k).1 = 0) (h2 : (ip_sh M k).2.1 = 1) : ip_wp X 25 8 ls (.ref k :: st) M K = ip_wp X 23 0 [.ref k] [] M (fun r M1 => ip_wp X 25 11 ls (r.toList ++ st) M1 K) := (wp_callV1_1 ((ip_a25 8).trans (ip_f25_0 (k := 4) rfl)) ⟨h0, by exact Nat.le_of_ble_eq_true rfl, h1, h2⟩)
theorem w25_11 (X : ip_X) (ls st : List Value) (M : ip_H) (K : Option Value → ip_H → Prop) (x : Int32) : ip_wp X 25 11 ls (.int x :: st) M K = if x = 0 then ip_wp X 25 17 ls st M K else ip_wp X 25 14 ls st M K := wp_ifCond_eq ((ip_a25 11).trans (ip_f25_0 (k := 5) rfl))
theorem w25_14 (X : ip_X) (ls st : List Value) (M : ip_H) (K : Option Value → ip_H → Prop) : ip_wp X 25 14 ls st M K = ip_wp X 25 16 ls (.int (-3) :: st) M K := wp_bipush ((ip_a25 14).trans (ip_f25_0 (k := 6) rfl))
theorem w25_16 (X : ip_X) (ls : List Value) (M : ip_H) (K : Option Value → ip_H → Prop) (x : Int32) : ip_wp X 25 16 ls [.int x] M K = K (some (.int x)) M := wp_iret ((ip_a25 16).trans (ip_f25_0 (k := 7) rfl))
theorem w25_17 (X : ip_X) (ls st : List Value) (M : ip_H) (K : Option Value → ip_H → Prop) : ip_wp X 25 17 ls st M K = ip_ka (ip_get ls 0) (fun x => ip_wp X 25 18 ls (x :: st) M K) := wp_aload_n ((ip_a25 17).trans (ip_f25_0 (k := 8) rfl))
theorem w25_18 (X : ip_X) (ls st : List Value) (M : ip_H) (K : Option Value → ip_H → Prop) (k : Nat) (h0 : (ip_sh M k).1 = 0) (h1 : (ip_sh M k).2.1 = 1) : ip_wp X 25 18 ls (.ref k :: st) M K = ip_wp X 25 21 ls (.int (M.2.1 k 4) :: st) M K := (wp_getI ((ip_a25 18).trans (ip_f25_0 (k := 9) rfl))).trans (if_pos ⟨h0, h1⟩)
theorem w25_21 (X : ip_X) (ls st : List Value) (M : ip_H) (K : Option Value → ip_H → Prop) : ip_wp X 25 21 ls st M K = ip_wp X 25 23 ls (.int 60 :: st) M K := wp_bipush ((ip_a25 21).trans (ip_f25_0 (k := 10) rfl))
theorem w25_23 (X : ip_X) (ls st : List Value) (M : ip_H) (K : Option Value → ip_H → Prop) (x q : Int32) : ip_wp X 25 23 ls (.int q :: .int x :: st) M K = if x < q then ip_wp X 25 29 ls st M K else ip_wp X 25 26 ls st M K := wp_if_icmp_lt ((ip_a25 23).trans (ip_f25_0 (k := 11) rfl))
theorem w25_26 (X : ip_X) (ls st : List Value) (M : ip_H) (K : Option Value → ip_H → Prop) : ip_wp X 25 26 ls st M K = ip_wp X 25 28 ls (.int (-5) :: st) M K := wp_bipush ((ip_a25 26).trans (ip_f25_0 (k := 12) rfl))
theorem w25_28 (X : ip_X) (ls : List Value) (M : ip_H) (K : Option Value → ip_H → Prop) (x : Int32) : ip_wp X 25 28 ls [.int x] M K = K (some (.int x)) M := wp_iret ((ip_a25 28).trans (ip_f25_0 (k := 13) rfl))
theorem w25_29 (X : ip_X) (ls st : List Value) (M : ip_H) (K : Option Value → ip_H → Prop) : ip_wp X 25 29 ls st M K = ip_ka (ip_get ls 0) (fun x => ip_wp X 25 30 ls (x :: st) M K) := wp_aload_n ((ip_a25 29).trans (ip_f25_0 (k := 14) rfl))
theorem w25_30 (X : ip_X) (ls st : List Value) (M : ip_H) (K : Option Value → ip_H → Prop) : ip_wp X 25 30 ls st M K = ip_ka (ip_get ls 1) (fun x => ip_wp X 25 31 ls (x :: st) M K) := wp_aload_n ((ip_a25 30).trans (ip_f25_0 (k := 15) rfl))
theorem w25_31 (X : ip_X) (ls st : List Value) (M : ip_H) (K : Option Value → ip_H → Prop) (k : Nat) (x0 : Nat) (h0 : st.length ≤ 4) (h1 : (ip_sh M k).1 = 0) (h2 : (ip_sh M k).2.1 = 1) : ip_wp X 25 31 ls (.ref x0 :: .ref k :: st) M K = ip_wp X 26 0 [.ref k, .ref x0] [] M (fun r M1 => ip_wp X 25 34 ls (r.toList ++ st) M1 K) := (wp_callV1_2 ((ip_a25 31).trans (ip_f25_0 (k := 16) rfl)) ⟨h0, by exact Nat.le_of_ble_eq_true rfl, h1, h2⟩)
theorem w25_34 (X : ip_X) (ls st : List Value) (M : ip_H) (K : Option Value → ip_H → Prop) : ip_wp X 25 34 ls st M K = ip_ka (ip_get ls 0) (fun x => ip_wp X 25 35 ls (x :: st) M K) := wp_aload_n ((ip_a25 34).trans (ip_f25_0 (k := 17) rfl))
theorem w25_35 (X : ip_X) (ls st : List Value) (M : ip_H) (K : Option Value → ip_H → Prop) (k : Nat) (h0 : (ip_sh M k).1 = 0) (h1 : (ip_sh M k).2.1 = 1) : ip_wp X 25 35 ls (.ref k :: st) M K = ip_wp X 25 38 ls (ip_vr (M.2.2.2 k 8) :: st) M K := (wp_getR ((ip_a25 35).trans (ip_f25_0 (k := 18) rfl))).trans (if_pos ⟨h0, h1⟩)
theorem w25_38 (X : ip_X) (ls st : List Value) (M : ip_H) (K : Option Value → ip_H → Prop) (k : Nat) (h0 : st.length ≤ 4) (h1 : (ip_sh M k).1 = 0) (h2 : (ip_sh M k).2.1 = 8) : ip_wp X 25 38 ls (.ref k :: st) M K = ip_wp X 101 0 [.ref k] [] M (fun r M1 => ip_wp X 25 41 ls (r.toList ++ st) M1 K) := (wp_callV1_1 ((ip_a25 38).trans (ip_f25_0 (k := 19) rfl)) ⟨h0, by exact Nat.le_of_ble_eq_true rfl, h1, h2⟩)
theorem w25_41 (X : ip_X) (ls st : List Value) (M : ip_H) (K : Option Value → ip_H → Prop) (x : Int32) : ip_wp X 25 41 ls (.int x :: st) M K = if x = 0 then ip_wp X 25 47 ls st M K else ip_wp X 25 44 ls st M K := wp_ifCond_eq ((ip_a25 41).trans (ip_f25_0 (k := 20) rfl))
theorem w25_44 (X : ip_X) (ls st : List Value) (M : ip_H) (K : Option Value → ip_H → Prop) : ip_wp X 25 44 ls st M K = ip_wp X 25 46 ls (.int (-3) :: st) M K := wp_bipush ((ip_a25 44).trans (ip_f25_0 (k := 21) rfl))
theorem w25_46 (X : ip_X) (ls : List Value) (M : ip_H) (K : Option Value → ip_H → Prop) (x : Int32) : ip_wp X 25 46 ls [.int x] M K = K (some (.int x)) M := wp_iret ((ip_a25 46).trans (ip_f25_0 (k := 22) rfl))
theorem w25_47 (X : ip_X) (ls st : List Value) (M : ip_H) (K : Option Value → ip_H → Prop) : ip_wp X 25 47 ls st M K = ip_ka (ip_get ls 1) (fun x => ip_wp X 25 48 ls (x :: st) M K) := wp_aload_n ((ip_a25 47).trans (ip_f25_0 (k := 23) rfl))
theorem w25_48 (X : ip_X) (ls st : List Value) (M : ip_H) (K : Option Value → ip_H → Prop) : ip_wp X 25 48 ls st M K = ip_ka (ip_get ls 0) (fun x => ip_wp X 25 49 ls (x :: st) M K) := wp_aload_n ((ip_a25 48).trans (ip_f25_1 (k := 0) rfl))
theorem w25_49 (X : ip_X) (ls st : List Value) (M : ip_H) (K : Option Value → ip_H → Prop) (k : Nat) (h0 : (ip_sh M k).1 = 0) (h1 : (ip_sh M k).2.1 = 1) : ip_wp X 25 49 ls (.ref k :: st) M K = ip_wp X 25 52 ls (ip_vr (M.2.2.2 k 9) :: st) M K := (wp_getR ((ip_a25 49).trans (ip_f25_1 (k := 1) rfl))).trans (if_pos ⟨h0, h1⟩)
theorem w25_52 (X : ip_X) (ls st : List Value) (M : ip_H) (K : Option Value → ip_H → Prop) : ip_wp X 25 52 ls st M K = ip_ka (ip_get ls 0) (fun x => ip_wp X 25 53 ls (x :: st) M K) := wp_aload_n ((ip_a25 52).trans (ip_f25_1 (k := 2) rfl))
theorem w25_53 (X : ip_X) (ls st : List Value) (M : ip_H) (K : Option Value → ip_H → Prop) (k : Nat) (h0 : (ip_sh M k).1 = 0) (h1 : (ip_sh M k).2.1 = 1) : ip_wp X 25 53 ls (.ref k :: st) M K = ip_wp X 25 56 ls (ip_vr (M.2.2.2 k 8) :: st) M K := (wp_getR ((ip_a25 53).trans (ip_f25_1 (k := 3) rfl))).trans (if_pos ⟨h0, h1⟩)
theorem w25_56 (X : ip_X) (ls st : List Value) (M : ip_H) (K : Option Value → ip_H → Prop) : ip_wp X 25 56 ls st M K = ip_ka (ip_get ls 0) (fun x => ip_wp X 25 57 ls (x :: st) M K) := wp_aload_n ((ip_a25 56).trans (ip_f25_1 (k := 4) rfl))
theorem w25_57 (X : ip_X) (ls st : List Value) (M : ip_H) (K : Option Value → ip_H → Prop) (k : Nat) (h0 : (ip_sh M k).1 = 0) (h1 : (ip_sh M k).2.1 = 1) : ip_wp X 25 57 ls (.ref k :: st) M K = ip_wp X 25 60 ls (ip_vr (M.2.2.2 k 10) :: st) M K := (wp_getR ((ip_a25 57).trans (ip_f25_1 (k := 5) rfl))).trans (if_pos ⟨h0, h1⟩)
theorem w25_60 (X : ip_X) (ls st : List Value) (M : ip_H) (K : Option Value → ip_H → Prop) (k : Nat) (x0 : Nat) (x1 : Nat) (x2 : Nat) (h0 : st.length ≤ 4) (h1 : (ip_sh M k).1 = 0) (h2 : (ip_sh M k).2.1 = 2) : ip_wp X 25 60 ls (.ref x2 :: .ref x1 :: .ref x0 :: .ref k :: st) M K = ip_wp X 52 0 [.ref k, .ref x0, .ref x1, .ref x2, .retAddr 1, .retAddr 1] [] M (fun r M1 => ip_wp X 25 63 ls (r.toList ++ st) M1 K) := (wp_callV1_4 ((ip_a25 60).trans (ip_f25_1 (k := 6) rfl)) ⟨h0, by exact Nat.le_of_ble_eq_true rfl, h1, h2⟩)
theorem w25_63 (X : ip_X) (ls st : List Value) (M : ip_H) (K : Option Value → ip_H → Prop) : ip_wp X 25 63 ls st M K = ip_ka (ip_get ls 0) (fun x => ip_wp X 25 64 ls (x :: st) M K) := wp_aload_n ((ip_a25 63).trans (ip_f25_1 (k := 7) rfl))
theorem w25_64 (X : ip_X) (ls st : List Value) (M : ip_H) (K : Option Value → ip_H → Prop) (k : Nat) (h0 : (ip_sh M k).1 = 0) (h1 : (ip_sh M k).2.1 = 1) : ip_wp X 25 64 ls (.ref k :: st) M K = ip_wp X 25 67 ls (ip_vr (M.2.2.2 k 11) :: st) M K := (wp_getR ((ip_a25 64).trans (ip_f25_1 (k := 8) rfl))).trans (if_pos ⟨h0, h1⟩)
theorem w25_67 (X : ip_X) (ls st : List Value) (M : ip_H) (K : Option Value → ip_H → Prop) : ip_wp X 25 67 ls st M K = ip_wp X 25 68 ls (.long 1 :: st) M K := wp_lconst ((ip_a25 67).trans (ip_f25_1 (k := 9) rfl))
theorem w25_68 (X : ip_X) (ls st : List Value) (M : ip_H) (K : Option Value → ip_H → Prop) : ip_wp X 25 68 ls st M K = ip_wp X 25 69 ls (.long 0 :: st) M K := wp_lconst ((ip_a25 68).trans (ip_f25_1 (k := 10) rfl))
theorem w25_69 (X : ip_X) (ls st : List Value) (M : ip_H) (K : Option Value → ip_H → Prop) : ip_wp X 25 69 ls st M K = ip_wp X 25 70 ls (.long 0 :: st) M K := wp_lconst ((ip_a25 69).trans (ip_f25_1 (k := 11) rfl))
theorem w25_70 (X : ip_X) (ls st : List Value) (M : ip_H) (K : Option Value → ip_H → Prop) : ip_wp X 25 70 ls st M K = ip_wp X 25 71 ls (.long 1 :: st) M K := wp_lconst ((ip_a25 70).trans (ip_f25_1 (k := 12) rfl))
theorem w25_71 (X : ip_X) (ls st : List Value) (M : ip_H) (K : Option Value → ip_H → Prop) (k : Nat) (x0 : Int64) (x1 : Int64) (x2 : Int64) (x3 : Int64) (h0 : st.length ≤ 4) (h1 : (ip_sh M k).1 = 0) (h2 : (ip_sh M k).2.1 = 8) : ip_wp X 25 71 ls (.long x3 :: .long x2 :: .long x1 :: .long x0 :: .ref k :: st) M K = ip_wp X 93 0 [.ref k, .long x0, .retAddr 1, .long x1, .retAddr 1, .long x2, .retAddr 1, .long x3, .retAddr 1, .retAddr 1, .retAddr 1, .retAddr 1] [] M (fun r M1 => ip_wp X 25 74 ls (r.toList ++ st) M1 K) := (wp_callV1_5 ((ip_a25 71).trans (ip_f25_1 (k := 13) rfl)) ⟨h0, by exact Nat.le_of_ble_eq_true rfl, h1, h2⟩)
theorem w25_74 (X : ip_X) (ls st : List Value) (M : ip_H) (K : Option Value → ip_H → Prop) : ip_wp X 25 74 ls st M K = ip_ka (ip_get ls 1) (fun x => ip_wp X 25 75 ls (x :: st) M K) := wp_aload_n ((ip_a25 74).trans (ip_f25_1 (k := 14) rfl))
theorem w25_75 (X : ip_X) (ls st : List Value) (M : ip_H) (K : Option Value → ip_H → Prop) : ip_wp X 25 75 ls st M K = ip_ka (ip_get ls 0) (fun x => ip_wp X 25 76 ls (x :: st) M K) := wp_aload_n ((ip_a25 75).trans (ip_f25_1 (k := 15) rfl))
theorem w25_76 (X : ip_X) (ls st : List Value) (M : ip_H) (K : Option Value → ip_H → Prop) (k : Nat) (h0 : (ip_sh M k).1 = 0) (h1 : (ip_sh M k).2.1 = 1) : ip_wp X 25 76 ls (.ref k :: st) M K = ip_wp X 25 79 ls (ip_vr (M.2.2.2 k 11) :: st) M K := (wp_getR ((ip_a25 76).trans (ip_f25_1 (k := 16) rfl))).trans (if_pos ⟨h0, h1⟩)
theorem w25_79 (X : ip_X) (ls st : List Value) (M : ip_H) (K : Option Value → ip_H → Prop) : ip_wp X 25 79 ls st M K = ip_ka (ip_get ls 0) (fun x => ip_wp X 25 80 ls (x :: st) M K) := wp_aload_n ((ip_a25 79).trans (ip_f25_1 (k := 17) rfl))
theorem w25_80 (X : ip_X) (ls st : List Value) (M : ip_H) (K : Option Value → ip_H → Prop) (k : Nat) (h0 : (ip_sh M k).1 = 0) (h1 : (ip_sh M k).2.1 = 1) : ip_wp X 25 80 ls (.ref k :: st) M K = ip_wp X 25 83 ls (ip_vr (M.2.2.2 k 8) :: st) M K := (wp_getR ((ip_a25 80).trans (ip_f25_1 (k := 18) rfl))).trans (if_pos ⟨h0, h1⟩)
theorem w25_83 (X : ip_X) (ls st : List Value) (M : ip_H) (K : Option Value → ip_H → Prop) : ip_wp X 25 83 ls st M K = ip_ka (ip_get ls 0) (fun x => ip_wp X 25 84 ls (x :: st) M K) := wp_aload_n ((ip_a25 83).trans (ip_f25_1 (k := 19) rfl))
theorem w25_84 (X : ip_X) (ls st : List Value) (M : ip_H) (K : Option Value → ip_H → Prop) (k : Nat) (h0 : (ip_sh M k).1 = 0) (h1 : (ip_sh M k).2.1 = 1) : ip_wp X 25 84 ls (.ref k :: st) M K = ip_wp X 25 87 ls (ip_vr (M.2.2.2 k 11) :: st) M K := (wp_getR ((ip_a25 84).trans (ip_f25_1 (k := 20) rfl))).trans (if_pos ⟨h0, h1⟩)
theorem w25_87 (X : ip_X) (ls st : List Value) (M : ip_H) (K : Option Value → ip_H → Prop) (k : Nat) (x0 : Nat) (x1 : Nat) (x2 : Nat) (h0 : st.length ≤ 4) (h1 : (ip_sh M k).1 = 0) (h2 : (ip_sh M k).2.1 = 2) : ip_wp X 25 87 ls (.ref x2 :: .ref x1 :: .ref x0 :: .ref k :: st) M K = ip_wp X 52 0 [.ref k, .ref x0, .ref x1, .ref x2, .retAddr 1, .retAddr 1] [] M (fun r M1 => ip_wp X 25 90 ls (r.toList ++ st) M1 K) := (wp_callV1_4 ((ip_a25 87).trans (ip_f25_1 (k := 21) rfl)) ⟨h0, by exact Nat.le_of_ble_eq_true rfl, h1, h2⟩)
theorem w25_90 (X : ip_X) (ls st : List Value) (M : ip_H) (K : Option Value → ip_H → Prop) : ip_wp X 25 90 ls st M K = ip_ka (ip_get ls 0) (fun x => ip_wp X 25 91 ls (x :: st) M K) := wp_aload_n ((ip_a25 90).trans (ip_f25_1 (k := 22) rfl))
theorem w25_91 (X : ip_X) (ls st : List Value) (M : ip_H) (K : Option Value → ip_H → Prop) (k : Nat) (h0 : (ip_sh M k).1 = 0) (h1 : (ip_sh M k).2.1 = 1) : ip_wp X 25 91 ls (.ref k :: st) M K = ip_wp X 25 94 ls (ip_vr (M.2.2.2 k 10) :: st) M K := (wp_getR ((ip_a25 91).trans (ip_f25_1 (k := 23) rfl))).trans (if_pos ⟨h0, h1⟩)
theorem w25_94 (X : ip_X) (ls st : List Value) (M : ip_H) (K : Option Value → ip_H → Prop) (k : Nat) (h0 : st.length ≤ 4) (h1 : (ip_sh M k).1 = 0) (h2 : (ip_sh M k).2.1 = 8) : ip_wp X 25 94 ls (.ref k :: st) M K = ip_wp X 99 0 [.ref k] [] M (fun r M1 => ip_wp X 25 97 ls (r.toList ++ st) M1 K) := (wp_callV1_1 ((ip_a25 94).trans (ip_f25_2 (k := 0) rfl)) ⟨h0, by exact Nat.le_of_ble_eq_true rfl, h1, h2⟩)
theorem w25_97 (X : ip_X) (ls st : List Value) (M : ip_H) (K : Option Value → ip_H → Prop) (x : Int32) : ip_wp X 25 97 ls (.int x :: st) M K = if x = 0 then ip_wp X 25 110 ls st M K else ip_wp X 25 100 ls st M K := wp_ifCond_eq ((ip_a25 97).trans (ip_f25_2 (k := 1) rfl))
theorem w25_100 (X : ip_X) (ls st : List Value) (M : ip_H) (K : Option Value → ip_H → Prop) : ip_wp X 25 100 ls st M K = ip_ka (ip_get ls 0) (fun x => ip_wp X 25 101 ls (x :: st) M K) := wp_aload_n ((ip_a25 100).trans (ip_f25_2 (k := 2) rfl))
theorem w25_101 (X : ip_X) (ls st : List Value) (M : ip_H) (K : Option Value → ip_H → Prop) (k : Nat) (h0 : (ip_sh M k).1 = 0) (h1 : (ip_sh M k).2.1 = 1) : ip_wp X 25 101 ls (.ref k :: st) M K = ip_wp X 25 104 ls (ip_vr (M.2.2.2 k 11) :: st) M K := (wp_getR ((ip_a25 101).trans (ip_f25_2 (k := 3) rfl))).trans (if_pos ⟨h0, h1⟩)
theorem w25_104 (X : ip_X) (ls st : List Value) (M : ip_H) (K : Option Value → ip_H → Prop) (k : Nat) (h0 : st.length ≤ 4) (h1 : (ip_sh M k).1 = 0) (h2 : (ip_sh M k).2.1 = 8) : ip_wp X 25 104 ls (.ref k :: st) M K = ip_wp X 99 0 [.ref k] [] M (fun r M1 => ip_wp X 25 107 ls (r.toList ++ st) M1 K) := (wp_callV1_1 ((ip_a25 104).trans (ip_f25_2 (k := 4) rfl)) ⟨h0, by exact Nat.le_of_ble_eq_true rfl, h1, h2⟩)
theorem w25_107 (X : ip_X) (ls st : List Value) (M : ip_H) (K : Option Value → ip_H → Prop) (x : Int32) : ip_wp X 25 107 ls (.int x :: st) M K = if x = 0 then ip_wp X 25 110 ls st M K else ip_wp X 25 113 ls st M K := wp_ifCond_ne ((ip_a25 107).trans (ip_f25_2 (k := 5) rfl))
theorem w25_110 (X : ip_X) (ls st : List Value) (M : ip_H) (K : Option Value → ip_H → Prop) : ip_wp X 25 110 ls st M K = ip_wp X 25 112 ls (.int (-5) :: st) M K := wp_bipush ((ip_a25 110).trans (ip_f25_2 (k := 6) rfl))
theorem w25_112 (X : ip_X) (ls : List Value) (M : ip_H) (K : Option Value → ip_H → Prop) (x : Int32) : ip_wp X 25 112 ls [.int x] M K = K (some (.int x)) M := wp_iret ((ip_a25 112).trans (ip_f25_2 (k := 7) rfl))
theorem w25_113 (X : ip_X) (ls st : List Value) (M : ip_H) (K : Option Value → ip_H → Prop) : ip_wp X 25 113 ls st M K = ip_ka (ip_get ls 0) (fun x => ip_wp X 25 114 ls (x :: st) M K) := wp_aload_n ((ip_a25 113).trans (ip_f25_2 (k := 8) rfl))
theorem w25_114 (X : ip_X) (ls st : List Value) (M : ip_H) (K : Option Value → ip_H → Prop) : ip_wp X 25 114 ls st M K = ip_ka (ip_get ls 1) (fun x => ip_wp X 25 115 ls (x :: st) M K) := wp_aload_n ((ip_a25 114).trans (ip_f25_2 (k := 9) rfl))
theorem w25_115 (X : ip_X) (ls st : List Value) (M : ip_H) (K : Option Value → ip_H → Prop) : ip_wp X 25 115 ls st M K = ip_ka (ip_get ls 0) (fun x => ip_wp X 25 116 ls (x :: st) M K) := wp_aload_n ((ip_a25 115).trans (ip_f25_2 (k := 10) rfl))
theorem w25_116 (X : ip_X) (ls st : List Value) (M : ip_H) (K : Option Value → ip_H → Prop) (k : Nat) (h0 : (ip_sh M k).1 = 0) (h1 : (ip_sh M k).2.1 = 1) : ip_wp X 25 116 ls (.ref k :: st) M K = ip_wp X 25 119 ls (ip_vr (M.2.2.2 k 10) :: st) M K := (wp_getR ((ip_a25 116).trans (ip_f25_2 (k := 11) rfl))).trans (if_pos ⟨h0, h1⟩)
theorem w25_119 (X : ip_X) (ls st : List Value) (M : ip_H) (K : Option Value → ip_H → Prop) (k : Nat) (x0 : Nat) (h0 : st.length ≤ 4) (h1 : (ip_sh M k).1 = 0) (h2 : (ip_sh M k).2.1 = 2) : ip_wp X 25 119 ls (.ref x0 :: .ref k :: st) M K = ip_wp X 49 0 [.ref k, .ref x0, .retAddr 1, .retAddr 1, .retAddr 1, .retAddr 1] [] M (fun r M1 => ip_wp X 25 122 ls (r.toList ++ st) M1 K) := (wp_callV1_2 ((ip_a25 119).trans (ip_f25_2 (k := 12) rfl)) ⟨h0, by exact Nat.le_of_ble_eq_true rfl, h1, h2⟩)
theorem w25_122 (X : ip_X) (ls st : List Value) (M : ip_H) (K : Option Value → ip_H → Prop) (k : Nat) (x : Int32) (h0 : (ip_sh M k).1 = 0) (h1 : (ip_sh M k).2.1 = 1) : ip_wp X 25 122 ls (.int x :: .ref k :: st) M K = ip_wp X 25 125 ls st (ip_uI M k 12 x) K := (wp_putI ((ip_a25 122).trans (ip_f25_2 (k := 13) rfl))).trans (if_pos ⟨h0, h1⟩)
theorem w25_125 (X : ip_X) (ls st : List Value) (M : ip_H) (K : Option Value → ip_H → Prop) : ip_wp X 25 125 ls st M K = ip_ka (ip_get ls 0) (fun x => ip_wp X 25 126 ls (x :: st) M K) := wp_aload_n ((ip_a25 125).trans (ip_f25_2 (k := 14) rfl))
theorem w25_126 (X : ip_X) (ls st : List Value) (M : ip_H) (K : Option Value → ip_H → Prop) : ip_wp X 25 126 ls st M K = ip_ka (ip_get ls 1) (fun x => ip_wp X 25 127 ls (x :: st) M K) := wp_aload_n ((ip_a25 126).trans (ip_f25_2 (k := 15) rfl))
theorem w25_127 (X : ip_X) (ls st : List Value) (M : ip_H) (K : Option Value → ip_H → Prop) : ip_wp X 25 127 ls st M K = ip_ka (ip_get ls 0) (fun x => ip_wp X 25 128 ls (x :: st) M K) := wp_aload_n ((ip_a25 127).trans (ip_f25_2 (k := 16) rfl))
theorem w25_128 (X : ip_X) (ls st : List Value) (M : ip_H) (K : Option Value → ip_H → Prop) (k : Nat) (h0 : (ip_sh M k).1 = 0) (h1 : (ip_sh M k).2.1 = 1) : ip_wp X 25 128 ls (.ref k :: st) M K = ip_wp X 25 131 ls (ip_vr (M.2.2.2 k 11) :: st) M K := (wp_getR ((ip_a25 128).trans (ip_f25_2 (k := 17) rfl))).trans (if_pos ⟨h0, h1⟩)
theorem w25_131 (X : ip_X) (ls st : List Value) (M : ip_H) (K : Option Value → ip_H → Prop) (k : Nat) (x0 : Nat) (h0 : st.length ≤ 4) (h1 : (ip_sh M k).1 = 0) (h2 : (ip_sh M k).2.1 = 2) : ip_wp X 25 131 ls (.ref x0 :: .ref k :: st) M K = ip_wp X 49 0 [.ref k, .ref x0, .retAddr 1, .retAddr 1, .retAddr 1, .retAddr 1] [] M (fun r M1 => ip_wp X 25 134 ls (r.toList ++ st) M1 K) := (wp_callV1_2 ((ip_a25 131).trans (ip_f25_2 (k := 18) rfl)) ⟨h0, by exact Nat.le_of_ble_eq_true rfl, h1, h2⟩)
theorem w25_134 (X : ip_X) (ls st : List Value) (M : ip_H) (K : Option Value → ip_H → Prop) (k : Nat) (x : Int32) (h0 : (ip_sh M k).1 = 0) (h1 : (ip_sh M k).2.1 = 1) : ip_wp X 25 134 ls (.int x :: .ref k :: st) M K = ip_wp X 25 137 ls st (ip_uI M k 13 x) K := (wp_putI ((ip_a25 134).trans (ip_f25_2 (k := 19) rfl))).trans (if_pos ⟨h0, h1⟩)
theorem w25_137 (X : ip_X) (ls st : List Value) (M : ip_H) (K : Option Value → ip_H → Prop) : ip_wp X 25 137 ls st M K = ip_ka (ip_get ls 0) (fun x => ip_wp X 25 138 ls (x :: st) M K) := wp_aload_n ((ip_a25 137).trans (ip_f25_2 (k := 20) rfl))
theorem w25_138 (X : ip_X) (ls st : List Value) (M : ip_H) (K : Option Value → ip_H → Prop) (k : Nat) (h0 : (ip_sh M k).1 = 0) (h1 : (ip_sh M k).2.1 = 1) : ip_wp X 25 138 ls (.ref k :: st) M K = ip_wp X 25 141 ls (.int (M.2.1 k 12) :: st) M K := (wp_getI ((ip_a25 138).trans (ip_f25_2 (k := 21) rfl))).trans (if_pos ⟨h0, h1⟩)
theorem w25_141 (X : ip_X) (ls st : List Value) (M : ip_H) (K : Option Value → ip_H → Prop) : ip_wp X 25 141 ls st M K = ip_wp X 25 143 ls (.int 99 :: st) M K := wp_bipush ((ip_a25 141).trans (ip_f25_2 (k := 22) rfl))
theorem w25_143 (X : ip_X) (ls st : List Value) (M : ip_H) (K : Option Value → ip_H → Prop) (x q : Int32) : ip_wp X 25 143 ls (.int q :: .int x :: st) M K = if q < x then ip_wp X 25 155 ls st M K else ip_wp X 25 146 ls st M K := wp_if_icmp_gt ((ip_a25 143).trans (ip_f25_2 (k := 23) rfl))
theorem w25_146 (X : ip_X) (ls st : List Value) (M : ip_H) (K : Option Value → ip_H → Prop) : ip_wp X 25 146 ls st M K = ip_ka (ip_get ls 0) (fun x => ip_wp X 25 147 ls (x :: st) M K) := wp_aload_n ((ip_a25 146).trans (ip_f25_3 (k := 0) rfl))
theorem w25_147 (X : ip_X) (ls st : List Value) (M : ip_H) (K : Option Value → ip_H → Prop) (k : Nat) (h0 : (ip_sh M k).1 = 0) (h1 : (ip_sh M k).2.1 = 1) : ip_wp X 25 147 ls (.ref k :: st) M K = ip_wp X 25 150 ls (.int (M.2.1 k 13) :: st) M K := (wp_getI ((ip_a25 147).trans (ip_f25_3 (k := 1) rfl))).trans (if_pos ⟨h0, h1⟩)
theorem w25_150 (X : ip_X) (ls st : List Value) (M : ip_H) (K : Option Value → ip_H → Prop) : ip_wp X 25 150 ls st M K = ip_wp X 25 152 ls (.int 99 :: st) M K := wp_bipush ((ip_a25 150).trans (ip_f25_3 (k := 2) rfl))
theorem w25_152 (X : ip_X) (ls st : List Value) (M : ip_H) (K : Option Value → ip_H → Prop) (x q : Int32) : ip_wp X 25 152 ls (.int q :: .int x :: st) M K = if q < x then ip_wp X 25 155 ls st M K else ip_wp X 25 158 ls st M K := wp_if_icmp_le ((ip_a25 152).trans (ip_f25_3 (k := 3) rfl))
theorem w25_155 (X : ip_X) (ls st : List Value) (M : ip_H) (K : Option Value → ip_H → Prop) : ip_wp X 25 155 ls st M K = ip_wp X 25 157 ls (.int (-5) :: st) M K := wp_bipush ((ip_a25 155).trans (ip_f25_3 (k := 4) rfl))
theorem w25_157 (X : ip_X) (ls : List Value) (M : ip_H) (K : Option Value → ip_H → Prop) (x : Int32) : ip_wp X 25 157 ls [.int x] M K = K (some (.int x)) M := wp_iret ((ip_a25 157).trans (ip_f25_3 (k := 5) rfl))
theorem w25_158 (X : ip_X) (ls st : List Value) (M : ip_H) (K : Option Value → ip_H → Prop) : ip_wp X 25 158 ls st M K = ip_ka (ip_get ls 0) (fun x => ip_wp X 25 159 ls (x :: st) M K) := wp_aload_n ((ip_a25 158).trans (ip_f25_3 (k := 6) rfl))
theorem w25_159 (X : ip_X) (ls st : List Value) (M : ip_H) (K : Option Value → ip_H → Prop) (k : Nat) (h0 : (ip_sh M k).1 = 0) (h1 : (ip_sh M k).2.1 = 1) : ip_wp X 25 159 ls (.ref k :: st) M K = ip_wp X 25 162 ls (ip_vr (M.2.2.2 k 7) :: st) M K := (wp_getR ((ip_a25 159).trans (ip_f25_3 (k := 7) rfl))).trans (if_pos ⟨h0, h1⟩)
theorem w25_162 (X : ip_X) (ls st : List Value) (M : ip_H) (K : Option Value → ip_H → Prop) : ip_wp X 25 162 ls st M K = ip_ka (ip_get ls 0) (fun x => ip_wp X 25 163 ls (x :: st) M K) := wp_aload_n ((ip_a25 162).trans (ip_f25_3 (k := 8) rfl))
theorem w25_163 (X : ip_X) (ls st : List Value) (M : ip_H) (K : Option Value → ip_H → Prop) (k : Nat) (h0 : (ip_sh M k).1 = 0) (h1 : (ip_sh M k).2.1 = 1) : ip_wp X 25 163 ls (.ref k :: st) M K = ip_wp X 25 166 ls (ip_vr (M.2.2.2 k 2) :: st) M K := (wp_getR ((ip_a25 163).trans (ip_f25_3 (k := 9) rfl))).trans (if_pos ⟨h0, h1⟩)
theorem w25_166 (X : ip_X) (ls st : List Value) (M : ip_H) (K : Option Value → ip_H → Prop) (k : Nat) (x0 : Nat) (h0 : st.length ≤ 4) (h1 : (ip_sh M k).1 = 0) (h2 : (ip_sh M k).2.1 = 4) : ip_wp X 25 166 ls (.ref x0 :: .ref k :: st) M K = ip_wp X 65 0 [.ref k, .ref x0] [] M (fun r M1 => ip_wp X 25 169 ls (r.toList ++ st) M1 K) := (wp_callV1_2 ((ip_a25 166).trans (ip_f25_3 (k := 10) rfl)) ⟨h0, by exact Nat.le_of_ble_eq_true rfl, h1, h2⟩)
theorem w25_169 (X : ip_X) (ls st : List Value) (M : ip_H) (K : Option Value → ip_H → Prop) : ip_wp X 25 169 ls st M K = ip_ka (ip_get ls 0) (fun x => ip_wp X 25 170 ls (x :: st) M K) := wp_aload_n ((ip_a25 169).trans (ip_f25_3 (k := 11) rfl))
theorem w25_170 (X : ip_X) (ls st : List Value) (M : ip_H) (K : Option Value → ip_H → Prop) (k : Nat) (h0 : (ip_sh M k).1 = 0) (h1 : (ip_sh M k).2.1 = 1) : ip_wp X 25 170 ls (.ref k :: st) M K = ip_wp X 25 173 ls (ip_vr (M.2.2.2 k 7) :: st) M K := (wp_getR ((ip_a25 170).trans (ip_f25_3 (k := 12) rfl))).trans (if_pos ⟨h0, h1⟩)
theorem w25_173 (X : ip_X) (ls st : List Value) (M : ip_H) (K : Option Value → ip_H → Prop) : ip_wp X 25 173 ls st M K = ip_ka (ip_get ls 0) (fun x => ip_wp X 25 174 ls (x :: st) M K) := wp_aload_n ((ip_a25 173).trans (ip_f25_3 (k := 13) rfl))
theorem w25_174 (X : ip_X) (ls st : List Value) (M : ip_H) (K : Option Value → ip_H → Prop) : ip_wp X 25 174 ls st M K = ip_ka (ip_get ls 0) (fun x => ip_wp X 25 175 ls (x :: st) M K) := wp_aload_n ((ip_a25 174).trans (ip_f25_3 (k := 14) rfl))
theorem w25_175 (X : ip_X) (ls st : List Value) (M : ip_H) (K : Option Value → ip_H → Prop) (k : Nat) (h0 : (ip_sh M k).1 = 0) (h1 : (ip_sh M k).2.1 = 1) : ip_wp X 25 175 ls (.ref k :: st) M K = ip_wp X 25 178 ls (.int (M.2.1 k 4) :: st) M K := (wp_getI ((ip_a25 175).trans (ip_f25_3 (k := 15) rfl))).trans (if_pos ⟨h0, h1⟩)
theorem w25_178 (X : ip_X) (ls st : List Value) (M : ip_H) (K : Option Value → ip_H → Prop) : ip_wp X 25 178 ls st M K = ip_wp X 25 179 ls (.int 0 :: st) M K := wp_iconst ((ip_a25 178).trans (ip_f25_3 (k := 16) rfl))
theorem w25_179 (X : ip_X) (ls st : List Value) (M : ip_H) (K : Option Value → ip_H → Prop) (k : Nat) (x0 : Int32) (x1 : Int32) (h0 : st.length ≤ 4) (h1 : (ip_sh M k).1 = 0) (h2 : (ip_sh M k).2.1 = 1) : ip_wp X 25 179 ls (.int x1 :: .int x0 :: .ref k :: st) M K = ip_wp X 15 0 [.ref k, .int x0, .int x1] [] M (fun r M1 => ip_wp X 25 182 ls (r.toList ++ st) M1 K) := (wp_callV1_3 ((ip_a25 179).trans (ip_f25_3 (k := 17) rfl)) ⟨h0, by exact Nat.le_of_ble_eq_true rfl, h1, h2⟩)
theorem w25_182 (X : ip_X) (ls st : List Value) (M : ip_H) (K : Option Value → ip_H → Prop) : ip_wp X 25 182 ls st M K = ip_ka (ip_get ls 0) (fun x => ip_wp X 25 183 ls (x :: st) M K) := wp_aload_n ((ip_a25 182).trans (ip_f25_3 (k := 18) rfl))
theorem w25_183 (X : ip_X) (ls st : List Value) (M : ip_H) (K : Option Value → ip_H → Prop) : ip_wp X 25 183 ls st M K = ip_ka (ip_get ls 0) (fun x => ip_wp X 25 184 ls (x :: st) M K) := wp_aload_n ((ip_a25 183).trans (ip_f25_3 (k := 19) rfl))
theorem w25_184 (X : ip_X) (ls st : List Value) (M : ip_H) (K : Option Value → ip_H → Prop) (k : Nat) (h0 : (ip_sh M k).1 = 0) (h1 : (ip_sh M k).2.1 = 1) : ip_wp X 25 184 ls (.ref k :: st) M K = ip_wp X 25 187 ls (.int (M.2.1 k 4) :: st) M K := (wp_getI ((ip_a25 184).trans (ip_f25_3 (k := 20) rfl))).trans (if_pos ⟨h0, h1⟩)
theorem w25_187 (X : ip_X) (ls st : List Value) (M : ip_H) (K : Option Value → ip_H → Prop) : ip_wp X 25 187 ls st M K = ip_wp X 25 188 ls (.int 1 :: st) M K := wp_iconst ((ip_a25 187).trans (ip_f25_3 (k := 21) rfl))
theorem w25_188 (X : ip_X) (ls st : List Value) (M : ip_H) (K : Option Value → ip_H → Prop) (k : Nat) (x0 : Int32) (x1 : Int32) (h0 : st.length ≤ 4) (h1 : (ip_sh M k).1 = 0) (h2 : (ip_sh M k).2.1 = 1) : ip_wp X 25 188 ls (.int x1 :: .int x0 :: .ref k :: st) M K = ip_wp X 15 0 [.ref k, .int x0, .int x1] [] M (fun r M1 => ip_wp X 25 191 ls (r.toList ++ st) M1 K) := (wp_callV1_3 ((ip_a25 188).trans (ip_f25_3 (k := 22) rfl)) ⟨h0, by exact Nat.le_of_ble_eq_true rfl, h1, h2⟩)
theorem w25_191 (X : ip_X) (ls st : List Value) (M : ip_H) (K : Option Value → ip_H → Prop) : ip_wp X 25 191 ls st M K = ip_ka (ip_get ls 0) (fun x => ip_wp X 25 192 ls (x :: st) M K) := wp_aload_n ((ip_a25 191).trans (ip_f25_3 (k := 23) rfl))
theorem w25_192 (X : ip_X) (ls st : List Value) (M : ip_H) (K : Option Value → ip_H → Prop) (k : Nat) (h0 : (ip_sh M k).1 = 0) (h1 : (ip_sh M k).2.1 = 1) : ip_wp X 25 192 ls (.ref k :: st) M K = ip_wp X 25 195 ls (.int (M.2.1 k 14) :: st) M K := (wp_getZ ((ip_a25 192).trans (ip_f25_4 (k := 0) rfl))).trans (if_pos ⟨h0, h1⟩)
theorem w25_195 (X : ip_X) (ls st : List Value) (M : ip_H) (K : Option Value → ip_H → Prop) (k : Nat) (x0 : Int32) (x1 : Int32) (x2 : Int32) (h0 : st.length ≤ 4) (h1 : (ip_sh M k).1 = 0) (h2 : (ip_sh M k).2.1 = 4) : ip_wp X 25 195 ls (.int x2 :: .int x1 :: .int x0 :: .ref k :: st) M K = ip_wp X 66 0 [.ref k, .int x0, .int x1, .int x2, .retAddr 1, .retAddr 1, .retAddr 1, .retAddr 1, .retAddr 1, .retAddr 1, .retAddr 1] [] M (fun r M1 => ip_wp X 25 198 ls (r.toList ++ st) M1 K) := (wp_callV1_4 ((ip_a25 195).trans (ip_f25_4 (k := 1) rfl)) ⟨h0, by exact Nat.le_of_ble_eq_true rfl, h1, h2⟩)
theorem w25_198 (X : ip_X) (ls st : List Value) (M : ip_H) (K : Option Value → ip_H → Prop) : ip_wp X 25 198 ls st M K = ip_ka (ip_get ls 0) (fun x => ip_wp X 25 199 ls (x :: st) M K) := wp_aload_n ((ip_a25 198).trans (ip_f25_4 (k := 2) rfl))
theorem w25_199 (X : ip_X) (ls st : List Value) (M : ip_H) (K : Option Value → ip_H → Prop) (k : Nat) (h0 : (ip_sh M k).1 = 0) (h1 : (ip_sh M k).2.1 = 1) : ip_wp X 25 199 ls (.ref k :: st) M K = ip_wp X 25 202 ls (ip_vr (M.2.2.2 k 7) :: st) M K := (wp_getR ((ip_a25 199).trans (ip_f25_4 (k := 3) rfl))).trans (if_pos ⟨h0, h1⟩)
theorem w25_202 (X : ip_X) (ls st : List Value) (M : ip_H) (K : Option Value → ip_H → Prop) (k : Nat) (h0 : st.length ≤ 4) (h1 : (ip_sh M k).1 = 0) (h2 : (ip_sh M k).2.1 = 4) : ip_wp X 25 202 ls (.ref k :: st) M K = ip_wp X 69 0 [.ref k, .retAddr 1] [] M (fun r M1 => ip_wp X 25 205 ls (r.toList ++ st) M1 K) := (wp_callV1_1 ((ip_a25 202).trans (ip_f25_4 (k := 4) rfl)) ⟨h0, by exact Nat.le_of_ble_eq_true rfl, h1, h2⟩)
theorem w25_205 (X : ip_X) (ls st : List Value) (M : ip_H) (K : Option Value → ip_H → Prop) (x : Int32) : ip_wp X 25 205 ls (.int x :: st) M K = if x = 0 then ip_wp X 25 213 ls st M K else ip_wp X 25 208 ls st M K := wp_ifCond_eq ((ip_a25 205).trans (ip_f25_4 (k := 5) rfl))
theorem w25_208 (X : ip_X) (ls st : List Value) (M : ip_H) (K : Option Value → ip_H → Prop) : ip_wp X 25 208 ls st M K = ip_wp X 25 210 ls (.int (-5) :: st) M K := wp_bipush ((ip_a25 208).trans (ip_f25_4 (k := 6) rfl))
theorem w25_210 (X : ip_X) (ls st : List Value) (M : ip_H) (K : Option Value → ip_H → Prop) : ip_wp X 25 210 ls st M K = ip_wp X 25 214 ls st M K := wp_goto ((ip_a25 210).trans (ip_f25_4 (k := 7) rfl))
theorem w25_213 (X : ip_X) (ls st : List Value) (M : ip_H) (K : Option Value → ip_H → Prop) : ip_wp X 25 213 ls st M K = ip_wp X 25 214 ls (.int 0 :: st) M K := wp_iconst ((ip_a25 213).trans (ip_f25_4 (k := 8) rfl))
theorem w25_214 (X : ip_X) (ls : List Value) (M : ip_H) (K : Option Value → ip_H → Prop) (x : Int32) : ip_wp X 25 214 ls [.int x] M K = K (some (.int x)) M := wp_iret ((ip_a25 214).trans (ip_f25_4 (k := 9) rfl))
theorem ip_a26 (pc : Nat) : ip_at 26 pc = ip_c26.lookup pc := rfl
theorem ip_s26 : lk_s 0 ip_c26 = true := by decide +kernel
theorem ip_l26_0 : ip_d26_0.length = 24 := rfl
theorem ip_l26_1 : ip_d26_1.length = 24 := rfl
theorem ip_f26_0 {k pc : Nat} {e : ip_E} (h : ip_d26_0[k]? = some (pc, e)) : ip_c26.lookup pc = some e := lk_of ip_s26 (lk_apl h)
theorem ip_f26_1 {k pc : Nat} {e : ip_E} (h : ip_d26_1[k]? = some (pc, e)) : ip_c26.lookup pc = some e := lk_of ip_s26 (lk_app ip_l26_0 (lk_apl h))
theorem ip_f26_2 {k pc : Nat} {e : ip_E} (h : ip_d26_2[k]? = some (pc, e)) : ip_c26.lookup pc = some e := lk_of ip_s26 (lk_app ip_l26_0 (lk_app ip_l26_1 h))
theorem w26_0 (X : ip_X) (ls st : List Value) (M : ip_H) (K : Option Value → ip_H → Prop) : ip_wp X 26 0 ls st M K = ip_ka (ip_get ls 0) (fun x => ip_wp X 26 1 ls (x :: st) M K) := wp_aload_n ((ip_a26 0).trans (ip_f26_0 (k := 0) rfl))
theorem w26_1 (X : ip_X) (ls st : List Value) (M : ip_H) (K : Option Value → ip_H → Prop) : ip_wp X 26 1 ls st M K = ip_ka (ip_get ls 0) (fun x => ip_wp X 26 2 ls (x :: st) M K) := wp_aload_n ((ip_a26 1).trans (ip_f26_0 (k := 1) rfl))
theorem w26_2 (X : ip_X) (ls st : List Value) (M : ip_H) (K : Option Value → ip_H → Prop) (k : Nat) (h0 : (ip_sh M k).1 = 0) (h1 : (ip_sh M k).2.1 = 1) : ip_wp X 26 2 ls (.ref k :: st) M K = ip_wp X 26 5 ls (.int (M.2.1 k 4) :: st) M K := (wp_getI ((ip_a26 2).trans (ip_f26_0 (k := 2) rfl))).trans (if_pos ⟨h0, h1⟩)
theorem w26_5 (X : ip_X) (ls st : List Value) (M : ip_H) (K : Option Value → ip_H → Prop) : ip_wp X 26 5 ls st M K = ip_wp X 26 6 ls (.int 0 :: st) M K := wp_iconst ((ip_a26 5).trans (ip_f26_0 (k := 3) rfl))
theorem w26_6 (X : ip_X) (ls st : List Value) (M : ip_H) (K : Option Value → ip_H → Prop) : ip_wp X 26 6 ls st M K = ip_ka (ip_get ls 0) (fun x => ip_wp X 26 7 ls (x :: st) M K) := wp_aload_n ((ip_a26 6).trans (ip_f26_0 (k := 4) rfl))
theorem w26_7 (X : ip_X) (ls st : List Value) (M : ip_H) (K : Option Value → ip_H → Prop) (k : Nat) (h0 : (ip_sh M k).1 = 0) (h1 : (ip_sh M k).2.1 = 1) : ip_wp X 26 7 ls (.ref k :: st) M K = ip_wp X 26 10 ls (ip_vr (M.2.2.2 k 8) :: st) M K := (wp_getR ((ip_a26 7).trans (ip_f26_0 (k := 5) rfl))).trans (if_pos ⟨h0, h1⟩)
theorem w26_10 (X : ip_X) (ls st : List Value) (M : ip_H) (K : Option Value → ip_H → Prop) (k : Nat) (x0 : Int32) (x1 : Int32) (x2 : Nat) (h0 : st.length ≤ 4) (h1 : (ip_sh M k).1 = 0) (h2 : (ip_sh M k).2.1 = 1) : ip_wp X 26 10 ls (.ref x2 :: .int x1 :: .int x0 :: .ref k :: st) M K = ip_wp X 16 0 [.ref k, .int x0, .int x1, .ref x2] [] M (fun r M1 => ip_wp X 26 13 ls (r.toList ++ st) M1 K) := (wp_callV1_4 ((ip_a26 10).trans (ip_f26_0 (k := 6) rfl)) ⟨h0, by exact Nat.le_of_ble_eq_true rfl, h1, h2⟩)
theorem w26_13 (X : ip_X) (ls st : List Value) (M : ip_H) (K : Option Value → ip_H → Prop) : ip_wp X 26 13 ls st M K = ip_ka (ip_get ls 0) (fun x => ip_wp X 26 14 ls (x :: st) M K) := wp_aload_n ((ip_a26 13).trans (ip_f26_0 (k := 7) rfl))
theorem w26_14 (X : ip_X) (ls st : List Value) (M : ip_H) (K : Option Value → ip_H → Prop) : ip_wp X 26 14 ls st M K = ip_ka (ip_get ls 0) (fun x => ip_wp X 26 15 ls (x :: st) M K) := wp_aload_n ((ip_a26 14).trans (ip_f26_0 (k := 8) rfl))
theorem w26_15 (X : ip_X) (ls st : List Value) (M : ip_H) (K : Option Value → ip_H → Prop) (k : Nat) (h0 : (ip_sh M k).1 = 0) (h1 : (ip_sh M k).2.1 = 1) : ip_wp X 26 15 ls (.ref k :: st) M K = ip_wp X 26 18 ls (.int (M.2.1 k 4) :: st) M K := (wp_getI ((ip_a26 15).trans (ip_f26_0 (k := 9) rfl))).trans (if_pos ⟨h0, h1⟩)
theorem w26_18 (X : ip_X) (ls st : List Value) (M : ip_H) (K : Option Value → ip_H → Prop) : ip_wp X 26 18 ls st M K = ip_wp X 26 19 ls (.int 1 :: st) M K := wp_iconst ((ip_a26 18).trans (ip_f26_0 (k := 10) rfl))
theorem w26_19 (X : ip_X) (ls st : List Value) (M : ip_H) (K : Option Value → ip_H → Prop) : ip_wp X 26 19 ls st M K = ip_ka (ip_get ls 0) (fun x => ip_wp X 26 20 ls (x :: st) M K) := wp_aload_n ((ip_a26 19).trans (ip_f26_0 (k := 11) rfl))
theorem w26_20 (X : ip_X) (ls st : List Value) (M : ip_H) (K : Option Value → ip_H → Prop) (k : Nat) (h0 : (ip_sh M k).1 = 0) (h1 : (ip_sh M k).2.1 = 1) : ip_wp X 26 20 ls (.ref k :: st) M K = ip_wp X 26 23 ls (ip_vr (M.2.2.2 k 9) :: st) M K := (wp_getR ((ip_a26 20).trans (ip_f26_0 (k := 12) rfl))).trans (if_pos ⟨h0, h1⟩)
theorem w26_23 (X : ip_X) (ls st : List Value) (M : ip_H) (K : Option Value → ip_H → Prop) (k : Nat) (x0 : Int32) (x1 : Int32) (x2 : Nat) (h0 : st.length ≤ 4) (h1 : (ip_sh M k).1 = 0) (h2 : (ip_sh M k).2.1 = 1) : ip_wp X 26 23 ls (.ref x2 :: .int x1 :: .int x0 :: .ref k :: st) M K = ip_wp X 16 0 [.ref k, .int x0, .int x1, .ref x2] [] M (fun r M1 => ip_wp X 26 26 ls (r.toList ++ st) M1 K) := (wp_callV1_4 ((ip_a26 23).trans (ip_f26_0 (k := 13) rfl)) ⟨h0, by exact Nat.le_of_ble_eq_true rfl, h1, h2⟩)
theorem w26_26 (X : ip_X) (ls st : List Value) (M : ip_H) (K : Option Value → ip_H → Prop) : ip_wp X 26 26 ls st M K = ip_ka (ip_get ls 0) (fun x => ip_wp X 26 27 ls (x :: st) M K) := wp_aload_n ((ip_a26 26).trans (ip_f26_0 (k := 14) rfl))
theorem w26_27 (X : ip_X) (ls st : List Value) (M : ip_H) (K : Option Value → ip_H → Prop) (k : Nat) (h0 : (ip_sh M k).1 = 0) (h1 : (ip_sh M k).2.1 = 1) : ip_wp X 26 27 ls (.ref k :: st) M K = ip_wp X 26 30 ls (ip_vr (M.2.2.2 k 8) :: st) M K := (wp_getR ((ip_a26 27).trans (ip_f26_0 (k := 15) rfl))).trans (if_pos ⟨h0, h1⟩)
theorem w26_30 (X : ip_X) (ls st : List Value) (M : ip_H) (K : Option Value → ip_H → Prop) : ip_wp X 26 30 ls st M K = ip_ka (ip_get ls 0) (fun x => ip_wp X 26 31 ls (x :: st) M K) := wp_aload_n ((ip_a26 30).trans (ip_f26_0 (k := 16) rfl))
theorem w26_31 (X : ip_X) (ls st : List Value) (M : ip_H) (K : Option Value → ip_H → Prop) : ip_wp X 26 31 ls st M K = ip_ka (ip_get ls 0) (fun x => ip_wp X 26 32 ls (x :: st) M K) := wp_aload_n ((ip_a26 31).trans (ip_f26_0 (k := 17) rfl))
theorem w26_32 (X : ip_X) (ls st : List Value) (M : ip_H) (K : Option Value → ip_H → Prop) (k : Nat) (h0 : (ip_sh M k).1 = 0) (h1 : (ip_sh M k).2.1 = 1) : ip_wp X 26 32 ls (.ref k :: st) M K = ip_wp X 26 35 ls (.int (M.2.1 k 4) :: st) M K := (wp_getI ((ip_a26 32).trans (ip_f26_0 (k := 18) rfl))).trans (if_pos ⟨h0, h1⟩)
theorem w26_35 (X : ip_X) (ls st : List Value) (M : ip_H) (K : Option Value → ip_H → Prop) : ip_wp X 26 35 ls st M K = ip_wp X 26 36 ls (.int 0 :: st) M K := wp_iconst ((ip_a26 35).trans (ip_f26_0 (k := 19) rfl))
theorem w26_36 (X : ip_X) (ls st : List Value) (M : ip_H) (K : Option Value → ip_H → Prop) (k : Nat) (x0 : Int32) (x1 : Int32) (h0 : st.length ≤ 4) (h1 : (ip_sh M k).1 = 0) (h2 : (ip_sh M k).2.1 = 1) : ip_wp X 26 36 ls (.int x1 :: .int x0 :: .ref k :: st) M K = ip_wp X 15 0 [.ref k, .int x0, .int x1] [] M (fun r M1 => ip_wp X 26 39 ls (r.toList ++ st) M1 K) := (wp_callV1_3 ((ip_a26 36).trans (ip_f26_0 (k := 20) rfl)) ⟨h0, by exact Nat.le_of_ble_eq_true rfl, h1, h2⟩)
theorem w26_39 (X : ip_X) (ls st : List Value) (M : ip_H) (K : Option Value → ip_H → Prop) (x : Int32) : ip_wp X 26 39 ls (.int x :: st) M K = ip_wp X 26 40 ls (.long (x.toInt64) :: st) M K := wp_i2l ((ip_a26 39).trans (ip_f26_0 (k := 21) rfl))
theorem w26_40 (X : ip_X) (ls st : List Value) (M : ip_H) (K : Option Value → ip_H → Prop) (k : Nat) (x0 : Int64) (h0 : st.length ≤ 4) (h1 : (ip_sh M k).1 = 0) (h2 : (ip_sh M k).2.1 = 8) : ip_wp X 26 40 ls (.long x0 :: .ref k :: st) M K = ip_wp X 98 0 [.ref k, .long x0, .retAddr 1] [] M (fun r M1 => ip_wp X 26 43 ls (r.toList ++ st) M1 K) := (wp_callV1_2 ((ip_a26 40).trans (ip_f26_0 (k := 22) rfl)) ⟨h0, by exact Nat.le_of_ble_eq_true rfl, h1, h2⟩)
theorem w26_43 (X : ip_X) (ls st : List Value) (M : ip_H) (K : Option Value → ip_H → Prop) : ip_wp X 26 43 ls st M K = ip_ka (ip_get ls 0) (fun x => ip_wp X 26 44 ls (x :: st) M K) := wp_aload_n ((ip_a26 43).trans (ip_f26_0 (k := 23) rfl))
theorem w26_44 (X : ip_X) (ls st : List Value) (M : ip_H) (K : Option Value → ip_H → Prop) (k : Nat) (h0 : (ip_sh M k).1 = 0) (h1 : (ip_sh M k).2.1 = 1) : ip_wp X 26 44 ls (.ref k :: st) M K = ip_wp X 26 47 ls (ip_vr (M.2.2.2 k 9) :: st) M K := (wp_getR ((ip_a26 44).trans (ip_f26_1 (k := 0) rfl))).trans (if_pos ⟨h0, h1⟩)
theorem w26_47 (X : ip_X) (ls st : List Value) (M : ip_H) (K : Option Value → ip_H → Prop) : ip_wp X 26 47 ls st M K = ip_ka (ip_get ls 0) (fun x => ip_wp X 26 48 ls (x :: st) M K) := wp_aload_n ((ip_a26 47).trans (ip_f26_1 (k := 1) rfl))
theorem w26_48 (X : ip_X) (ls st : List Value) (M : ip_H) (K : Option Value → ip_H → Prop) : ip_wp X 26 48 ls st M K = ip_ka (ip_get ls 0) (fun x => ip_wp X 26 49 ls (x :: st) M K) := wp_aload_n ((ip_a26 48).trans (ip_f26_1 (k := 2) rfl))
theorem w26_49 (X : ip_X) (ls st : List Value) (M : ip_H) (K : Option Value → ip_H → Prop) (k : Nat) (h0 : (ip_sh M k).1 = 0) (h1 : (ip_sh M k).2.1 = 1) : ip_wp X 26 49 ls (.ref k :: st) M K = ip_wp X 26 52 ls (.int (M.2.1 k 4) :: st) M K := (wp_getI ((ip_a26 49).trans (ip_f26_1 (k := 3) rfl))).trans (if_pos ⟨h0, h1⟩)
theorem w26_52 (X : ip_X) (ls st : List Value) (M : ip_H) (K : Option Value → ip_H → Prop) : ip_wp X 26 52 ls st M K = ip_wp X 26 53 ls (.int 1 :: st) M K := wp_iconst ((ip_a26 52).trans (ip_f26_1 (k := 4) rfl))
theorem w26_53 (X : ip_X) (ls st : List Value) (M : ip_H) (K : Option Value → ip_H → Prop) (k : Nat) (x0 : Int32) (x1 : Int32) (h0 : st.length ≤ 4) (h1 : (ip_sh M k).1 = 0) (h2 : (ip_sh M k).2.1 = 1) : ip_wp X 26 53 ls (.int x1 :: .int x0 :: .ref k :: st) M K = ip_wp X 15 0 [.ref k, .int x0, .int x1] [] M (fun r M1 => ip_wp X 26 56 ls (r.toList ++ st) M1 K) := (wp_callV1_3 ((ip_a26 53).trans (ip_f26_1 (k := 5) rfl)) ⟨h0, by exact Nat.le_of_ble_eq_true rfl, h1, h2⟩)
theorem w26_56 (X : ip_X) (ls st : List Value) (M : ip_H) (K : Option Value → ip_H → Prop) (x : Int32) : ip_wp X 26 56 ls (.int x :: st) M K = ip_wp X 26 57 ls (.long (x.toInt64) :: st) M K := wp_i2l ((ip_a26 56).trans (ip_f26_1 (k := 6) rfl))
theorem w26_57 (X : ip_X) (ls st : List Value) (M : ip_H) (K : Option Value → ip_H → Prop) (k : Nat) (x0 : Int64) (h0 : st.length ≤ 4) (h1 : (ip_sh M k).1 = 0) (h2 : (ip_sh M k).2.1 = 8) : ip_wp X 26 57 ls (.long x0 :: .ref k :: st) M K = ip_wp X 98 0 [.ref k, .long x0, .retAddr 1] [] M (fun r M1 => ip_wp X 26 60 ls (r.toList ++ st) M1 K) := (wp_callV1_2 ((ip_a26 57).trans (ip_f26_1 (k := 7) rfl)) ⟨h0, by exact Nat.le_of_ble_eq_true rfl, h1, h2⟩)
theorem w26_60 (X : ip_X) (ls st : List Value) (M : ip_H) (K : Option Value → ip_H → Prop) : ip_wp X 26 60 ls st M K = ip_ka (ip_get ls 0) (fun x => ip_wp X 26 61 ls (x :: st) M K) := wp_aload_n ((ip_a26 60).trans (ip_f26_1 (k := 8) rfl))
theorem w26_61 (X : ip_X) (ls st : List Value) (M : ip_H) (K : Option Value → ip_H → Prop) : ip_wp X 26 61 ls st M K = ip_ka (ip_get ls 0) (fun x => ip_wp X 26 62 ls (x :: st) M K) := wp_aload_n ((ip_a26 61).trans (ip_f26_1 (k := 9) rfl))
theorem w26_62 (X : ip_X) (ls st : List Value) (M : ip_H) (K : Option Value → ip_H → Prop) (k : Nat) (h0 : (ip_sh M k).1 = 0) (h1 : (ip_sh M k).2.1 = 1) : ip_wp X 26 62 ls (.ref k :: st) M K = ip_wp X 26 65 ls (.int (M.2.1 k 3) :: st) M K := (wp_getI ((ip_a26 62).trans (ip_f26_1 (k := 10) rfl))).trans (if_pos ⟨h0, h1⟩)
theorem w26_65 (X : ip_X) (ls st : List Value) (M : ip_H) (K : Option Value → ip_H → Prop) : ip_wp X 26 65 ls st M K = ip_wp X 26 66 ls (.int 1 :: st) M K := wp_iconst ((ip_a26 65).trans (ip_f26_1 (k := 11) rfl))
theorem w26_66 (X : ip_X) (ls st : List Value) (M : ip_H) (K : Option Value → ip_H → Prop) (x q : Int32) : ip_wp X 26 66 ls (.int q :: .int x :: st) M K = if x = q then ip_wp X 26 69 ls st M K else ip_wp X 26 88 ls st M K := wp_if_icmp_ne ((ip_a26 66).trans (ip_f26_1 (k := 12) rfl))
theorem w26_69 (X : ip_X) (ls st : List Value) (M : ip_H) (K : Option Value → ip_H → Prop) : ip_wp X 26 69 ls st M K = ip_ka (ip_get ls 1) (fun x => ip_wp X 26 70 ls (x :: st) M K) := wp_aload_n ((ip_a26 69).trans (ip_f26_1 (k := 13) rfl))
theorem w26_70 (X : ip_X) (ls st : List Value) (M : ip_H) (K : Option Value → ip_H → Prop) : ip_wp X 26 70 ls st M K = ip_ka (ip_get ls 0) (fun x => ip_wp X 26 71 ls (x :: st) M K) := wp_aload_n ((ip_a26 70).trans (ip_f26_1 (k := 14) rfl))
theorem w26_71 (X : ip_X) (ls st : List Value) (M : ip_H) (K : Option Value → ip_H → Prop) (k : Nat) (h0 : (ip_sh M k).1 = 0) (h1 : (ip_sh M k).2.1 = 1) : ip_wp X 26 71 ls (.ref k :: st) M K = ip_wp X 26 74 ls (ip_vr (M.2.2.2 k 8) :: st) M K := (wp_getR ((ip_a26 71).trans (ip_f26_1 (k := 15) rfl))).trans (if_pos ⟨h0, h1⟩)
theorem w26_74 (X : ip_X) (ls st : List Value) (M : ip_H) (K : Option Value → ip_H → Prop) : ip_wp X 26 74 ls st M K = ip_ka (ip_get ls 0) (fun x => ip_wp X 26 75 ls (x :: st) M K) := wp_aload_n ((ip_a26 74).trans (ip_f26_1 (k := 16) rfl))
theorem w26_75 (X : ip_X) (ls st : List Value) (M : ip_H) (K : Option Value → ip_H → Prop) (k : Nat) (h0 : (ip_sh M k).1 = 0) (h1 : (ip_sh M k).2.1 = 1) : ip_wp X 26 75 ls (.ref k :: st) M K = ip_wp X 26 78 ls (ip_vr (M.2.2.2 k 9) :: st) M K := (wp_getR ((ip_a26 75).trans (ip_f26_1 (k := 17) rfl))).trans (if_pos ⟨h0, h1⟩)
theorem w26_78 (X : ip_X) (ls st : List Value) (M : ip_H) (K : Option Value → ip_H → Prop) (k : Nat) (x0 : Nat) (x1 : Nat) (h0 : st.length ≤ 4) (h1 : (ip_sh M k).1 = 0) (h2 : (ip_sh M k).2.1 = 2) : ip_wp X 26 78 ls (.ref x1 :: .ref x0 :: .ref k :: st) M K = ip_wp X 48 0 [.ref k, .ref x0, .ref x1] [] M (fun r M1 => ip_wp X 26 81 ls (r.toList ++ st) M1 K) := (wp_callV1_3 ((ip_a26 78).trans (ip_f26_1 (k := 18) rfl)) ⟨h0, by exact Nat.le_of_ble_eq_true rfl, h1, h2⟩)
theorem w26_81 (X : ip_X) (ls st : List Value) (M : ip_H) (K : Option Value → ip_H → Prop) (x : Int32) : ip_wp X 26 81 ls (.int x :: st) M K = if x < 0 then ip_wp X 26 84 ls st M K else ip_wp X 26 88 ls st M K := wp_ifCond_ge ((ip_a26 81).trans (ip_f26_1 (k := 19) rfl))
theorem w26_84 (X : ip_X) (ls st : List Value) (M : ip_H) (K : Option Value → ip_H → Prop) : ip_wp X 26 84 ls st M K = ip_wp X 26 85 ls (.int 1 :: st) M K := wp_iconst ((ip_a26 84).trans (ip_f26_1 (k := 20) rfl))
theorem w26_85 (X : ip_X) (ls st : List Value) (M : ip_H) (K : Option Value → ip_H → Prop) : ip_wp X 26 85 ls st M K = ip_wp X 26 89 ls st M K := wp_goto ((ip_a26 85).trans (ip_f26_1 (k := 21) rfl))
theorem w26_88 (X : ip_X) (ls st : List Value) (M : ip_H) (K : Option Value → ip_H → Prop) : ip_wp X 26 88 ls st M K = ip_wp X 26 89 ls (.int 0 :: st) M K := wp_iconst ((ip_a26 88).trans (ip_f26_1 (k := 22) rfl))
theorem w26_89 (X : ip_X) (ls st : List Value) (M : ip_H) (K : Option Value → ip_H → Prop) (k : Nat) (x : Int32) (h0 : (ip_sh M k).1 = 0) (h1 : (ip_sh M k).2.1 = 1) (h2 : x = 0 ∨ x = 1) : ip_wp X 26 89 ls (.int x :: .ref k :: st) M K = ip_wp X 26 92 ls st (ip_uI M k 14 x) K := (wp_putZ ((ip_a26 89).trans (ip_f26_1 (k := 23) rfl))).trans (if_pos ⟨h0, h1, h2⟩)
theorem w26_92 (X : ip_X) (ls st : List Value) (M : ip_H) (K : Option Value → ip_H → Prop) : ip_wp X 26 92 ls st M K = ip_ka (ip_get ls 0) (fun x => ip_wp X 26 93 ls (x :: st) M K) := wp_aload_n ((ip_a26 92).trans (ip_f26_2 (k := 0) rfl))
theorem w26_93 (X : ip_X) (ls st : List Value) (M : ip_H) (K : Option Value → ip_H → Prop) (k : Nat) (h0 : (ip_sh M k).1 = 0) (h1 : (ip_sh M k).2.1 = 1) : ip_wp X 26 93 ls (.ref k :: st) M K = ip_wp X 26 96 ls (.int (M.2.1 k 14) :: st) M K := (wp_getZ ((ip_a26 93).trans (ip_f26_2 (k := 1) rfl))).trans (if_pos ⟨h0, h1⟩)
theorem w26_96 (X : ip_X) (ls st : List Value) (M : ip_H) (K : Option Value → ip_H → Prop) (x : Int32) : ip_wp X 26 96 ls (.int x :: st) M K = if x = 0 then ip_wp X 26 99 ls st M K else ip_wp X 26 100 ls st M K := wp_ifCond_ne ((ip_a26 96).trans (ip_f26_2 (k := 2) rfl))
theorem w26_99 (X : ip_X) (ls : List Value) (M : ip_H) (K : Option Value → ip_H → Prop) : ip_wp X 26 99 ls [] M K = K none M := wp_vret ((ip_a26 99).trans (ip_f26_2 (k := 3) rfl))
theorem w26_100 (X : ip_X) (ls st : List Value) (M : ip_H) (K : Option Value → ip_H → Prop) : ip_wp X 26 100 ls st M K = ip_ka (ip_get ls 0) (fun x => ip_wp X 26 101 ls (x :: st) M K) := wp_aload_n ((ip_a26 100).trans (ip_f26_2 (k := 4) rfl))
theorem w26_101 (X : ip_X) (ls st : List Value) (M : ip_H) (K : Option Value → ip_H → Prop) (k : Nat) (h0 : (ip_sh M k).1 = 0) (h1 : (ip_sh M k).2.1 = 1) : ip_wp X 26 101 ls (.ref k :: st) M K = ip_wp X 26 104 ls (ip_vr (M.2.2.2 k 10) :: st) M K := (wp_getR ((ip_a26 101).trans (ip_f26_2 (k := 5) rfl))).trans (if_pos ⟨h0, h1⟩)
theorem w26_104 (X : ip_X) (ls st : List Value) (M : ip_H) (K : Option Value → ip_H → Prop) : ip_wp X 26 104 ls st M K = ip_ka (ip_get ls 0) (fun x => ip_wp X 26 105 ls (x :: st) M K) := wp_aload_n ((ip_a26 104).trans (ip_f26_2 (k := 6) rfl))
theorem w26_105 (X : ip_X) (ls st : List Value) (M : ip_H) (K : Option Value → ip_H → Prop) (k : Nat) (h0 : (ip_sh M k).1 = 0) (h1 : (ip_sh M k).2.1 = 1) : ip_wp X 26 105 ls (.ref k :: st) M K = ip_wp X 26 108 ls (ip_vr (M.2.2.2 k 8) :: st) M K := (wp_getR ((ip_a26 105).trans (ip_f26_2 (k := 7) rfl))).trans (if_pos ⟨h0, h1⟩)
theorem w26_108 (X : ip_X) (ls st : List Value) (M : ip_H) (K : Option Value → ip_H → Prop) (k : Nat) (x0 : Nat) (h0 : st.length ≤ 4) (h1 : (ip_sh M k).1 = 0) (h2 : (ip_sh M k).2.1 = 8) : ip_wp X 26 108 ls (.ref x0 :: .ref k :: st) M K = ip_wp X 95 0 [.ref k, .ref x0] [] M (fun r M1 => ip_wp X 26 111 ls (r.toList ++ st) M1 K) := (wp_callV1_2 ((ip_a26 108).trans (ip_f26_2 (k := 8) rfl)) ⟨h0, by exact Nat.le_of_ble_eq_true rfl, h1, h2⟩)
theorem w26_111 (X : ip_X) (ls st : List Value) (M : ip_H) (K : Option Value → ip_H → Prop) : ip_wp X 26 111 ls st M K = ip_ka (ip_get ls 0) (fun x => ip_wp X 26 112 ls (x :: st) M K) := wp_aload_n ((ip_a26 111).trans (ip_f26_2 (k := 9) rfl))
theorem w26_112 (X : ip_X) (ls st : List Value) (M : ip_H) (K : Option Value → ip_H → Prop) (k : Nat) (h0 : (ip_sh M k).1 = 0) (h1 : (ip_sh M k).2.1 = 1) : ip_wp X 26 112 ls (.ref k :: st) M K = ip_wp X 26 115 ls (ip_vr (M.2.2.2 k 8) :: st) M K := (wp_getR ((ip_a26 112).trans (ip_f26_2 (k := 10) rfl))).trans (if_pos ⟨h0, h1⟩)
theorem w26_115 (X : ip_X) (ls st : List Value) (M : ip_H) (K : Option Value → ip_H → Prop) : ip_wp X 26 115 ls st M K = ip_ka (ip_get ls 0) (fun x => ip_wp X 26 116 ls (x :: st) M K) := wp_aload_n ((ip_a26 115).trans (ip_f26_2 (k := 11) rfl))
theorem w26_116 (X : ip_X) (ls st : List Value) (M : ip_H) (K : Option Value → ip_H → Prop) (k : Nat) (h0 : (ip_sh M k).1 = 0) (h1 : (ip_sh M k).2.1 = 1) : ip_wp X 26 116 ls (.ref k :: st) M K = ip_wp X 26 119 ls (ip_vr (M.2.2.2 k 9) :: st) M K := (wp_getR ((ip_a26 116).trans (ip_f26_2 (k := 12) rfl))).trans (if_pos ⟨h0, h1⟩)
theorem w26_119 (X : ip_X) (ls st : List Value) (M : ip_H) (K : Option Value → ip_H → Prop) (k : Nat) (x0 : Nat) (h0 : st.length ≤ 4) (h1 : (ip_sh M k).1 = 0) (h2 : (ip_sh M k).2.1 = 8) : ip_wp X 26 119 ls (.ref x0 :: .ref k :: st) M K = ip_wp X 95 0 [.ref k, .ref x0] [] M (fun r M1 => ip_wp X 26 122 ls (r.toList ++ st) M1 K) := (wp_callV1_2 ((ip_a26 119).trans (ip_f26_2 (k := 13) rfl)) ⟨h0, by exact Nat.le_of_ble_eq_true rfl, h1, h2⟩)
theorem w26_122 (X : ip_X) (ls st : List Value) (M : ip_H) (K : Option Value → ip_H → Prop) : ip_wp X 26 122 ls st M K = ip_ka (ip_get ls 0) (fun x => ip_wp X 26 123 ls (x :: st) M K) := wp_aload_n ((ip_a26 122).trans (ip_f26_2 (k := 14) rfl))
theorem w26_123 (X : ip_X) (ls st : List Value) (M : ip_H) (K : Option Value → ip_H → Prop) (k : Nat) (h0 : (ip_sh M k).1 = 0) (h1 : (ip_sh M k).2.1 = 1) : ip_wp X 26 123 ls (.ref k :: st) M K = ip_wp X 26 126 ls (ip_vr (M.2.2.2 k 9) :: st) M K := (wp_getR ((ip_a26 123).trans (ip_f26_2 (k := 15) rfl))).trans (if_pos ⟨h0, h1⟩)
theorem w26_126 (X : ip_X) (ls st : List Value) (M : ip_H) (K : Option Value → ip_H → Prop) : ip_wp X 26 126 ls st M K = ip_ka (ip_get ls 0) (fun x => ip_wp X 26 127 ls (x :: st) M K) := wp_aload_n ((ip_a26 126).trans (ip_f26_2 (k := 16) rfl))
theorem w26_127 (X : ip_X) (ls st : List Value) (M : ip_H) (K : Option Value → ip_H → Prop) (k : Nat) (h0 : (ip_sh M k).1 = 0) (h1 : (ip_sh M k).2.1 = 1) : ip_wp X 26 127 ls (.ref k :: st) M K = ip_wp X 26 130 ls (ip_vr (M.2.2.2 k 10) :: st) M K := (wp_getR ((ip_a26 127).trans (ip_f26_2 (k := 17) rfl))).trans (if_pos ⟨h0, h1⟩)
theorem w26_130 (X : ip_X) (ls st : List Value) (M : ip_H) (K : Option Value → ip_H → Prop) (k : Nat) (x0 : Nat) (h0 : st.length ≤ 4) (h1 : (ip_sh M k).1 = 0) (h2 : (ip_sh M k).2.1 = 8) : ip_wp X 26 130 ls (.ref x0 :: .ref k :: st) M K = ip_wp X 95 0 [.ref k, .ref x0] [] M (fun r M1 => ip_wp X 26 133 ls (r.toList ++ st) M1 K) := (wp_callV1_2 ((ip_a26 130).trans (ip_f26_2 (k := 18) rfl)) ⟨h0, by exact Nat.le_of_ble_eq_true rfl, h1, h2⟩)
theorem w26_133 (X : ip_X) (ls : List Value) (M : ip_H) (K : Option Value → ip_H → Prop) : ip_wp X 26 133 ls [] M K = K none M := wp_vret ((ip_a26 133).trans (ip_f26_2 (k := 19) rfl))
theorem ip_a27 (pc : Nat) : ip_at 27 pc = ip_c27.lookup pc := rfl
theorem ip_s27 : lk_s 0 ip_c27 = true := by decide +kernel
theorem ip_l27_0 : ip_d27_0.length = 24 := rfl
theorem ip_f27_0 {k pc : Nat} {e : ip_E} (h : ip_d27_0[k]? = some (pc, e)) : ip_c27.lookup pc = some e := lk_of ip_s27 (lk_apl h)
theorem ip_f27_1 {k pc : Nat} {e : ip_E} (h : ip_d27_1[k]? = some (pc, e)) : ip_c27.lookup pc = some e := lk_of ip_s27 (lk_app ip_l27_0 h)
theorem w27_0 (X : ip_X) (ls st : List Value) (M : ip_H) (K : Option Value → ip_H → Prop) : ip_wp X 27 0 ls st M K = ip_ka (ip_get ls 0) (fun x => ip_wp X 27 1 ls (x :: st) M K) := wp_aload_n ((ip_a27 0).trans (ip_f27_0 (k := 0) rfl))
theorem w27_1 (X : ip_X) (ls st : List Value) (M : ip_H) (K : Option Value → ip_H → Prop) (k : Nat) (h0 : (ip_sh M k).1 = 0) (h1 : (ip_sh M k).2.1 = 1) : ip_wp X 27 1 ls (.ref k :: st) M K = ip_wp X 27 4 ls (.int (M.2.1 k 4) :: st) M K := (wp_getI ((ip_a27 1).trans (ip_f27_0 (k := 1) rfl))).trans (if_pos ⟨h0, h1⟩)
theorem w27_4 (X : ip_X) (ls st : List Value) (M : ip_H) (K : Option Value → ip_H → Prop) : ip_wp X 27 4 ls st M K = ip_wp X 27 6 ls (.int 60 :: st) M K := wp_bipush ((ip_a27 4).trans (ip_f27_0 (k := 2) rfl))
theorem w27_6 (X : ip_X) (ls st : List Value) (M : ip_H) (K : Option Value → ip_H → Prop) (x q : Int32) : ip_wp X 27 6 ls (.int q :: .int x :: st) M K = if x < q then ip_wp X 27 10 ls st M K else ip_wp X 27 9 ls st M K := wp_if_icmp_lt ((ip_a27 6).trans (ip_f27_0 (k := 3) rfl))
theorem w27_10 (X : ip_X) (ls st : List Value) (M : ip_H) (K : Option Value → ip_H → Prop) : ip_wp X 27 10 ls st M K = ip_ka (ip_get ls 0) (fun x => ip_wp X 27 11 ls (x :: st) M K) := wp_aload_n ((ip_a27 10).trans (ip_f27_0 (k := 5) rfl))
theorem w27_11_r (X : ip_X) (ls st : List Value) (M : ip_H) (K : Option Value → ip_H → Prop) (x : Nat) : ip_wp X 27 11 ls (.ref x :: st) M K = ip_wp X 27 12 ls (.ref x :: .ref x :: st) M K := wp_dup_r ((ip_a27 11).trans (ip_f27_0 (k := 6) rfl))
theorem w27_12 (X : ip_X) (ls st : List Value) (M : ip_H) (K : Option Value → ip_H → Prop) (k : Nat) (h0 : (ip_sh M k).1 = 0) (h1 : (ip_sh M k).2.1 = 1) : ip_wp X 27 12 ls (.ref k :: st) M K = ip_wp X 27 15 ls (.int (M.2.1 k 4) :: st) M K := (wp_getI ((ip_a27 12).trans (ip_f27_0 (k := 7) rfl))).trans (if_pos ⟨h0, h1⟩)
theorem w27_15 (X : ip_X) (ls st : List Value) (M : ip_H) (K : Option Value → ip_H → Prop) : ip_wp X 27 15 ls st M K = ip_wp X 27 16 ls (.int 1 :: st) M K := wp_iconst ((ip_a27 15).trans (ip_f27_0 (k := 8) rfl))
theorem w27_16 (X : ip_X) (ls st : List Value) (M : ip_H) (K : Option Value → ip_H → Prop) (x q : Int32) : ip_wp X 27 16 ls (.int q :: .int x :: st) M K = ip_wp X 27 17 ls (.int (x + q) :: st) M K := wp_iadd ((ip_a27 16).trans (ip_f27_0 (k := 9) rfl))
theorem w27_17 (X : ip_X) (ls st : List Value) (M : ip_H) (K : Option Value → ip_H → Prop) (k : Nat) (x : Int32) (h0 : (ip_sh M k).1 = 0) (h1 : (ip_sh M k).2.1 = 1) : ip_wp X 27 17 ls (.int x :: .ref k :: st) M K = ip_wp X 27 20 ls st (ip_uI M k 4 x) K := (wp_putI ((ip_a27 17).trans (ip_f27_0 (k := 10) rfl))).trans (if_pos ⟨h0, h1⟩)
theorem w27_20 (X : ip_X) (ls st : List Value) (M : ip_H) (K : Option Value → ip_H → Prop) : ip_wp X 27 20 ls st M K = ip_ka (ip_get ls 0) (fun x => ip_wp X 27 21 ls (x :: st) M K) := wp_aload_n ((ip_a27 20).trans (ip_f27_0 (k := 11) rfl))
theorem w27_21 (X : ip_X) (ls st : List Value) (M : ip_H) (K : Option Value → ip_H → Prop) (k : Nat) (h0 : (ip_sh M k).1 = 0) (h1 : (ip_sh M k).2.1 = 1) : ip_wp X 27 21 ls (.ref k :: st) M K = ip_wp X 27 24 ls (ip_vr (M.2.2.2 k 1) :: st) M K := (wp_getR ((ip_a27 21).trans (ip_f27_0 (k := 12) rfl))).trans (if_pos ⟨h0, h1⟩)
theorem w27_24 (X : ip_X) (ls st : List Value) (M : ip_H) (K : Option Value → ip_H → Prop) : ip_wp X 27 24 ls st M K = ip_ka (ip_get ls 0) (fun x => ip_wp X 27 25 ls (x :: st) M K) := wp_aload_n ((ip_a27 24).trans (ip_f27_0 (k := 13) rfl))
theorem w27_25 (X : ip_X) (ls st : List Value) (M : ip_H) (K : Option Value → ip_H → Prop) (k : Nat) (h0 : (ip_sh M k).1 = 0) (h1 : (ip_sh M k).2.1 = 1) : ip_wp X 27 25 ls (.ref k :: st) M K = ip_wp X 27 28 ls (.int (M.2.1 k 4) :: st) M K := (wp_getI ((ip_a27 25).trans (ip_f27_0 (k := 14) rfl))).trans (if_pos ⟨h0, h1⟩)
theorem w27_28 (X : ip_X) (ls st : List Value) (M : ip_H) (K : Option Value → ip_H → Prop) : ip_wp X 27 28 ls st M K = ip_ka (ip_get ls 0) (fun x => ip_wp X 27 29 ls (x :: st) M K) := wp_aload_n ((ip_a27 28).trans (ip_f27_0 (k := 15) rfl))
theorem w27_29 (X : ip_X) (ls st : List Value) (M : ip_H) (K : Option Value → ip_H → Prop) (k : Nat) (h0 : (ip_sh M k).1 = 0) (h1 : (ip_sh M k).2.1 = 1) : ip_wp X 27 29 ls (.ref k :: st) M K = ip_wp X 27 32 ls (.int (M.2.1 k 14) :: st) M K := (wp_getZ ((ip_a27 29).trans (ip_f27_0 (k := 16) rfl))).trans (if_pos ⟨h0, h1⟩)
theorem w27_32 (X : ip_X) (ls st : List Value) (M : ip_H) (K : Option Value → ip_H → Prop) (x : Int32) : ip_wp X 27 32 ls (.int x :: st) M K = if x = 0 then ip_wp X 27 39 ls st M K else ip_wp X 27 35 ls st M K := wp_ifCond_eq ((ip_a27 32).trans (ip_f27_0 (k := 17) rfl))
theorem w27_35 (X : ip_X) (ls st : List Value) (M : ip_H) (K : Option Value → ip_H → Prop) : ip_wp X 27 35 ls st M K = ip_wp X 27 36 ls (.int 1 :: st) M K := wp_iconst ((ip_a27 35).trans (ip_f27_0 (k := 18) rfl))
theorem w27_36 (X : ip_X) (ls st : List Value) (M : ip_H) (K : Option Value → ip_H → Prop) : ip_wp X 27 36 ls st M K = ip_wp X 27 40 ls st M K := wp_goto ((ip_a27 36).trans (ip_f27_0 (k := 19) rfl))
theorem w27_39 (X : ip_X) (ls st : List Value) (M : ip_H) (K : Option Value → ip_H → Prop) : ip_wp X 27 39 ls st M K = ip_wp X 27 40 ls (.int 0 :: st) M K := wp_iconst ((ip_a27 39).trans (ip_f27_0 (k := 20) rfl))
theorem w27_40 (X : ip_X) (ls st : List Value) (M : ip_H) (K : Option Value → ip_H → Prop) (x : Int32) : ip_wp X 27 40 ls (.int x :: st) M K = ip_wp X 27 41 ls (.int (x.toInt8.toInt32) :: st) M K := wp_i2b ((ip_a27 40).trans (ip_f27_0 (k := 21) rfl))
theorem w27_41 (X : ip_X) (ls st : List Value) (M : ip_H) (K : Option Value → ip_H → Prop) (i x : Int32) (k : Nat) (h0 : (ip_sh M k).1 = 1) (h1 : (ip_sh M k).2.1 = 2 ∨ (ip_sh M k).2.1 = 3) (h2 : ip_ix i (ip_sh M k).2.2 = true) : ip_wp X 27 41 ls (.int x :: .int i :: .ref k :: st) M K = ip_wp X 27 42 ls st (ip_uI M k i.toNatClampNeg (if (ip_sh M k).2.1 = 2 then x.toInt8.toInt32 else x &&& 1)) K := (wp_bastore ((ip_a27 41).trans (ip_f27_0 (k := 22) rfl))).trans (if_pos ⟨h0, h1, h2⟩)
theorem w27_42 (X : ip_X) (ls st : List Value) (M : ip_H) (K : Option Value → ip_H → Prop) : ip_wp X 27 42 ls st M K = ip_ka (ip_get ls 0) (fun x => ip_wp X 27 43 ls (x :: st) M K) := wp_aload_n ((ip_a27 42).trans (ip_f27_0 (k := 23) rfl))
theorem w27_43 (X : ip_X) (ls st : List Value) (M : ip_H) (K : Option Value → ip_H → Prop) (k : Nat) (h0 : st.length ≤ 4) (h1 : (ip_sh M k).1 = 0) (h2 : (ip_sh M k).2.1 = 1) : ip_wp X 27 43 ls (.ref k :: st) M K = ip_wp X 28 0 [.ref k, .retAddr 1] [] M (fun r M1 => ip_wp X 27 46 ls (r.toList ++ st) M1 K) := (wp_callV1_1 ((ip_a27 43).trans (ip_f27_1 (k := 0) rfl)) ⟨h0, by exact Nat.le_of_ble_eq_true rfl, h1, h2⟩)
theorem w27_46 (X : ip_X) (ls st : List Value) (M : ip_H) (K : Option Value → ip_H → Prop) : ip_wp X 27 46 ls st M K = ip_ka (ip_get ls 0) (fun x => ip_wp X 27 47 ls (x :: st) M K) := wp_aload_n ((ip_a27 46).trans (ip_f27_1 (k := 1) rfl))
theorem w27_47 (X : ip_X) (ls st : List Value) (M : ip_H) (K : Option Value → ip_H → Prop) (k : Nat) (h0 : (ip_sh M k).1 = 0) (h1 : (ip_sh M k).2.1 = 1) : ip_wp X 27 47 ls (.ref k :: st) M K = ip_wp X 27 50 ls (ip_vr (M.2.2.2 k 2) :: st) M K := (wp_getR ((ip_a27 47).trans (ip_f27_1 (k := 2) rfl))).trans (if_pos ⟨h0, h1⟩)
theorem w27_50 (X : ip_X) (ls st : List Value) (M : ip_H) (K : Option Value → ip_H → Prop) : ip_wp X 27 50 ls st M K = ip_ka (ip_get ls 0) (fun x => ip_wp X 27 51 ls (x :: st) M K) := wp_aload_n ((ip_a27 50).trans (ip_f27_1 (k := 3) rfl))
theorem w27_51 (X : ip_X) (ls st : List Value) (M : ip_H) (K : Option Value → ip_H → Prop) (k : Nat) (h0 : (ip_sh M k).1 = 0) (h1 : (ip_sh M k).2.1 = 1) : ip_wp X 27 51 ls (.ref k :: st) M K = ip_wp X 27 54 ls (ip_vr (M.2.2.2 k 7) :: st) M K := (wp_getR ((ip_a27 51).trans (ip_f27_1 (k := 4) rfl))).trans (if_pos ⟨h0, h1⟩)
theorem w27_54 (X : ip_X) (ls st : List Value) (M : ip_H) (K : Option Value → ip_H → Prop) (k : Nat) (x0 : Nat) (h0 : st.length ≤ 4) (h1 : (ip_sh M k).1 = 0) (h2 : (ip_sh M k).2.1 = 4) : ip_wp X 27 54 ls (.ref x0 :: .ref k :: st) M K = ip_wp X 65 0 [.ref k, .ref x0] [] M (fun r M1 => ip_wp X 27 57 ls (r.toList ++ st) M1 K) := (wp_callV1_2 ((ip_a27 54).trans (ip_f27_1 (k := 5) rfl)) ⟨h0, by exact Nat.le_of_ble_eq_true rfl, h1, h2⟩)
theorem w27_57 (X : ip_X) (ls st : List Value) (M : ip_H) (K : Option Value → ip_H → Prop) : ip_wp X 27 57 ls st M K = ip_ka (ip_get ls 0) (fun x => ip_wp X 27 58 ls (x :: st) M K) := wp_aload_n ((ip_a27 57).trans (ip_f27_1 (k := 6) rfl))
theorem w27_58 (X : ip_X) (ls st : List Value) (M : ip_H) (K : Option Value → ip_H → Prop) (k : Nat) (h0 : (ip_sh M k).1 = 0) (h1 : (ip_sh M k).2.1 = 1) : ip_wp X 27 58 ls (.ref k :: st) M K = ip_wp X 27 61 ls (.int (M.2.1 k 5) :: st) M K := (wp_getI ((ip_a27 58).trans (ip_f27_1 (k := 7) rfl))).trans (if_pos ⟨h0, h1⟩)
theorem w27_61 (X : ip_X) (ls st : List Value) (M : ip_H) (K : Option Value → ip_H → Prop) : ip_wp X 27 61 ls st M K = ip_wp X 27 62 ls (.int (-1) :: st) M K := wp_iconst ((ip_a27 61).trans (ip_f27_1 (k := 8) rfl))
theorem w27_62 (X : ip_X) (ls st : List Value) (M : ip_H) (K : Option Value → ip_H → Prop) (x q : Int32) : ip_wp X 27 62 ls (.int q :: .int x :: st) M K = if x = q then ip_wp X 27 65 ls st M K else ip_wp X 27 69 ls st M K := wp_if_icmp_ne ((ip_a27 62).trans (ip_f27_1 (k := 9) rfl))
theorem w27_65 (X : ip_X) (ls st : List Value) (M : ip_H) (K : Option Value → ip_H → Prop) : ip_wp X 27 65 ls st M K = ip_ka (ip_get ls 0) (fun x => ip_wp X 27 66 ls (x :: st) M K) := wp_aload_n ((ip_a27 65).trans (ip_f27_1 (k := 10) rfl))
theorem w27_66 (X : ip_X) (ls st : List Value) (M : ip_H) (K : Option Value → ip_H → Prop) (k : Nat) (h0 : st.length ≤ 4) (h1 : (ip_sh M k).1 = 0) (h2 : (ip_sh M k).2.1 = 1) : ip_wp X 27 66 ls (.ref k :: st) M K = ip_wp X 29 0 [.ref k, .retAddr 1] [] M (fun r M1 => ip_wp X 27 69 ls (r.toList ++ st) M1 K) := (wp_callV1_1 ((ip_a27 66).trans (ip_f27_1 (k := 11) rfl)) ⟨h0, by exact Nat.le_of_ble_eq_true rfl, h1, h2⟩)
theorem w27_69 (X : ip_X) (ls : List Value) (M : ip_H) (K : Option Value → ip_H → Prop) : ip_wp X 27 69 ls [] M K = K none M := wp_vret ((ip_a27 69).trans (ip_f27_1 (k := 12) rfl))
theorem ip_a29 (pc : Nat) : ip_at 29 pc = ip_c29.lookup pc := rfl
theorem w29_0 (X : ip_X) (ls st : List Value) (M : ip_H) (K : Option Value → ip_H → Prop) : ip_wp X 29 0 ls st M K = ip_wp X 29 1 ls (.int 0 :: st) M K := wp_iconst ((ip_a29 0).trans rfl)
theorem w29_1 (X : ip_X) (ls st : List Value) (M : ip_H) (K : Option Value → ip_H → Prop) (x : Int32) : ip_wp X 29 1 ls (.int x :: st) M K = ip_wp X 29 2 (ip_set1 ls 1 (.int x)) st M K := wp_istore_n ((ip_a29 1).trans rfl)
theorem w29_2 (X : ip_X) (ls st : List Value) (M : ip_H) (K : Option Value → ip_H → Prop) : ip_wp X 29 2 ls st M K = ip_ki (ip_get ls 1) (fun x => ip_wp X 29 3 ls (.int x :: st) M K) := wp_iload_n ((ip_a29 2).trans rfl)
theorem w29_3 (X : ip_X) (ls st : List Value) (M : ip_H) (K : Option Value → ip_H → Prop) : ip_wp X 29 3 ls st M K = ip_ka (ip_get ls 0) (fun x => ip_wp X 29 4 ls (x :: st) M K) := wp_aload_n ((ip_a29 3).trans rfl)
theorem w29_4 (X : ip_X) (ls st : List Value) (M : ip_H) (K : Option Value → ip_H → Prop) (k : Nat) (h0 : (ip_sh M k).1 = 0) (h1 : (ip_sh M k).2.1 = 1) : ip_wp X 29 4 ls (.ref k :: st) M K = ip_wp X 29 7 ls (.int (M.2.1 k 4) :: st) M K := (wp_getI ((ip_a29 4).trans rfl)).trans (if_pos ⟨h0, h1⟩)
theorem w29_7 (X : ip_X) (ls st : List Value) (M : ip_H) (K : Option Value → ip_H → Prop) (x q : Int32) : ip_wp X 29 7 ls (.int q :: .int x :: st) M K = if x < q then ip_wp X 29 10 ls st M K else ip_wp X 29 43 ls st M K := wp_if_icmp_ge ((ip_a29 7).trans rfl)
theorem w29_10 (X : ip_X) (ls st : List Value) (M : ip_H) (K : Option Value → ip_H → Prop) : ip_wp X 29 10 ls st M K = ip_ka (ip_get ls 0) (fun x => ip_wp X 29 11 ls (x :: st) M K) := wp_aload_n ((ip_a29 10).trans rfl)
theorem w29_11 (X : ip_X) (ls st : List Value) (M : ip_H) (K : Option Value → ip_H → Prop) : ip_wp X 29 11 ls st M K = ip_ki (ip_get ls 1) (fun x => ip_wp X 29 12 ls (.int x :: st) M K) := wp_iload_n ((ip_a29 11).trans rfl)
theorem w29_12 (X : ip_X) (ls st : List Value) (M : ip_H) (K : Option Value → ip_H → Prop) (k : Nat) (x0 : Int32) (h0 : st.length ≤ 4) (h1 : (ip_sh M k).1 = 0) (h2 : (ip_sh M k).2.1 = 1) : ip_wp X 29 12 ls (.int x0 :: .ref k :: st) M K = ip_wp X 30 0 [.ref k, .int x0, .retAddr 1] [] M (fun r M1 => ip_wp X 29 15 ls (r.toList ++ st) M1 K) := (wp_callV1_2 ((ip_a29 12).trans rfl) ⟨h0, by exact Nat.le_of_ble_eq_true rfl, h1, h2⟩)
theorem w29_15 (X : ip_X) (ls st : List Value) (M : ip_H) (K : Option Value → ip_H → Prop) (x : Int32) : ip_wp X 29 15 ls (.int x :: st) M K = if x = 0 then ip_wp X 29 18 ls st M K else ip_wp X 29 21 ls st M K := wp_ifCond_ne ((ip_a29 15).trans rfl)
theorem w29_18 (X : ip_X) (ls st : List Value) (M : ip_H) (K : Option Value → ip_H → Prop) : ip_wp X 29 18 ls st M K = ip_wp X 29 37 ls st M K := wp_goto ((ip_a29 18).trans rfl)
theorem w29_21 (X : ip_X) (ls st : List Value) (M : ip_H) (K : Option Value → ip_H → Prop) : ip_wp X 29 21 ls st M K = ip_ka (ip_get ls 0) (fun x => ip_wp X 29 22 ls (x :: st) M K) := wp_aload_n ((ip_a29 21).trans rfl)
theorem w29_22 (X : ip_X) (ls st : List Value) (M : ip_H) (K : Option Value → ip_H → Prop) : ip_wp X 29 22 ls st M K = ip_ki (ip_get ls 1) (fun x => ip_wp X 29 23 ls (.int x :: st) M K) := wp_iload_n ((ip_a29 22).trans rfl)
theorem w29_23 (X : ip_X) (ls st : List Value) (M : ip_H) (K : Option Value → ip_H → Prop) (k : Nat) (x : Int32) (h0 : (ip_sh M k).1 = 0) (h1 : (ip_sh M k).2.1 = 1) : ip_wp X 29 23 ls (.int x :: .ref k :: st) M K = ip_wp X 29 26 ls st (ip_uI M k 5 x) K := (wp_putI ((ip_a29 23).trans rfl)).trans (if_pos ⟨h0, h1⟩)
theorem w29_26 (X : ip_X) (ls st : List Value) (M : ip_H) (K : Option Value → ip_H → Prop) : ip_wp X 29 26 ls st M K = ip_ka (ip_get ls 0) (fun x => ip_wp X 29 27 ls (x :: st) M K) := wp_aload_n ((ip_a29 26).trans rfl)
theorem w29_27 (X : ip_X) (ls st : List Value) (M : ip_H) (K : Option Value → ip_H → Prop) : ip_wp X 29 27 ls st M K = ip_ka (ip_get ls 0) (fun x => ip_wp X 29 28 ls (x :: st) M K) := wp_aload_n ((ip_a29 27).trans rfl)
theorem w29_28 (X : ip_X) (ls st : List Value) (M : ip_H) (K : Option Value → ip_H → Prop) (k : Nat) (h0 : (ip_sh M k).1 = 0) (h1 : (ip_sh M k).2.1 = 1) : ip_wp X 29 28 ls (.ref k :: st) M K = ip_wp X 29 31 ls (.int (M.2.1 k 4) :: st) M K := (wp_getI ((ip_a29 28).trans rfl)).trans (if_pos ⟨h0, h1⟩)
theorem w29_31 (X : ip_X) (ls st : List Value) (M : ip_H) (K : Option Value → ip_H → Prop) : ip_wp X 29 31 ls st M K = ip_ki (ip_get ls 1) (fun x => ip_wp X 29 32 ls (.int x :: st) M K) := wp_iload_n ((ip_a29 31).trans rfl)
theorem w29_32 (X : ip_X) (ls st : List Value) (M : ip_H) (K : Option Value → ip_H → Prop) (x q : Int32) : ip_wp X 29 32 ls (.int q :: .int x :: st) M K = ip_wp X 29 33 ls (.int (x - q) :: st) M K := wp_isub ((ip_a29 32).trans rfl)
theorem w29_33 (X : ip_X) (ls st : List Value) (M : ip_H) (K : Option Value → ip_H → Prop) (k : Nat) (x : Int32) (h0 : (ip_sh M k).1 = 0) (h1 : (ip_sh M k).2.1 = 1) : ip_wp X 29 33 ls (.int x :: .ref k :: st) M K = ip_wp X 29 36 ls st (ip_uI M k 6 x) K := (wp_putI ((ip_a29 33).trans rfl)).trans (if_pos ⟨h0, h1⟩)
theorem w29_36 (X : ip_X) (ls : List Value) (M : ip_H) (K : Option Value → ip_H → Prop) : ip_wp X 29 36 ls [] M K = K none M := wp_vret ((ip_a29 36).trans rfl)
theorem w29_37 (X : ip_X) (ls st : List Value) (M : ip_H) (K : Option Value → ip_H → Prop) : ip_wp X 29 37 ls st M K = ip_ki (ip_get ls 1) (fun x => ip_wp X 29 40 (ip_set1 ls 1 (.int (x + 1))) st M K) := wp_iinc ((ip_a29 37).trans rfl)
theorem w29_40 (X : ip_X) (ls st : List Value) (M : ip_H) (K : Option Value → ip_H → Prop) : ip_wp X 29 40 ls st M K = ip_wp X 29 2 ls st M K := wp_goto ((ip_a29 40).trans rfl)
theorem w29_43 (X : ip_X) (ls : List Value) (M : ip_H) (K : Option Value → ip_H → Prop) : ip_wp X 29 43 ls [] M K = K none M := wp_vret ((ip_a29 43).trans rfl)
end
noncomputable section
-- PART c13yf09.prep
-- A COURSE of the class: the next STEP
/-- what laying out a STEP may change -/
def pf (c : Nat) (M M1 : ip_H) : Prop := M1.1 = M.1 ∧ M1.2.2.2 = M.2.2.2 ∧ (∀ a b, ¬ (a = c ∧ 12 ≤ b ∧ b ≤ 14) → M1.2.1 a b = M.2.1 a b) ∧ ∀ a, ¬ (a = 3 ∨ (c + 6 ≤ a ∧ a ≤ c + 10)) → M1.2.2.1 a = M.2.2.1 a
theorem pf_r (c : Nat) (M : ip_H) : pf c M M := ⟨rfl, rfl, fun _ _ _ => rfl, fun _ _ => rfl⟩
theorem pf_t {c : Nat} {M M1 M2 : ip_H} (h : pf c M M1) (g : pf c M1 M2) : pf c M M2 := ⟨g.1.trans h.1, g.2.1.trans h.2.1, fun a b q => (g.2.2.1 a b q).trans (h.2.2.1 a b q), fun a q => (g.2.2.2 a q).trans (h.2.2.2 a q)⟩
theorem pf_uI {c : Nat} {M N : ip_H} {k j : Nat} {v : Int32} (h : pf c M N) (q : k = c ∧ 12 ≤ j ∧ j ≤ 14) : pf c M (ip_uI N k j v) := by
  refine ⟨h.1, h.2.1, fun a b hab => ?_, h.2.2.2⟩
  rw [ip_uI_I, if_neg, h.2.2.1 a b hab]
  rintro ⟨rfl, rfl⟩
  exact hab q
theorem pf_uL {c : Nat} {M N : ip_H} {k j : Nat} {v : Int64} (h : pf c M N) (q : k = 3 ∨ (c + 6 ≤ k ∧ k ≤ c + 10)) : pf c M (ip_uL N k j v) := by
  refine ⟨h.1, h.2.1, h.2.2.1, fun a ha => ?_⟩
  rw [← h.2.2.2 a ha]
  funext b
  rw [ip_uL_L, if_neg]
  rintro ⟨rfl, rfl⟩
  exact ha q
theorem pf_kv {c : Nat} {M N : ip_H} {v : Nat} {z : Int × Int × Int × Int} (h : pf c M N) (q : v = 3 ∨ (c + 6 ≤ v ∧ v ≤ c + 10)) : pf c M (k_v N v z) := pf_uL (pf_uL (pf_uL (pf_uL h q) q) q) q
theorem pf_sL {c : Nat} {M N : ip_H} {A : Nat} {f : Nat → Int64} (h : pf c M N) (q : A = 3 ∨ (c + 6 ≤ A ∧ A ≤ c + 10)) : pf c M (ip_sL N A f) := by
  refine ⟨h.1, h.2.1, h.2.2.1, fun a ha => ?_⟩
  rw [← h.2.2.2 a ha]
  funext b
  rw [ip_sL_L, if_neg]
  rintro rfl
  exact ha q
theorem pf_cpL {c : Nat} {M N : ip_H} {B A : Nat} (h : pf c M N) (q : A = 3 ∨ (c + 6 ≤ A ∧ A ≤ c + 10)) : pf c M (ip_cpL N B A 0 0 9) := by
  refine ⟨h.1, h.2.1, h.2.2.1, fun a ha => ?_⟩
  rw [← h.2.2.2 a ha]
  funext b
  rw [ip_cpL_L, if_neg]
  rintro ⟨rfl, -⟩
  exact ha q
theorem pf_G {c : Nat} {M M1 : ip_H} (h : pf c M M1) (hG : ip_G M) : ip_G M1 := ⟨h.1.trans hG.1, fun k j a b => by rw [h.2.1]; exact hG.2 k j a b⟩
theorem k_nx_c {g h : Nat → Int64} (e : ∀ j, j < 9 → g j = h j) (a b : Int32) (t : Bool) : ∀ j, j < 9 → k_nx g a b t j = k_nx h a b t j := fun j hj => by
  unfold k_nx
  rw [e 0 (by decide), e 1 (by decide), e 2 (by decide), e 3 (by decide), e 4 (by decide), e 5 (by decide), e 6 (by decide), e 7 (by decide), e 8 (by decide), e j hj]
theorem k_bn_cc {g h : Nat → Int64} : ∀ (n k : Nat), (∀ j, k ≤ j → j < k + n → g j = h j) → k_bn g n k = k_bn h n k := by
  intro n
  induction n with
  | zero => intro k e; rfl
  | succ n ih =>
    intro k e
    unfold k_bn
    rw [e k (Nat.le_refl _) (by omega), ih (k + 1) (fun j h1 h2 => e j (by omega) (by omega))]
theorem k_bn_c {g h : Nat → Int64} (e : ∀ j, j < 9 → g j = h j) : k_bn g 9 0 = k_bn h 9 0 := k_bn_cc 9 0 (fun j _ hj => e j (by omega))
/-- what is left over of a STATE's number -/
def k_rs (f : Nat → Int32) (j : Nat) : Int × Int × Int × Int := ((qi f j).1 - (f (j + 4)).toInt * (qi f j).2.2.2, (qi f j).2.1, (qi f j).2.2.1, (qi f j).2.2.2)

set_option maxHeartbeats 40000000 in
set_option maxRecDepth 100000 in
theorem o_52 (X : ip_X) (M : ip_H) (K : Option Value → ip_H → Prop) (v w u : Nat) (z y : Int × Int × Int × Int) (hG : ip_G M) (hv : ip_sh M v = (0, 8, 4)) (hz : cv M v z) (hw : ip_sh M w = (0, 8, 4)) (hy : cv M w y) (hu : ip_sh M u = (0, 8, 4)) (hv3 : ¬ v = 3) (hw3 : ¬ w = 3) (hF : zF (M.2.1 1 0).toInt (M.2.1 1 1).toInt (M.2.1 1 2).toInt = true) (bz : c_fb z) (bw : c_fb y) (nz : c_nz y) (h : ∀ M1, M1.1 = M.1 → M1.2.1 = M.2.1 → M1.2.2.2 = M.2.2.2 → (∀ a, ¬ (a = 3 ∨ a = u) → M1.2.2.1 a = M.2.2.1 a) → cv M1 u (zl (kQ (M.2.1 1 0).toInt (M.2.1 1 1).toInt (M.2.1 1 2).toInt z y)) → K none M1) : ip_wp X 52 0 [.ref 1, .ref v, .ref w, .ref u, .retAddr 1, .retAddr 1] [] M K := by
  obtain ⟨q0, q1, q2, q3, q4⟩ := kQ_b hF bz bw nz
  have w' : ∀ x, zb 13500000000000000 x → zb 9223372036854775807 x := fun x h => zb_w h (by decide)
  rw [s_52_1 X M K v w z y hG hv hz hw hy u hu hv3 hw3 (w' _ q0) (w' _ q1) (w' _ q2) (w' _ q3) q4]
  refine h _ ((k_v_1 _ _ _).trans (k_rw_1 _ _ _ _ _ _ _ _)) ((k_v_I _ _ _).trans (k_rw_I _ _ _ _ _ _ _ _)) ((k_v_R _ _ _).trans (k_rw_R _ _ _ _ _ _ _ _)) (fun a ha => ?_) (cv_kv _ _ _)
  funext b
  rw [k_v_L, if_neg (by omega), if_neg (by omega), if_neg (by omega), if_neg (by omega), k_rw_o _ _ _ _ _ _ _ _ _ (by omega)]

/-- both rests laid -/
def k_r4_6 (M : ip_H) (k : Nat) : ip_H := (ip_uL (ip_uL (k_v (k_v M 13 (qi (M.2.1 7) (10 * k + 0))) 14 (qi (M.2.1 7) (10 * k + 5))) 13 0 (Int64.ofInt ((k_rs (M.2.1 7) (10 * k + 0)).1))) 14 0 (Int64.ofInt ((k_rs (M.2.1 7) (10 * k + 5)).1)))
theorem k_r4_6_f (M : ip_H) (k : Nat) : cv (k_r4_6 M k) 13 (k_rs (M.2.1 7) (10 * k + 0)) ∧ cv (k_r4_6 M k) 14 (k_rs (M.2.1 7) (10 * k + 5)) := by
  unfold k_r4_6 cv
  simp (decide := true) only [ip_uL_L, k_v_L, true_and, false_and, and_true, ↓reduceIte, and_self]
  exact ⟨⟨rfl, rfl, rfl⟩, ⟨rfl, rfl, rfl⟩⟩
theorem k_r4_6_pf (M : ip_H) (k : Nat) : pf 6 M (k_r4_6 M k) := pf_uL (pf_uL (pf_kv (pf_kv (pf_r _ _) (by omega)) (by omega)) (by omega)) (by omega)
set_option maxHeartbeats 40000000 in
set_option maxRecDepth 100000 in
theorem s_26a_6 (X : ip_X) (M : ip_H) (K : Option Value → ip_H → Prop) (k : Nat) (hk : k ≤ 60) (hs : M.2.1 6 4 = Int32.ofNat k) (hG : ip_G M) : ip_wp X 26 0 [.ref 6, .ref 1] [] M K = ip_wp X 26 60 [.ref 6, .ref 1] [] (k_r4_6 M k) K := by
  have hG1 : ip_G (k_v M 13 (qi (M.2.1 7) (10 * k + 0))) := gG_kv _ _ _ hG
  have hG2 : ip_G (k_v (k_v M 13 (qi (M.2.1 7) (10 * k + 0))) 14 (qi (M.2.1 7) (10 * k + 5))) := gG_kv _ _ _ (gG_kv _ _ _ hG)
  have hG3 : ip_G (ip_uL (k_v (k_v M 13 (qi (M.2.1 7) (10 * k + 0))) 14 (qi (M.2.1 7) (10 * k + 5))) 13 0 (Int64.ofInt ((k_rs (M.2.1 7) (10 * k + 0)).1))) := gG_uL _ _ _ _ (gG_kv _ _ _ (gG_kv _ _ _ hG))
  have a1 := fun K => s_16_6_0 X M K k 13 hk (gS_13 hG) hG
  have a2 := fun K => s_16_6_1 X (k_v M 13 (qi (M.2.1 7) (10 * k + 0))) K k 14 hk (gS_14 hG1) hG1
  have a3 := fun K => s_15_6_0 X (k_v (k_v M 13 (qi (M.2.1 7) (10 * k + 0))) 14 (qi (M.2.1 7) (10 * k + 5))) K k hk hG2
  have c1 : cv (k_v (k_v M 13 (qi (M.2.1 7) (10 * k + 0))) 14 (qi (M.2.1 7) (10 * k + 5))) 13 (qi (M.2.1 7) (10 * k + 0)) := cv_kv_ne (by decide) (cv_kv M 13 _)
  have c2 : cv (k_v (k_v M 13 (qi (M.2.1 7) (10 * k + 0))) 14 (qi (M.2.1 7) (10 * k + 5))) 14 (qi (M.2.1 7) (10 * k + 5)) := cv_kv _ 14 _
  have a4 := fun K => s_98 X (k_v (k_v M 13 (qi (M.2.1 7) (10 * k + 0))) 14 (qi (M.2.1 7) (10 * k + 5))) K 13 (qi (M.2.1 7) (10 * k + 0)) (M.2.1 7 (10 * k + 0 + 4)).toInt (gS_13 hG2) c1
  have a5 := fun K => s_15_6_1 X (ip_uL (k_v (k_v M 13 (qi (M.2.1 7) (10 * k + 0))) 14 (qi (M.2.1 7) (10 * k + 5))) 13 0 (Int64.ofInt ((k_rs (M.2.1 7) (10 * k + 0)).1))) K k hk hG3
  have c3 : cv (ip_uL (k_v (k_v M 13 (qi (M.2.1 7) (10 * k + 0))) 14 (qi (M.2.1 7) (10 * k + 5))) 13 0 (Int64.ofInt ((k_rs (M.2.1 7) (10 * k + 0)).1))) 14 (qi (M.2.1 7) (10 * k + 5)) := by
    obtain ⟨x0, x1, x2, x3⟩ := c2
    unfold cv
    simp (decide := true) only [ip_uL_L, false_and, ↓reduceIte]
    exact ⟨x0, x1, x2, x3⟩
  have a6 := fun K => s_98 X (ip_uL (k_v (k_v M 13 (qi (M.2.1 7) (10 * k + 0))) 14 (qi (M.2.1 7) (10 * k + 5))) 13 0 (Int64.ofInt ((k_rs (M.2.1 7) (10 * k + 0)).1))) K 14 (qi (M.2.1 7) (10 * k + 5)) (M.2.1 7 (10 * k + 5 + 4)).toInt (gS_14 hG3) c3
  clear c1 c2 c3
  unfold k_r4_6
  unfold k_rs at *
  dsimp only at a5 a6 ⊢
  simp only [Nat.add_zero] at a1 a2 a3 a4 a5 a6 ⊢
  simp (config := { maxSteps := 10000000, maxDischargeDepth := 30, decide := true }) only [w26_0, w26_1, w26_2, w26_5, w26_6, w26_7, w26_10, w26_13, w26_14, w26_15, w26_18, w26_19, w26_20, w26_23, w26_26, w26_27, w26_30, w26_31, w26_32, w26_35, w26_36, w26_39, w26_40, w26_43, w26_44, w26_47, w26_48, w26_49, w26_52, w26_53, w26_56, w26_57, ↓ip_ka0, ip_uL_I, ip_uL_R, ip_uL_sh, ip_vr_some, Option.toList_some, Option.toList_none, List.nil_append, List.cons_append, List.length_nil, List.length_cons, Nat.reduceLeDiff, Nat.zero_add, Nat.zero_le, gS_6 hG, gS_13 hG, gS_14 hG, gR_6_8 hG, gR_6_9 hG, hs, a1, a2, a3, a4, a5, a6, z_w, k_v_I, k_v_R, k_v_sh, gG_kv, Nat.add_zero]

set_option maxHeartbeats 40000000 in
set_option maxRecDepth 100000 in
theorem o_26t_6 (X : ip_X) (M : ip_H) (K : Option Value → ip_H → Prop) (f g : Int × Int × Int × Int) (hG : ip_G M) (hf : cv M 13 f) (hg : cv M 14 g) (hw : M.2.1 6 3 = 1) (hl : r_lt (M.2.1 1 0).toInt (M.2.1 1 1).toInt (M.2.1 1 2).toInt f g = true) (h : ∀ M1, pf 6 M M1 → cv M1 13 g → cv M1 14 f → M1.2.1 6 14 = 1 → K none M1) : ip_wp X 26 60 [.ref 6, .ref 1] [] M K := by
  have hGm := hG
  have t48 := fun K => s_48 X M K 13 14 f g hG (gS_13 hG) hf (gS_14 hG) hg
  unfold r_lt at hl
  rw [decide_eq_true_eq] at hl
  have hf0 : cv (ip_uI M 6 14 1) 13 f := hf
  have e1 := fun K => s_95 X (ip_uI M 6 14 1) K 15 13 f (gS_15 hG) (gS_13 hG) (by decide) hf0
  have hg1 : cv (k_v (ip_uI M 6 14 1) 15 f) 14 g := cv_kv_ne (by decide) (show cv (ip_uI M 6 14 1) 14 g from hg)
  have e2 := fun K => s_95 X (k_v (ip_uI M 6 14 1) 15 f) K 13 14 g (gS_13 hG) (gS_14 hG) (by decide) hg1
  have hu2 : cv (k_v (k_v (ip_uI M 6 14 1) 15 f) 13 g) 15 f := cv_kv_ne (by decide) (cv_kv _ 15 f)
  have e3 := fun K => s_95 X (k_v (k_v (ip_uI M 6 14 1) 15 f) 13 g) K 14 15 f (gS_14 hG) (gS_15 hG) (by decide) hu2
  simp (config := { maxSteps := 10000000, maxDischargeDepth := 30, decide := true }) only [w26_60, w26_61, w26_62, w26_65, w26_66, w26_69, w26_70, w26_71, w26_74, w26_75, w26_78, w26_81, w26_84, w26_85, w26_89, w26_92, w26_93, w26_96, w26_100, w26_101, w26_104, w26_105, w26_108, w26_111, w26_112, w26_115, w26_116, w26_119, w26_122, w26_123, w26_126, w26_127, w26_130, w26_133, ↓ip_ka0, ↓ip_ka1, ip_uI_I, ip_uI_R, ip_uI_sh, ip_vr_some, Option.toList_some, Option.toList_none, List.nil_append, List.cons_append, List.length_nil, List.length_cons, ↓reduceIte, Nat.reduceLeDiff, Nat.zero_add, Nat.zero_le, or_true, gS_6 hG, gS_13 hG, gS_14 hG, gS_15 hG, gS_1 hG, gR_6_8 hG, gR_6_9 hG, gR_6_10 hG, t48, hw, hl, e1, e2, e3, k_v_R, k_v_sh, gG_kv]
  refine h _ (pf_kv (pf_kv (pf_kv (pf_uI (pf_r _ _) (by omega)) (by omega)) (by omega)) (by omega)) (cv_kv_ne (by decide) (cv_kv _ 13 g)) (cv_kv _ 14 f) ?_
  rfl

set_option maxHeartbeats 40000000 in
set_option maxRecDepth 100000 in
theorem o_26n_6 (X : ip_X) (M : ip_H) (K : Option Value → ip_H → Prop) (f g : Int × Int × Int × Int) (hG : ip_G M) (hf : cv M 13 f) (hg : cv M 14 g) (hw : M.2.1 6 3 = 1 → r_lt (M.2.1 1 0).toInt (M.2.1 1 1).toInt (M.2.1 1 2).toInt f g = false) (h : ∀ M1, pf 6 M M1 → cv M1 13 f → cv M1 14 g → M1.2.1 6 14 = 0 → K none M1) : ip_wp X 26 60 [.ref 6, .ref 1] [] M K := by
  have hGm := hG
  have t48 := fun K => s_48 X M K 13 14 f g hG (gS_13 hG) hf (gS_14 hG) hg
  unfold r_lt at hw
  by_cases hw1 : M.2.1 6 3 = 1
  · have hl := hw hw1
    rw [decide_eq_false_iff_not] at hl
    simp (config := { maxSteps := 10000000, maxDischargeDepth := 30, decide := true }) only [w26_60, w26_61, w26_62, w26_65, w26_66, w26_69, w26_70, w26_71, w26_74, w26_75, w26_78, w26_81, w26_88, w26_89, w26_92, w26_93, w26_96, w26_99, ↓ip_ka0, ↓ip_ka1, ip_uI_I, ip_uI_sh, ip_vr_some, Option.toList_some, List.nil_append, List.cons_append, List.length_nil, List.length_cons, ↓reduceIte, Nat.reduceLeDiff, Nat.zero_add, or_false, gS_6 hG, gS_1 hG, gR_6_8 hG, gR_6_9 hG, t48, hw1, hl]
    refine h _ (pf_uI (pf_r _ _) (by omega)) hf hg ?_
    rfl
  · simp (config := { maxSteps := 10000000, maxDischargeDepth := 30, decide := true }) only [w26_60, w26_61, w26_62, w26_65, w26_66, w26_88, w26_89, w26_92, w26_93, w26_96, w26_99, ↓ip_ka0, ip_uI_I, ip_uI_sh, ↓reduceIte, or_false, gS_6 hG, hw1]
    refine h _ (pf_uI (pf_r _ _) (by omega)) hf hg ?_
    rfl

set_option maxHeartbeats 40000000 in
set_option maxRecDepth 100000 in
theorem o_25a_6 (X : ip_X) (M : ip_H) (K : Option Value → ip_H → Prop) (f g : Int × Int × Int × Int) (hG : ip_G M) (hF : zF (M.2.1 1 0).toInt (M.2.1 1 1).toInt (M.2.1 1 2).toInt = true) (bf : c_fb f) (bg : c_fb g) (nz : c_nz f) (hf : cv M 13 f) (hg : cv M 14 g) (h5 : ∀ M1, pf 6 M M1 → (k_can (zl (kQ (M.2.1 1 0).toInt (M.2.1 1 1).toInt (M.2.1 1 2).toInt g f)) && k_can (zl (kQ (M.2.1 1 0).toInt (M.2.1 1 1).toInt (M.2.1 1 2).toInt (1, 0, 0, 1) f))) = false → K (some (.int (-5))) M1) (h0 : ∀ M1, pf 6 M M1 → M1.2.1 = M.2.1 → cv M1 15 (zl (kQ (M.2.1 1 0).toInt (M.2.1 1 1).toInt (M.2.1 1 2).toInt g f)) → cv M1 16 (zl (kQ (M.2.1 1 0).toInt (M.2.1 1 1).toInt (M.2.1 1 2).toInt (1, 0, 0, 1) f)) → (k_can (zl (kQ (M.2.1 1 0).toInt (M.2.1 1 1).toInt (M.2.1 1 2).toInt g f)) && k_can (zl (kQ (M.2.1 1 0).toInt (M.2.1 1 1).toInt (M.2.1 1 2).toInt (1, 0, 0, 1) f))) = true → ip_wp X 25 113 [.ref 6, .ref 1] [] M1 K) : ip_wp X 25 47 [.ref 6, .ref 1] [] M K := by
  have b1 : c_fb (1, 0, 0, 1) := ⟨⟨by decide, by decide⟩, ⟨by decide, by decide⟩, ⟨by decide, by decide⟩, by decide, by decide⟩
  have ez : zl (1, 0, 0, 1) = (1, 0, 0, 1) := by decide
  have i0 : zb 9223372036854775807 0 := ⟨by decide, by decide⟩
  have i1 : zb 9223372036854775807 1 := ⟨by decide, by decide⟩
  simp (config := { maxSteps := 10000000, maxDischargeDepth := 30, decide := true }) only [w25_47, w25_48, w25_49, w25_52, w25_53, w25_56, w25_57, w25_60, ↓ip_ka0, ↓ip_ka1, ip_vr_some, List.length_nil, Nat.zero_le, gS_6 hG, gS_1 hG, gR_6_8 hG, gR_6_9 hG, gR_6_10 hG]
  refine o_52 X M _ 14 13 15 g f hG (gS_14 hG) hg (gS_13 hG) hf (gS_15 hG) (by decide) (by decide) hF bg bf nz (fun M1 d1 d2 d3 d4 d5 => ?_)
  have hG1 : ip_G M1 := ⟨d1.trans hG.1, fun k j a b => by rw [d3]; exact hG.2 k j a b⟩
  have f1 : cv M1 13 f := by
    unfold cv
    rw [d4 13 (by decide)]
    exact hf
  have t93 := fun K => s_93 X M1 K 16 1 0 0 1 (gS_16 hG1) i1 i0 i0 i1 (by decide)
  rw [ez, z_o0, z_o1] at t93
  have hG2 : ip_G (k_v M1 16 (1, 0, 0, 1)) := gG_kv _ _ _ hG1
  simp (config := { maxSteps := 10000000, maxDischargeDepth := 30, decide := true }) only [w25_63, w25_64, w25_67, w25_68, w25_69, w25_70, w25_71, w25_74, w25_75, w25_76, w25_79, w25_80, w25_83, w25_84, w25_87, ↓ip_ka0, ↓ip_ka1, ip_vr_some, Option.toList_none, List.nil_append, List.length_nil, Nat.zero_le, gS_6 hG1, gS_7 hG1, gS_13 hG1, gS_14 hG1, gS_15 hG1, gS_16 hG1, gR_6_0 hG1, gR_6_1 hG1, gR_6_2 hG1, gR_6_7 hG1, gR_6_8 hG1, gR_6_9 hG1, gR_6_10 hG1, gR_6_11 hG1, gS_6 hG2, gS_7 hG2, gS_13 hG2, gS_14 hG2, gS_15 hG2, gS_16 hG2, gS_1 hG2, gR_6_0 hG2, gR_6_1 hG2, gR_6_2 hG2, gR_6_7 hG2, gR_6_8 hG2, gR_6_9 hG2, gR_6_10 hG2, gR_6_11 hG2, t93, k_m9_I, k_m9_R, k_m9_sh, gG_m9, k_rw_I, k_rw_R, k_rw_sh, gG_rw, gG_kv]
  refine o_52 X (k_v M1 16 (1, 0, 0, 1)) _ 16 13 16 (1, 0, 0, 1) f hG2 (gS_16 hG2) (cv_kv _ _ _) (gS_13 hG2) (cv_kv_ne (by decide) f1) (gS_16 hG2) (by decide) (by decide) (by rw [k_v_I, d2]; exact hF) b1 bf nz (fun M2 e1 e2 e3 e4 e5 => ?_)
  rw [k_v_I, d2] at e5
  have eI : M2.2.1 = M.2.1 := e2.trans d2
  have hG3 : ip_G M2 := ⟨(e1.trans (k_v_1 _ _ _)).trans hG1.1, fun k j a b => by rw [e3]; exact hG1.2 k j a b⟩
  have cu : cv M2 15 (zl (kQ (M.2.1 1 0).toInt (M.2.1 1 1).toInt (M.2.1 1 2).toInt g f)) := by
    unfold cv
    rw [e4 15 (by decide)]
    exact cv_kv_ne (by decide) d5
  have fr : pf 6 M M2 := by
    refine ⟨(e1.trans (k_v_1 _ _ _)).trans d1, (e3.trans (k_v_R _ _ _)).trans d3, fun a b _ => by rw [eI], fun a ha => ?_⟩
    rw [e4 a (by omega)]
    have e : (k_v M1 16 (1, 0, 0, 1)).2.2.1 a = M1.2.2.1 a := by
      funext b
      rw [k_v_L, if_neg (by omega), if_neg (by omega), if_neg (by omega), if_neg (by omega)]
    rw [e, d4 a (by omega)]
  have a4 := fun K => s_99 X M2 K 15 _ (gS_15 hG3) cu
  have a5 := fun K => s_99 X M2 K 16 _ (gS_16 hG3) e5
  have h5 := h5 M2 fr
  have h0 := h0 M2 fr eI cu e5
  clear e1 e2 e3 e4 d1 d2 d3 d4 t93
  cases e1 : k_can (zl (kQ (M.2.1 1 0).toInt (M.2.1 1 1).toInt (M.2.1 1 2).toInt g f))
  · rw [e1] at a4 h5
    have h := h5 (Bool.false_and _)
    clear h0 h5
    simp (config := { maxSteps := 10000000, maxDischargeDepth := 30, decide := true }) only [w25_90, w25_91, w25_94, w25_97, w25_110, w25_112, ↓ip_ka0, ip_vr_some, Option.toList_some, Option.toList_none, List.nil_append, List.cons_append, List.length_nil, ↓reduceIte, Nat.zero_le, ip_b_f, gS_6 hG3, gS_7 hG3, gS_13 hG3, gS_14 hG3, gS_15 hG3, gS_16 hG3, gS_1 hG3, gR_6_0 hG3, gR_6_1 hG3, gR_6_2 hG3, gR_6_7 hG3, gR_6_8 hG3, gR_6_9 hG3, gR_6_10 hG3, gR_6_11 hG3, a4]
    exact h
  · rw [e1] at a4 h5 h0
    cases e2 : k_can (zl (kQ (M.2.1 1 0).toInt (M.2.1 1 1).toInt (M.2.1 1 2).toInt (1, 0, 0, 1) f))
    · rw [e2] at a5 h5
      have h := h5 rfl
      clear h0 h5
      simp (config := { maxSteps := 10000000, maxDischargeDepth := 30, decide := true }) only [w25_90, w25_91, w25_94, w25_97, w25_100, w25_101, w25_104, w25_107, w25_110, w25_112, ↓ip_ka0, ip_vr_some, Option.toList_some, Option.toList_none, List.nil_append, List.cons_append, List.length_nil, ↓reduceIte, Nat.zero_le, ip_b_t, ip_b_f, gS_6 hG3, gS_7 hG3, gS_13 hG3, gS_14 hG3, gS_15 hG3, gS_16 hG3, gS_1 hG3, gR_6_0 hG3, gR_6_1 hG3, gR_6_2 hG3, gR_6_7 hG3, gR_6_8 hG3, gR_6_9 hG3, gR_6_10 hG3, gR_6_11 hG3, a4, a5]
      exact h
    · rw [e2] at a5 h0
      have h := h0 rfl
      clear h0 h5
      simp (config := { maxSteps := 10000000, maxDischargeDepth := 30, decide := true }) only [w25_90, w25_91, w25_94, w25_97, w25_100, w25_101, w25_104, w25_107, ↓ip_ka0, ip_vr_some, Option.toList_some, Option.toList_none, List.nil_append, List.cons_append, List.length_nil, ↓reduceIte, Nat.zero_le, ip_b_t, gS_6 hG3, gS_7 hG3, gS_13 hG3, gS_14 hG3, gS_15 hG3, gS_16 hG3, gS_1 hG3, gR_6_0 hG3, gR_6_1 hG3, gR_6_2 hG3, gR_6_7 hG3, gR_6_8 hG3, gR_6_9 hG3, gR_6_10 hG3, gR_6_11 hG3, a4, a5]
      exact h

set_option maxHeartbeats 40000000 in
set_option maxRecDepth 100000 in
theorem o_25b_6 (X : ip_X) (M : ip_H) (K : Option Value → ip_H → Prop) (u v : Int × Int × Int × Int) (hG : ip_G M) (hu : cv M 15 u) (hv : cv M 16 v) (h5 : (decide (99 < c_f4 (M.2.1 1 0).toInt (M.2.1 1 1).toInt (M.2.1 1 2).toInt u) || decide (99 < c_f4 (M.2.1 1 0).toInt (M.2.1 1 1).toInt (M.2.1 1 2).toInt v)) = true → ∀ M1, pf 6 M M1 → K (some (.int (-5))) M1) (h0 : (decide (99 < c_f4 (M.2.1 1 0).toInt (M.2.1 1 1).toInt (M.2.1 1 2).toInt u) || decide (99 < c_f4 (M.2.1 1 0).toInt (M.2.1 1 1).toInt (M.2.1 1 2).toInt v)) = false → ip_wp X 25 158 [.ref 6, .ref 1] [] (ip_uI (ip_uI M 6 12 (c_f4 (M.2.1 1 0).toInt (M.2.1 1 1).toInt (M.2.1 1 2).toInt u)) 6 13 (c_f4 (M.2.1 1 0).toInt (M.2.1 1 1).toInt (M.2.1 1 2).toInt v)) K) : ip_wp X 25 113 [.ref 6, .ref 1] [] M K := by
  have a1 := fun K => s_49 X M K 15 u hG (gS_15 hG) hu
  have hG1 : ip_G (ip_uI M 6 12 (c_f4 (M.2.1 1 0).toInt (M.2.1 1 1).toInt (M.2.1 1 2).toInt u)) := hG
  have hv1 : cv (ip_uI M 6 12 (c_f4 (M.2.1 1 0).toInt (M.2.1 1 1).toInt (M.2.1 1 2).toInt u)) 16 v := hv
  have a2 := fun K => s_49 X (ip_uI M 6 12 (c_f4 (M.2.1 1 0).toInt (M.2.1 1 1).toInt (M.2.1 1 2).toInt u)) K 16 v hG1 (gS_16 hG1) hv1
  have ep : ∀ j, (ip_uI M 6 12 (c_f4 (M.2.1 1 0).toInt (M.2.1 1 1).toInt (M.2.1 1 2).toInt u)).2.1 1 j = M.2.1 1 j := fun j => by rw [ip_uI_I, if_neg (by omega)]
  simp only [ep] at a2
  have fr : pf 6 M (ip_uI (ip_uI M 6 12 (c_f4 (M.2.1 1 0).toInt (M.2.1 1 1).toInt (M.2.1 1 2).toInt u)) 6 13 (c_f4 (M.2.1 1 0).toInt (M.2.1 1 1).toInt (M.2.1 1 2).toInt v)) := pf_uI (pf_uI (pf_r _ _) (by omega)) (by omega)
  by_cases e1 : 99 < c_f4 (M.2.1 1 0).toInt (M.2.1 1 1).toInt (M.2.1 1 2).toInt u
  · have h := h5 (by rw [decide_eq_true e1]; rfl) (ip_uI (ip_uI M 6 12 (c_f4 (M.2.1 1 0).toInt (M.2.1 1 1).toInt (M.2.1 1 2).toInt u)) 6 13 (c_f4 (M.2.1 1 0).toInt (M.2.1 1 1).toInt (M.2.1 1 2).toInt v)) fr
    simp (config := { maxSteps := 10000000, maxDischargeDepth := 30, decide := true }) only [w25_113, w25_114, w25_115, w25_116, w25_119, w25_122, w25_125, w25_126, w25_127, w25_128, w25_131, w25_134, w25_137, w25_138, w25_141, w25_143, w25_155, w25_157, ↓ip_ka0, ↓ip_ka1, ip_uI_I, ip_uI_R, ip_uI_sh, ip_vr_some, Option.toList_some, List.nil_append, List.cons_append, List.length_nil, List.length_cons, ↓reduceIte, Nat.reduceLeDiff, Nat.zero_add, gS_6 hG, gS_1 hG, gR_6_10 hG, gR_6_11 hG, a1, a2, e1]
    exact h
  · by_cases e2 : 99 < c_f4 (M.2.1 1 0).toInt (M.2.1 1 1).toInt (M.2.1 1 2).toInt v
    · have h := h5 (by rw [decide_eq_true e2, Bool.or_true]) (ip_uI (ip_uI M 6 12 (c_f4 (M.2.1 1 0).toInt (M.2.1 1 1).toInt (M.2.1 1 2).toInt u)) 6 13 (c_f4 (M.2.1 1 0).toInt (M.2.1 1 1).toInt (M.2.1 1 2).toInt v)) fr
      simp (config := { maxSteps := 10000000, maxDischargeDepth := 30, decide := true }) only [w25_113, w25_114, w25_115, w25_116, w25_119, w25_122, w25_125, w25_126, w25_127, w25_128, w25_131, w25_134, w25_137, w25_138, w25_141, w25_143, w25_146, w25_147, w25_150, w25_152, w25_155, w25_157, ↓ip_ka0, ↓ip_ka1, ip_uI_I, ip_uI_R, ip_uI_sh, ip_vr_some, Option.toList_some, List.nil_append, List.cons_append, List.length_nil, List.length_cons, ↓reduceIte, Nat.reduceLeDiff, Nat.zero_add, gS_6 hG, gS_1 hG, gR_6_10 hG, gR_6_11 hG, a1, a2, e1, e2]
      exact h
    · have h := h0 (by rw [decide_eq_false e1, decide_eq_false e2]; rfl)
      simp (config := { maxSteps := 10000000, maxDischargeDepth := 30, decide := true }) only [w25_113, w25_114, w25_115, w25_116, w25_119, w25_122, w25_125, w25_126, w25_127, w25_128, w25_131, w25_134, w25_137, w25_138, w25_141, w25_143, w25_146, w25_147, w25_150, w25_152, ↓ip_ka0, ↓ip_ka1, ip_uI_I, ip_uI_R, ip_uI_sh, ip_vr_some, Option.toList_some, List.nil_append, List.cons_append, List.length_nil, List.length_cons, ↓reduceIte, Nat.reduceLeDiff, Nat.zero_add, gS_6 hG, gS_1 hG, gR_6_10 hG, gR_6_11 hG, a1, a2, e1, e2]
      exact h

set_option maxHeartbeats 40000000 in
set_option maxRecDepth 100000 in
theorem o_25c_6 (X : ip_X) (M : ip_H) (K : Option Value → ip_H → Prop) (k : Nat) (t : Bool) (hk : k ≤ 60) (hs : M.2.1 6 4 = Int32.ofNat k) (ht : M.2.1 6 14 = ip_b t) (hG : ip_G M) (h : ∀ M1, pf 6 M M1 → M1.2.1 = M.2.1 → (∀ x, ¬ x = 12 → M1.2.2.1 x = M.2.2.1 x) → (∀ j, j < 9 → M1.2.2.1 12 j = k_nx (M.2.2.1 10) (M.2.1 7 (10 * k + 4)) (M.2.1 7 (10 * k + 9)) t j) → K (some (.int (if k_bn (k_nx (M.2.2.1 10) (M.2.1 7 (10 * k + 4)) (M.2.1 7 (10 * k + 9)) t) 9 0 = true then -5 else 0))) M1) : ip_wp X 25 158 [.ref 6, .ref 1] [] M K := by
  have a1 := fun K => s_65 X M K 11 12 9 10 (gS_11 hG) (gR_11_0 hG) (gS_12 hG) (gS_9 hG) (gR_9_0 hG) (gS_10 hG)
  have hG1 : ip_G (ip_cpL M 10 12 0 0 9) := hG
  have b1 := fun K => s_15_6_0 X (ip_cpL M 10 12 0 0 9) K k hk hG1
  have b2 := fun K => s_15_6_1 X (ip_cpL M 10 12 0 0 9) K k hk hG1
  have e9 : ∀ j, j < 9 → (ip_cpL M 10 12 0 0 9).2.2.1 12 j = M.2.2.1 10 j := fun j hj => by
    rw [ip_cpL_L, if_pos rfl]
    unfold va_cpy
    rw [if_pos (by omega)]
    exact congrArg (M.2.2.1 10) (by omega)
  have eo : ∀ x, ¬ x = 12 → (k_fo (ip_cpL M 10 12 0 0 9) 12 (M.2.1 7 (10 * k + 4)) (M.2.1 7 (10 * k + 9)) t).2.2.1 x = M.2.2.1 x := fun x hx => by
    funext j
    rw [k_fo_o _ _ _ _ _ _ hx, ip_cpL_L, if_neg hx]
  have hG2 : ip_G (k_fo (ip_cpL M 10 12 0 0 9) 12 (M.2.1 7 (10 * k + 4)) (M.2.1 7 (10 * k + 9)) t) := hG
  have a3 := fun K => s_69 X (k_fo (ip_cpL M 10 12 0 0 9) 12 (M.2.1 7 (10 * k + 4)) (M.2.1 7 (10 * k + 9)) t) K 11 12 (gS_11 hG2) (gR_11_0 hG2) (gS_12 hG2)
  have eA : (k_fo (ip_cpL M 10 12 0 0 9) 12 (M.2.1 7 (10 * k + 4)) (M.2.1 7 (10 * k + 9)) t).2.2.1 12 = k_nx ((ip_cpL M 10 12 0 0 9).2.2.1 12) (M.2.1 7 (10 * k + 4)) (M.2.1 7 (10 * k + 9)) t := k_fo_A _ _ _ _ _
  have en : ∀ j, j < 9 → k_nx ((ip_cpL M 10 12 0 0 9).2.2.1 12) (M.2.1 7 (10 * k + 4)) (M.2.1 7 (10 * k + 9)) t j = k_nx (M.2.2.1 10) (M.2.1 7 (10 * k + 4)) (M.2.1 7 (10 * k + 9)) t j := k_nx_c e9 _ _ _
  have h := h (k_fo (ip_cpL M 10 12 0 0 9) 12 (M.2.1 7 (10 * k + 4)) (M.2.1 7 (10 * k + 9)) t) (pf_sL (pf_cpL (pf_r _ _) (by omega)) (by omega)) rfl eo (fun j hj => by rw [eA]; exact en j hj)
  rw [eA, k_bn_c en] at a3
  clear eA en e9 eo
  have fin : ∀ Q : Prop, (Q = K (some (.int (if k_bn (k_nx (M.2.2.1 10) (M.2.1 7 (10 * k + 4)) (M.2.1 7 (10 * k + 9)) t) 9 0 = true then -5 else 0))) (k_fo (ip_cpL M 10 12 0 0 9) 12 (M.2.1 7 (10 * k + 4)) (M.2.1 7 (10 * k + 9)) t)) → Q := fun Q e => by rw [e]; exact h
  apply fin
  clear fin h
  cases t
  · have a2 := fun K => s_66_f X (ip_cpL M 10 12 0 0 9) K 11 12 (gS_11 hG1) (gR_11_0 hG1) (gS_12 hG1) (M.2.1 7 (10 * k + 4)) (M.2.1 7 (10 * k + 9))
    cases e : k_bn (k_nx (M.2.2.1 10) (M.2.1 7 (10 * k + 4)) (M.2.1 7 (10 * k + 9)) false) 9 0
    · rw [e] at a3
      simp only [Bool.false_eq_true, ↓reduceIte]
      simp (config := { maxSteps := 10000000, maxDischargeDepth := 30, decide := true }) only [w25_158, w25_159, w25_162, w25_163, w25_166, w25_169, w25_170, w25_173, w25_174, w25_175, w25_178, w25_179, w25_182, w25_183, w25_184, w25_187, w25_188, w25_191, w25_192, w25_195, w25_198, w25_199, w25_202, w25_205, w25_213, w25_214, ↓ip_ka0, ip_vr_some, Option.toList_some, Option.toList_none, List.nil_append, List.cons_append, List.length_nil, List.length_cons, ↓reduceIte, Nat.reduceAdd, Nat.reduceLeDiff, Nat.zero_add, Nat.zero_le, ip_b_f, ip_cpL_I, ip_cpL_R, ip_cpL_sh, gS_6 hG, gR_6_2 hG, gR_6_7 hG, gS_11 hG, gS_12 hG, gS_9 hG, gS_10 hG, gR_11_0 hG, gR_9_0 hG, k_fo_sh, k_fo_R, hs, ht, a1, b1, b2, a2, a3]
    · rw [e] at a3
      simp only [↓reduceIte]
      simp (config := { maxSteps := 10000000, maxDischargeDepth := 30, decide := true }) only [w25_158, w25_159, w25_162, w25_163, w25_166, w25_169, w25_170, w25_173, w25_174, w25_175, w25_178, w25_179, w25_182, w25_183, w25_184, w25_187, w25_188, w25_191, w25_192, w25_195, w25_198, w25_199, w25_202, w25_205, w25_208, w25_210, w25_214, ↓ip_ka0, ip_vr_some, Option.toList_some, Option.toList_none, List.nil_append, List.cons_append, List.length_nil, List.length_cons, ↓reduceIte, Nat.reduceAdd, Nat.reduceLeDiff, Nat.zero_add, Nat.zero_le, ip_b_t, ip_b_f, ip_cpL_I, ip_cpL_R, ip_cpL_sh, gS_6 hG, gR_6_2 hG, gR_6_7 hG, gS_11 hG, gS_12 hG, gS_9 hG, gS_10 hG, gR_11_0 hG, gR_9_0 hG, k_fo_sh, k_fo_R, hs, ht, a1, b1, b2, a2, a3]
  · have a2 := fun K => s_66_t X (ip_cpL M 10 12 0 0 9) K 11 12 (gS_11 hG1) (gR_11_0 hG1) (gS_12 hG1) (M.2.1 7 (10 * k + 4)) (M.2.1 7 (10 * k + 9))
    cases e : k_bn (k_nx (M.2.2.1 10) (M.2.1 7 (10 * k + 4)) (M.2.1 7 (10 * k + 9)) true) 9 0
    · rw [e] at a3
      simp only [Bool.false_eq_true, ↓reduceIte]
      simp (config := { maxSteps := 10000000, maxDischargeDepth := 30, decide := true }) only [w25_158, w25_159, w25_162, w25_163, w25_166, w25_169, w25_170, w25_173, w25_174, w25_175, w25_178, w25_179, w25_182, w25_183, w25_184, w25_187, w25_188, w25_191, w25_192, w25_195, w25_198, w25_199, w25_202, w25_205, w25_213, w25_214, ↓ip_ka0, ip_vr_some, Option.toList_some, Option.toList_none, List.nil_append, List.cons_append, List.length_nil, List.length_cons, ↓reduceIte, Nat.reduceAdd, Nat.reduceLeDiff, Nat.zero_add, Nat.zero_le, ip_b_t, ip_b_f, ip_cpL_I, ip_cpL_R, ip_cpL_sh, gS_6 hG, gR_6_2 hG, gR_6_7 hG, gS_11 hG, gS_12 hG, gS_9 hG, gS_10 hG, gR_11_0 hG, gR_9_0 hG, k_fo_sh, k_fo_R, hs, ht, a1, b1, b2, a2, a3]
    · rw [e] at a3
      simp only [↓reduceIte]
      simp (config := { maxSteps := 10000000, maxDischargeDepth := 30, decide := true }) only [w25_158, w25_159, w25_162, w25_163, w25_166, w25_169, w25_170, w25_173, w25_174, w25_175, w25_178, w25_179, w25_182, w25_183, w25_184, w25_187, w25_188, w25_191, w25_192, w25_195, w25_198, w25_199, w25_202, w25_205, w25_208, w25_210, w25_214, ↓ip_ka0, ip_vr_some, Option.toList_some, Option.toList_none, List.nil_append, List.cons_append, List.length_nil, List.length_cons, ↓reduceIte, Nat.reduceAdd, Nat.reduceLeDiff, Nat.zero_add, Nat.zero_le, ip_b_t, ip_cpL_I, ip_cpL_R, ip_cpL_sh, gS_6 hG, gR_6_2 hG, gR_6_7 hG, gS_11 hG, gS_12 hG, gS_9 hG, gS_10 hG, gR_11_0 hG, gR_9_0 hG, k_fo_sh, k_fo_R, hs, ht, a1, b1, b2, a2, a3]
end
noncomputable section
-- PART c13yf10.take
-- A COURSE of the class: a STEP done, the PERIOD looked for
/-- the first STATE from k on, n of them at most, that is like STATE m -/
def k_fp (f : Nat → Int32) (m : Nat) : Nat → Nat → Option Nat
  | 0, _ => none
  | n + 1, k => if k_li f k m 10 0 = true then some k else k_fp f m n (k + 1)

set_option maxHeartbeats 40000000 in
set_option maxRecDepth 100000 in
theorem o_29l_6 (X : ip_X) (M : ip_H) (K : Option Value → ip_H → Prop) (m : Nat) (hm : m ≤ 60) (hs : M.2.1 6 4 = Int32.ofNat m) (hG : ip_G M) (Z : Prop) (h0 : K none M = Z) : ∀ (n k : Nat), k + n = m → (k_fp (M.2.1 7) m n k = none → ip_wp X 29 2 [.ref 6, .int (Int32.ofNat k)] [] M K = Z) ∧ ∀ j, k_fp (M.2.1 7) m n k = some j → ip_wp X 29 2 [.ref 6, .int (Int32.ofNat k)] [] M K = K none (ip_uI (ip_uI M 6 5 (Int32.ofNat j)) 6 6 (Int32.ofNat (m - j))) := by
  intro n
  induction n with
  | zero =>
    intro k hk
    have g : (Int32.ofNat k < Int32.ofNat m) = False := by rw [ip_nlt _ _ (by omega) (by omega)]; exact eq_false (by omega)
    refine ⟨fun _ => ?_, fun j hj => by cases hj⟩
    rw [← h0]
    simp (config := { maxSteps := 10000000, maxDischargeDepth := 30, decide := true }) only [w29_2, w29_3, w29_4, w29_7, w29_43, ↓ip_ka0, ↓ip_ki1, ↓reduceIte, gS_6 hG, hs, g]
  | succ n ih =>
    intro k hk
    have g : (Int32.ofNat k < Int32.ofNat m) = True := by rw [ip_nlt _ _ (by omega) (by omega)]; exact eq_true (by omega)
    have t := fun K => s_30_6 X M K k m (by omega) hm hs hG
    have ek : Int32.ofNat k + 1 = Int32.ofNat (k + 1) := ip_oa k 1
    have ed : Int32.ofNat m - Int32.ofNat k = Int32.ofNat (m - k) := by
      apply Int32.toInt_inj.mp
      rw [Int32.toInt_sub, ip_nt _ (by omega), ip_nt _ (by omega), ip_nt _ (by omega), Int.bmod_eq_of_le_mul_two (by omega) (by omega)]
      omega
    rw [k_fp]
    cases e : k_li (M.2.1 7) k m 10 0
    · rw [e] at t
      have st : ip_wp X 29 2 [.ref 6, .int (Int32.ofNat k)] [] M K = ip_wp X 29 2 [.ref 6, .int (Int32.ofNat (k + 1))] [] M K := by
        generalize hR : ip_wp X 29 2 [.ref 6, .int (Int32.ofNat (k + 1))] [] M K = Q
        simp (config := { maxSteps := 10000000, maxDischargeDepth := 30, decide := true }) only [w29_2, w29_3, w29_4, w29_7, w29_10, w29_11, w29_12, w29_15, w29_18, w29_37, ↓ip_ka0, ↓ip_ki1, ip_get_0, ip_set1, ip_clr_s, ip_cat_r, List.set_cons_zero, List.set_cons_succ, Option.toList_some, List.nil_append, List.cons_append, List.length_nil, ↓reduceIte, Nat.reduceEqDiff, Nat.zero_le, ip_b_f, gS_6 hG, hs, g, t, ek]
        rw [w29_40, hR]
      rw [st]
      simp only [Bool.false_eq_true, ↓reduceIte]
      exact ih (k + 1) (by omega)
    · rw [e] at t
      simp only [↓reduceIte]
      refine ⟨fun q => (by cases q), fun j hj => ?_⟩
      cases hj
      simp (config := { maxSteps := 10000000, maxDischargeDepth := 30, decide := true }) only [w29_2, w29_3, w29_4, w29_7, w29_10, w29_11, w29_12, w29_15, w29_21, w29_22, w29_23, w29_26, w29_27, w29_28, w29_31, w29_32, w29_33, w29_36, ↓ip_ka0, ↓ip_ki1, ip_uI_I, ip_uI_sh, Option.toList_some, List.nil_append, List.cons_append, List.length_nil, ↓reduceIte, Nat.zero_le, ip_b_t, gS_6 hG, hs, g, t, ed]

set_option maxHeartbeats 40000000 in
set_option maxRecDepth 100000 in
theorem o_29_6 (X : ip_X) (M : ip_H) (K : Option Value → ip_H → Prop) (m : Nat) (hm : m ≤ 60) (hs : M.2.1 6 4 = Int32.ofNat m) (hG : ip_G M) (h0 : k_fp (M.2.1 7) m m 0 = none → K none M) (h1 : ∀ j, k_fp (M.2.1 7) m m 0 = some j → K none (ip_uI (ip_uI M 6 5 (Int32.ofNat j)) 6 6 (Int32.ofNat (m - j)))) : ip_wp X 29 0 [.ref 6, .retAddr 1] [] M K := by
  have t : ip_wp X 29 0 [.ref 6, .retAddr 1] [] M K = ip_wp X 29 2 [.ref 6, .int (Int32.ofNat 0)] [] M K := by
    simp (config := { maxSteps := 10000000, maxDischargeDepth := 30, decide := true }) only [w29_0, w29_1, ip_set1, ip_clr_s, List.set_cons_zero, List.set_cons_succ, ↓reduceIte, Int32.reduceOfNat]
  have h := o_29l_6 X M K m hm hs hG _ rfl m 0 (Nat.zero_add m)
  refine Eq.mpr t ?_
  cases e : k_fp (M.2.1 7) m m 0
  · exact Eq.mpr (h.1 e) (h0 e)
  · rename_i j
    exact Eq.mpr (h.2 j e) (h1 j e)

/-- a STEP done, but for the PERIOD -/
def k_tk6 (M : ip_H) (k : Nat) (t : Bool) (y z : Int × Int × Int × Int) : ip_H := (ip_cpL (ip_uI (k_sv (ip_uI (k_sv (ip_uI (ip_uI M 6 4 (Int32.ofNat (k + 1))) 8 (k + 1) (ip_b t)) 7 (10 * (k + 1)) y) 7 (10 * (k + 1) + 4) (M.2.1 6 12)) 7 (10 * (k + 1) + 5) z) 7 (10 * (k + 1) + 9) (M.2.1 6 13)) 12 10 0 0 9)
set_option maxHeartbeats 40000000 in
set_option maxRecDepth 100000 in
theorem o_27_6 (X : ip_X) (M : ip_H) (K : Option Value → ip_H → Prop) (k : Nat) (hk : k < 60) (hs : M.2.1 6 4 = Int32.ofNat k) (t : Bool) (ht : M.2.1 6 14 = ip_b t) (y z : Int × Int × Int × Int) (hy : cv M 15 y) (hz : cv M 16 z) (hG : ip_G M)
  (h0 : M.2.1 6 5 ≠ -1 → K none (k_tk6 M k t y z)) (h1 : M.2.1 6 5 = -1 → k_fp ((k_tk6 M k t y z).2.1 7) (k + 1) (k + 1) 0 = none → K none (k_tk6 M k t y z))
  (h2 : M.2.1 6 5 = -1 → ∀ j, k_fp ((k_tk6 M k t y z).2.1 7) (k + 1) (k + 1) 0 = some j → K none (ip_uI (ip_uI (k_tk6 M k t y z) 6 5 (Int32.ofNat j)) 6 6 (Int32.ofNat (k + 1 - j)))) : ip_wp X 27 0 [.ref 6] [] M K := by
  have g : (Int32.ofNat k < 60) = True := by rw [show (60 : Int32) = Int32.ofNat 60 from rfl, ip_nlt _ _ (by omega) (by decide)]; exact eq_true hk
  have ek : Int32.ofNat k + 1 = Int32.ofNat (k + 1) := ip_oa k 1
  have n0 := eq_false (ip_nn (k + 1) (by omega))
  have c0 := ip_nc (k + 1) (by omega)
  have l0 : (k + 1 < 61) = True := eq_true (by omega)
  have hs2 : (ip_uI (ip_uI M 6 4 (Int32.ofNat (k + 1))) 8 (k + 1) (ip_b t)).2.1 6 4 = Int32.ofNat (k + 1) := by simp (decide := true) only [ip_uI_I, false_and, true_and, ↓reduceIte]
  have f12 : (ip_uI (ip_uI M 6 4 (Int32.ofNat (k + 1))) 8 (k + 1) (ip_b t)).2.1 6 12 = M.2.1 6 12 := by simp (decide := true) only [ip_uI_I, false_and, and_false, ↓reduceIte]
  have f13 : (ip_uI (ip_uI M 6 4 (Int32.ofNat (k + 1))) 8 (k + 1) (ip_b t)).2.1 6 13 = M.2.1 6 13 := by simp (decide := true) only [ip_uI_I, false_and, and_false, ↓reduceIte]
  have hG2 : ip_G (ip_uI (ip_uI M 6 4 (Int32.ofNat (k + 1))) 8 (k + 1) (ip_b t)) := hG
  have hy2 : cv (ip_uI (ip_uI M 6 4 (Int32.ofNat (k + 1))) 8 (k + 1) (ip_b t)) 15 y := hy
  have hz2 : cv (ip_uI (ip_uI M 6 4 (Int32.ofNat (k + 1))) 8 (k + 1) (ip_b t)) 16 z := hz
  have a1 := fun K => s_28_6 X (ip_uI (ip_uI M 6 4 (Int32.ofNat (k + 1))) 8 (k + 1) (ip_b t)) K (k + 1) (by omega) hs2 y z hy2 hz2 hG2
  rw [f12, f13] at a1
  have hG3 : ip_G (ip_uI (k_sv (ip_uI (k_sv (ip_uI (ip_uI M 6 4 (Int32.ofNat (k + 1))) 8 (k + 1) (ip_b t)) 7 (10 * (k + 1)) y) 7 (10 * (k + 1) + 4) (M.2.1 6 12)) 7 (10 * (k + 1) + 5) z) 7 (10 * (k + 1) + 9) (M.2.1 6 13)) := gG_uI _ _ _ _ (gG_sv _ _ _ _ (gG_uI _ _ _ _ (gG_sv _ _ _ _ (gG_uI _ _ _ _ (gG_uI _ _ _ _ hG)))))
  have a2 := fun K => s_65 X (ip_uI (k_sv (ip_uI (k_sv (ip_uI (ip_uI M 6 4 (Int32.ofNat (k + 1))) 8 (k + 1) (ip_b t)) 7 (10 * (k + 1)) y) 7 (10 * (k + 1) + 4) (M.2.1 6 12)) 7 (10 * (k + 1) + 5) z) 7 (10 * (k + 1) + 9) (M.2.1 6 13)) K 9 10 11 12 (gS_9 hG3) (gR_9_0 hG3) (gS_10 hG3) (gS_11 hG3) (gR_11_0 hG3) (gS_12 hG3)
  have hG4 : ip_G (k_tk6 M k t y z) := gG_cpL _ _ _ _ _ _ (gG_uI _ _ _ _ (gG_sv _ _ _ _ (gG_uI _ _ _ _ (gG_sv _ _ _ _ (gG_uI _ _ _ _ (gG_uI _ _ _ _ hG))))))
  have e4 : (ip_cpL (ip_uI (k_sv (ip_uI (k_sv (ip_uI (ip_uI M 6 4 (Int32.ofNat (k + 1))) 8 (k + 1) (ip_b t)) 7 (10 * (k + 1)) y) 7 (10 * (k + 1) + 4) (M.2.1 6 12)) 7 (10 * (k + 1) + 5) z) 7 (10 * (k + 1) + 9) (M.2.1 6 13)) 12 10 0 0 9) = k_tk6 M k t y z := rfl
  rw [e4] at a2
  have e5 : (k_tk6 M k t y z).2.1 6 5 = M.2.1 6 5 := by
    rw [← e4]
    simp (decide := true) only [ip_cpL_I, ip_uI_I, k_sv_I, false_and, and_false, ↓reduceIte]
  have es : (k_tk6 M k t y z).2.1 6 4 = Int32.ofNat (k + 1) := by
    rw [← e4]
    simp (decide := true) only [ip_cpL_I, ip_uI_I, k_sv_I, false_and, and_false, true_and, ↓reduceIte]
  clear e4 hs2 f12 f13 hy2 hz2
  have pre : ip_wp X 27 0 [.ref 6] [] M K = ip_wp X 27 57 [.ref 6] [] (k_tk6 M k t y z) K := by
    have z80 : (Int32.toInt8 0).toInt32.toInt8.toInt32 = 0 := by decide
    have z81 : (Int32.toInt8 1).toInt32.toInt8.toInt32 = 1 := by decide
    cases t
    · simp only [ip_b_f] at a1 a2
      simp (config := { maxSteps := 10000000, maxDischargeDepth := 30, decide := true }) only [w27_0, w27_1, w27_4, w27_6, w27_10, w27_11_r, w27_12, w27_15, w27_16, w27_17, w27_20, w27_21, w27_24, w27_25, w27_28, w27_29, w27_32, w27_35, w27_36, w27_39, w27_40, w27_41, w27_42, w27_43, w27_46, w27_47, w27_50, w27_51, w27_54, ↓ip_ka0, ip_uI_I, ip_uI_R, ip_uI_sh, ip_vr_some, Option.toList_none, List.nil_append, List.length_nil, ↓reduceIte, Nat.reduceEqDiff, Nat.zero_le, or_false, and_self, not_false_eq_true, ip_b_f, ip_ix_eq, gS_6 hG, gS_8 hG, gR_6_1 hG, gR_6_2 hG, gR_6_7 hG, gS_11 hG, gS_12 hG, gS_9 hG, gS_10 hG, gR_11_0 hG, gR_9_0 hG, hs, ht, g, ek, n0, c0, l0, a1, a2, z80, z81, k_sv_sh, k_sv_R, gG_sv]
    · simp only [ip_b_t] at a1 a2
      simp (config := { maxSteps := 10000000, maxDischargeDepth := 30, decide := true }) only [w27_0, w27_1, w27_4, w27_6, w27_10, w27_11_r, w27_12, w27_15, w27_16, w27_17, w27_20, w27_21, w27_24, w27_25, w27_28, w27_29, w27_32, w27_35, w27_36, w27_39, w27_40, w27_41, w27_42, w27_43, w27_46, w27_47, w27_50, w27_51, w27_54, ↓ip_ka0, ip_uI_I, ip_uI_R, ip_uI_sh, ip_vr_some, Option.toList_none, List.nil_append, List.length_nil, ↓reduceIte, Nat.reduceEqDiff, Nat.zero_le, or_false, and_self, not_false_eq_true, ip_b_t, ip_ix_eq, gS_6 hG, gS_8 hG, gR_6_1 hG, gR_6_2 hG, gR_6_7 hG, gS_11 hG, gS_12 hG, gS_9 hG, gS_10 hG, gR_11_0 hG, gR_9_0 hG, hs, ht, g, ek, n0, c0, l0, a1, a2, z80, z81, k_sv_sh, k_sv_R, gG_sv]
  refine Eq.mpr pre ?_
  by_cases h5 : M.2.1 6 5 = -1
  · have t57 : ip_wp X 27 57 [.ref 6] [] (k_tk6 M k t y z) K = ip_wp X 29 0 [.ref 6, .retAddr 1] [] (k_tk6 M k t y z) (fun r M1 => ip_wp X 27 69 [.ref 6] (r.toList ++ []) M1 K) := by
      have e6 := e5.trans h5
      simp (config := { maxSteps := 10000000, maxDischargeDepth := 30, decide := true }) only [w27_57, w27_58, w27_61, w27_62, w27_65, w27_66, ↓ip_ka0, List.length_nil, ↓reduceIte, Nat.zero_le, gS_6 hG4, gS_7 hG4, gS_8 hG4, gS_13 hG4, gS_14 hG4, gS_15 hG4, gS_16 hG4, gS_1 hG4, gR_6_0 hG4, gR_6_1 hG4, gR_6_2 hG4, gR_6_7 hG4, gR_6_8 hG4, gR_6_9 hG4, gR_6_10 hG4, gR_6_11 hG4, hG4, e6]
    refine Eq.mpr t57 ?_
    refine o_29_6 X _ _ (k + 1) (by omega) es hG4 (fun e => ?_) (fun j e => ?_)
    · have h := h1 h5 e
      simp (config := { maxSteps := 10000000, maxDischargeDepth := 30, decide := true }) only [w27_69, Option.toList_none, List.nil_append]
      exact h
    · have h := h2 h5 j e
      simp (config := { maxSteps := 10000000, maxDischargeDepth := 30, decide := true }) only [w27_69, Option.toList_none, List.nil_append]
      exact h
  · have h := h0 h5
    have e6 : ¬ (k_tk6 M k t y z).2.1 6 5 = -1 := by rw [e5]; exact h5
    simp (config := { maxSteps := 10000000, maxDischargeDepth := 30, decide := true }) only [w27_57, w27_58, w27_61, w27_62, w27_69, ↓ip_ka0, ↓reduceIte, gS_6 hG4, gS_7 hG4, gS_8 hG4, gS_13 hG4, gS_14 hG4, gS_15 hG4, gS_16 hG4, gS_1 hG4, gR_6_0 hG4, gR_6_1 hG4, gR_6_2 hG4, gR_6_7 hG4, gR_6_8 hG4, gR_6_9 hG4, gR_6_10 hG4, gR_6_11 hG4, hG4, e6]
    exact h
end
noncomputable section
-- PART c13yf11.ends
-- WHEN A COURSE ENDS
theorem z_flo_wh {a : Int} (h : zb 150 a) : ∀ (n : Nat) (lo hi : Int32), hi.toInt = lo.toInt + ((2 ^ n : Nat) : Int) → -4096 ≤ lo.toInt → hi.toInt ≤ 4096 → lo.toInt ≤ a → a < hi.toInt → (z_flo 0 0 0 a 0 0 1 n lo hi).toInt = a
  | 0, lo, hi, e, h1, h2, h3, h4 => by
    have e : hi.toInt = lo.toInt + 1 := e
    show lo.toInt = a
    omega
  | n + 1, lo, hi, e, h1, h2, h3, h4 => by
    have p : ((2 ^ (n + 1) : Nat) : Int) = 2 * ((2 ^ n : Nat) : Int) := by
      rw [Nat.pow_succ, Nat.mul_comm, Int.natCast_mul]
      rfl
    have q : (0 : Int) < ((2 ^ n : Nat) : Int) := by
      have := Nat.two_pow_pos n
      omega
    rw [p] at e
    generalize hm : ((2 ^ n : Nat) : Int) = m at e q
    obtain ⟨-, -, c⟩ := cq_s lo hi m e q h1 h2
    have hz : zN 0 0 0 (a - ((lo + hi) / 2).toInt * 1) 0 0 = (a - (lo.toInt + m)) * (a - (lo.toInt + m)) * (a - (lo.toInt + m)) := by rw [zN_a00, c, Int.mul_one]
    have h' := h
    unfold zb at h'
    have b1 : zb 5000 (a - (lo.toInt + m)) := ⟨by omega, by omega⟩
    have b2 : zb 9223372036854775807 ((a - (lo.toInt + m)) * (a - (lo.toInt + m)) * (a - (lo.toInt + m))) := zb_m (zb_m b1 b1 (Int.le_refl _)) b1 (by decide)
    by_cases hx : a < lo.toInt + m
    · have x0 : a - (lo.toInt + m) < 0 := by omega
      have neg : (a - (lo.toInt + m)) * (a - (lo.toInt + m)) * (a - (lo.toInt + m)) < 0 := Int.mul_neg_of_pos_of_neg (Int.mul_pos_of_neg_of_neg x0 x0) x0
      rw [z_flo, if_pos (by rw [hz, z_sg_lt b2]; exact neg)]
      exact z_flo_wh h n lo _ (by rw [hm]; exact c) h1 (by omega) h3 (by omega)
    · have x0 : 0 ≤ a - (lo.toInt + m) := by omega
      have nn : 0 ≤ (a - (lo.toInt + m)) * (a - (lo.toInt + m)) * (a - (lo.toInt + m)) := Int.mul_nonneg (Int.mul_nonneg x0 x0) x0
      rw [z_flo, if_neg (by rw [hz, z_sg_lt b2]; exact Int.not_lt.mpr nn)]
      exact z_flo_wh h n _ hi (by rw [hm, c]; omega) (by omega) h2 (by omega) h4
/-- the FLOOR of a whole number is that -/
theorem z_fl_wh {a : Int} (h : zb 150 a) (p q r : Int) : (z_fl p q r a 0 0 1).toInt = a := by
  have e3 : z_fl p q r a 0 0 1 = z_fl 0 0 0 a 0 0 1 := z_flo_00 p q r a 1 13 (-4096) 4096
  have e1 : (-4096 : Int32).toInt = -4096 := by decide
  have e2 : (4096 : Int32).toInt = 4096 := by decide
  rw [e3]
  have h' := h
  unfold zb at h'
  exact z_flo_wh h 13 _ _ (by decide) (by decide) (by decide) (by rw [e1]; omega) (by rw [e2]; omega)
/-- in lowest terms -/
def z_low (z : Int × Int × Int × Int) : Prop := Int.gcd (Int.gcd z.1 z.2.1) (Int.gcd z.2.2.1 z.2.2.2) = 1
/-- nothing is left over of just the whole numbers -/
theorem z_rest0 {p q r : Int} {z : Int × Int × Int × Int} (ha : zb 150 z.1) (hd : 1 ≤ z.2.2.2) (hl : z_low z) : (z.1 - (z_fl p q r z.1 z.2.1 z.2.2.1 z.2.2.2).toInt * z.2.2.2 = 0 ∧ z.2.1 = 0 ∧ z.2.2.1 = 0) ↔ (z.2.1 = 0 ∧ z.2.2.1 = 0 ∧ z.2.2.2 = 1) := by
  obtain ⟨a, b, c, d⟩ := z
  dsimp only at *
  constructor
  · rintro ⟨h, rfl, rfl⟩
    refine ⟨rfl, rfl, ?_⟩
    unfold z_low at hl
    dsimp only at hl
    generalize (z_fl p q r a 0 0 d).toInt = F at h
    have e : a = F * d := by omega
    rw [e, Int.gcd_zero_right, Int.gcd_zero_left] at hl
    have hdv : d.natAbs ∣ 1 := by
      rw [← hl]
      refine Nat.dvd_gcd ?_ ?_
      · rw [Int.natAbs_natCast, Int.natAbs_mul]
        exact Nat.dvd_mul_left _ _
      · rw [Int.natAbs_natCast]
        exact Nat.dvd_refl _
    have := Nat.dvd_one.mp hdv
    omega
  · rintro ⟨rfl, rfl, rfl⟩
    refine ⟨?_, rfl, rfl⟩
    rw [z_fl_wh ha]
    omega
/-- what is left over isn't far from 0 -/
theorem z_fl_c {p q r a b c d : Int} (hp : zb 3 p) (hq : zb 3 q) (hr : zb 3 r) (ha : zb 150 a) (hb : zb 150 b) (hc : zb 150 c) (hd : 1 ≤ d ∧ d ≤ 150) (h0 : 0 ≤ zN p q r a b c) : zb 4150 (a - (z_fl p q r a b c d).toInt * d) ∧ 0 ≤ zN p q r (a - (z_fl p q r a b c d).toInt * d) b c := by
  have h := z_flo_b hp hq hr ha hb hc hd 13 (-4096) 4096 (by decide) (by decide) (by decide) (Or.inl rfl) (Or.inl rfl)
  have e : z_flo p q r a b c d 13 (-4096) 4096 = z_fl p q r a b c d := rfl
  rw [e] at h
  obtain ⟨h1, h2, h3, h4⟩ := h
  obtain ⟨k1, k2⟩ := z_fl_ge hp hq hr ha hb hc hd h0
  refine ⟨?_, k2⟩
  generalize (z_fl p q r a b c d).toInt = F at *
  have hmul : (F + 1) * d = F * d + d := by rw [Int.add_mul, Int.one_mul]
  rw [hmul] at h4
  unfold zb at ha ⊢
  constructor
  · rcases Int.lt_or_le (-4000) (a - F * d) with w | w
    · omega
    · have := zN_neg hp hq hr hb hc w
      omega
  · rcases h4 with h4 | h4
    · have e2 : F = 4095 := by omega
      rw [e2]
      omega
    · rcases Int.lt_or_le (a - (F * d + d)) 4000 with w | w
      · omega
      · have := zN_pos hp hq hr hb hc w
        omega
/-- one left over is 0, the other isn't below 0: exchanged just if that is above 0 -/
theorem r_lt_0l {p q r : Int} {f g : Int × Int × Int × Int} (hp : zb 3 p) (hq : zb 3 q) (hr : zb 3 r) (h1 : f.1 = 0) (h2 : f.2.1 = 0) (h3 : f.2.2.1 = 0) (hd : 1 ≤ f.2.2.2 ∧ f.2.2.2 ≤ 150) (b1 : zb 4150 g.1) (b2 : zb 150 g.2.1) (b3 : zb 150 g.2.2.1) : r_lt p q r f g = decide (0 < zN p q r g.1 g.2.1 g.2.2.1) := by
  have e : zN p q r (f.1 * g.2.2.2 - g.1 * f.2.2.2) (f.2.1 * g.2.2.2 - g.2.1 * f.2.2.2) (f.2.2.1 * g.2.2.2 - g.2.2.1 * f.2.2.2) = (-f.2.2.2) * ((-f.2.2.2) * ((-f.2.2.2) * zN p q r g.1 g.2.1 g.2.2.1)) := by
    rw [h1, h2, h3, ← zN_s]
    congr 1
    · grind
    · grind
    · grind
  have bN : zb 200000000000 (zN p q r g.1 g.2.1 g.2.2.1) := zN_bnd hp hq hr b1 b2 b3 _ (by decide) (by decide) (by decide)
  have bd : zb 150 (-f.2.2.2) := ⟨by omega, by omega⟩
  have bE := zb_m bd (zb_m bd (zb_m bd bN (Int.le_refl _)) (Int.le_refl _)) (Int.le_refl _)
  unfold r_lt
  rw [e]
  have hs := z_sg_lt (zb_w bE (by decide))
  have key : ((-f.2.2.2) * ((-f.2.2.2) * ((-f.2.2.2) * zN p q r g.1 g.2.1 g.2.2.1)) < 0) ↔ 0 < zN p q r g.1 g.2.1 g.2.2.1 := by
    generalize zN p q r g.1 g.2.1 g.2.2.1 = n
    generalize f.2.2.2 = d at hd
    have e3 : (-d) * ((-d) * ((-d) * n)) = -(d * (d * (d * n))) := by grind
    rw [e3]
    constructor
    · intro h
      rcases Int.lt_or_le 0 n with w | w
      · exact w
      · exfalso
        have w1 : d * n ≤ 0 := Int.mul_nonpos_of_nonneg_of_nonpos (by omega) w
        have w2 : d * (d * n) ≤ 0 := Int.mul_nonpos_of_nonneg_of_nonpos (by omega) w1
        have w3 : d * (d * (d * n)) ≤ 0 := Int.mul_nonpos_of_nonneg_of_nonpos (by omega) w2
        omega
    · intro h
      have w1 : 0 < d * n := Int.mul_pos (by omega) h
      have w2 : 0 < d * (d * n) := Int.mul_pos (by omega) w1
      have w3 : 0 < d * (d * (d * n)) := Int.mul_pos (by omega) w2
      omega
  exact decide_eq_decide.mpr ((iff_of_eq hs).trans key)
theorem r_lt_0r {p q r : Int} {f g : Int × Int × Int × Int} (hp : zb 3 p) (hq : zb 3 q) (hr : zb 3 r) (h1 : g.1 = 0) (h2 : g.2.1 = 0) (h3 : g.2.2.1 = 0) (hd : 1 ≤ g.2.2.2 ∧ g.2.2.2 ≤ 150) (b1 : zb 4150 f.1) (b2 : zb 150 f.2.1) (b3 : zb 150 f.2.2.1) (h0 : 0 ≤ zN p q r f.1 f.2.1 f.2.2.1) : r_lt p q r f g = false := by
  have e : zN p q r (f.1 * g.2.2.2 - g.1 * f.2.2.2) (f.2.1 * g.2.2.2 - g.2.1 * f.2.2.2) (f.2.2.1 * g.2.2.2 - g.2.2.1 * f.2.2.2) = g.2.2.2 * (g.2.2.2 * (g.2.2.2 * zN p q r f.1 f.2.1 f.2.2.1)) := by
    rw [h1, h2, h3, ← zN_s]
    congr 1
    · grind
    · grind
    · grind
  have bN : zb 200000000000 (zN p q r f.1 f.2.1 f.2.2.1) := zN_bnd hp hq hr b1 b2 b3 _ (by decide) (by decide) (by decide)
  have bd : zb 150 g.2.2.2 := ⟨by omega, by omega⟩
  have bE := zb_m bd (zb_m bd (zb_m bd bN (Int.le_refl _)) (Int.le_refl _)) (Int.le_refl _)
  unfold r_lt
  rw [e]
  have hs := z_sg_lt (zb_w bE (by decide))
  have w1 := Int.mul_nonneg (show 0 ≤ g.2.2.2 by omega) h0
  have w2 := Int.mul_nonneg (show 0 ≤ g.2.2.2 by omega) w1
  have w3 := Int.mul_nonneg (show 0 ≤ g.2.2.2 by omega) w2
  refine decide_eq_false (fun h => ?_)
  rw [hs] at h
  omega
end
noncomputable section
-- PART c13yf12.step
-- A COURSE of the class: prepare, whole
theorem k_iz_nz {f : Int × Int × Int × Int} (h : k_iz f = false) : c_nz f := by
  rintro ⟨a, b, c⟩
  unfold k_iz at h
  rw [a, b, c] at h
  exact absurd h (by decide)
/-- a STEP can be: what is reckoned for it can be -/
def k_ok (p q r : Int) (f g : Int × Int × Int × Int) (P : Nat → Int64) (a b : Int32) (t : Bool) : Bool := k_can (zl (kQ p q r g f)) && (k_can (zl (kQ p q r (1, 0, 0, 1) f)) && (!decide (99 < c_f4 p q r (zl (kQ p q r g f))) && (!decide (99 < c_f4 p q r (zl (kQ p q r (1, 0, 0, 1) f))) && !k_bn (k_nx P a b t) 9 0)))

set_option maxHeartbeats 40000000 in
set_option maxRecDepth 100000 in
theorem o_25d_6 (X : ip_X) (M : ip_H) (K : Option Value → ip_H → Prop) (N : ip_H) (k : Nat) (t : Bool) (f g : Int × Int × Int × Int) (hk : k ≤ 60) (hs : M.2.1 6 4 = Int32.ofNat k) (hG : ip_G M) (hF : zF (M.2.1 1 0).toInt (M.2.1 1 1).toInt (M.2.1 1 2).toInt = true) (bf : c_fb f) (bg : c_fb g) (pN : pf 6 M N) (hf : cv N 13 f) (hg : cv N 14 g) (h14 : N.2.1 6 14 = ip_b t)
  (h3 : ∀ M1, pf 6 M M1 → k_iz f = true → K (some (.int (-3))) M1)
  (h5 : ∀ M1, pf 6 M M1 → k_iz f = false → k_ok (M.2.1 1 0).toInt (M.2.1 1 1).toInt (M.2.1 1 2).toInt f g (M.2.2.1 10) (M.2.1 7 (10 * k + 4)) (M.2.1 7 (10 * k + 9)) t = false → K (some (.int (-5))) M1)
  (h0 : ∀ M1, pf 6 M M1 → k_iz f = false → k_ok (M.2.1 1 0).toInt (M.2.1 1 1).toInt (M.2.1 1 2).toInt f g (M.2.2.1 10) (M.2.1 7 (10 * k + 4)) (M.2.1 7 (10 * k + 9)) t = true → cv M1 15 (zl (kQ (M.2.1 1 0).toInt (M.2.1 1 1).toInt (M.2.1 1 2).toInt g f)) → cv M1 16 (zl (kQ (M.2.1 1 0).toInt (M.2.1 1 1).toInt (M.2.1 1 2).toInt (1, 0, 0, 1) f)) → M1.2.1 6 12 = c_f4 (M.2.1 1 0).toInt (M.2.1 1 1).toInt (M.2.1 1 2).toInt (zl (kQ (M.2.1 1 0).toInt (M.2.1 1 1).toInt (M.2.1 1 2).toInt g f)) → M1.2.1 6 13 = c_f4 (M.2.1 1 0).toInt (M.2.1 1 1).toInt (M.2.1 1 2).toInt (zl (kQ (M.2.1 1 0).toInt (M.2.1 1 1).toInt (M.2.1 1 2).toInt (1, 0, 0, 1) f)) → M1.2.1 6 14 = ip_b t → (∀ j, j < 9 → M1.2.2.1 12 j = k_nx (M.2.2.1 10) (M.2.1 7 (10 * k + 4)) (M.2.1 7 (10 * k + 9)) t j) → K (some (.int 0)) M1) : ip_wp X 25 34 [.ref 6, .ref 1] [] N K := by
  have hGN := pf_G pN hG
  have e0 := pN.2.2.1 1 0 (by omega)
  have e1 := pN.2.2.1 1 1 (by omega)
  have e2 := pN.2.2.1 1 2 (by omega)
  have t1 := fun K => s_101 X N K 13 f (gS_13 hGN) hf
  cases ez : k_iz f
  case true =>
    rw [ez] at t1
    have h := h3 N pN ez
    simp (config := { maxSteps := 10000000, maxDischargeDepth := 30, decide := true }) only [w25_34, w25_35, w25_38, w25_41, w25_44, w25_46, ↓ip_ka0, ip_vr_some, Option.toList_some, List.nil_append, List.cons_append, List.length_nil, ↓reduceIte, Nat.zero_le, ip_b_t, gS_6 hGN, gS_7 hGN, gS_13 hGN, gS_14 hGN, gS_15 hGN, gS_16 hGN, gS_1 hGN, gR_6_0 hGN, gR_6_1 hGN, gR_6_2 hGN, gR_6_7 hGN, gR_6_8 hGN, gR_6_9 hGN, gR_6_10 hGN, gR_6_11 hGN, hGN, t1]
    exact h
  case false =>
    rw [ez] at t1
    have h5 := fun M1 p => h5 M1 p ez
    have h0 := fun M1 p => h0 M1 p ez
    have st : ip_wp X 25 34 [.ref 6, .ref 1] [] N K = ip_wp X 25 47 [.ref 6, .ref 1] [] N K := by
      simp (config := { maxSteps := 10000000, maxDischargeDepth := 30, decide := true }) only [w25_34, w25_35, w25_38, w25_41, ↓ip_ka0, ip_vr_some, Option.toList_some, List.nil_append, List.cons_append, List.length_nil, ↓reduceIte, Nat.zero_le, ip_b_f, gS_6 hGN, gS_7 hGN, gS_13 hGN, gS_14 hGN, gS_15 hGN, gS_16 hGN, gS_1 hGN, gR_6_0 hGN, gR_6_1 hGN, gR_6_2 hGN, gR_6_7 hGN, gR_6_8 hGN, gR_6_9 hGN, gR_6_10 hGN, gR_6_11 hGN, hGN, t1]
    refine Eq.mpr st ?_
    have hFN : zF (N.2.1 1 0).toInt (N.2.1 1 1).toInt (N.2.1 1 2).toInt = true := by rw [e0, e1, e2]; exact hF
    unfold k_ok at h5 h0
    refine o_25a_6 X N K f g hGN hFN bf bg (k_iz_nz ez) hf hg (fun M2 p2 hc => ?_) (fun M2 p2 eI cu cw hc => ?_)
    · refine h5 M2 (pf_t pN p2) ?_
      rw [e0, e1, e2] at hc
      rw [← Bool.and_assoc, hc, Bool.false_and]
    · rw [e0, e1, e2] at cu cw hc
      rw [Bool.and_eq_true] at hc
      have hG2 := pf_G p2 hGN
      have i0 : M2.2.1 1 0 = M.2.1 1 0 := by rw [eI]; exact e0
      have i1 : M2.2.1 1 1 = M.2.1 1 1 := by rw [eI]; exact e1
      have i2 : M2.2.1 1 2 = M.2.1 1 2 := by rw [eI]; exact e2
      refine o_25b_6 X M2 K (zl (kQ (M.2.1 1 0).toInt (M.2.1 1 1).toInt (M.2.1 1 2).toInt g f)) (zl (kQ (M.2.1 1 0).toInt (M.2.1 1 1).toInt (M.2.1 1 2).toInt (1, 0, 0, 1) f)) hG2 cu cw (fun hh M3 p3 => ?_) (fun hh => ?_)
      · refine h5 M3 (pf_t pN (pf_t p2 p3)) ?_
        rw [i0, i1, i2] at hh
        rw [hc.1, hc.2, Bool.true_and, Bool.true_and]
        rw [Bool.or_eq_true] at hh
        rcases hh with hh | hh
        · rw [hh, Bool.not_true, Bool.false_and]
        · rw [hh, Bool.not_true, Bool.false_and, Bool.and_false]
      · rw [i0, i1, i2] at hh ⊢
        rw [Bool.or_eq_false_iff] at hh
        have pB : pf 6 M2 (ip_uI (ip_uI M2 6 12 (c_f4 (M.2.1 1 0).toInt (M.2.1 1 1).toInt (M.2.1 1 2).toInt (zl (kQ (M.2.1 1 0).toInt (M.2.1 1 1).toInt (M.2.1 1 2).toInt g f)))) 6 13 (c_f4 (M.2.1 1 0).toInt (M.2.1 1 1).toInt (M.2.1 1 2).toInt (zl (kQ (M.2.1 1 0).toInt (M.2.1 1 1).toInt (M.2.1 1 2).toInt (1, 0, 0, 1) f)))) := pf_uI (pf_uI (pf_r _ _) (by omega)) (by omega)
        have pA := pf_t pN (pf_t p2 pB)
        generalize hB : ip_uI (ip_uI M2 6 12 (c_f4 (M.2.1 1 0).toInt (M.2.1 1 1).toInt (M.2.1 1 2).toInt (zl (kQ (M.2.1 1 0).toInt (M.2.1 1 1).toInt (M.2.1 1 2).toInt g f)))) 6 13 (c_f4 (M.2.1 1 0).toInt (M.2.1 1 1).toInt (M.2.1 1 2).toInt (zl (kQ (M.2.1 1 0).toInt (M.2.1 1 1).toInt (M.2.1 1 2).toInt (1, 0, 0, 1) f))) = B at *
        have hGB : ip_G B := by rw [← hB]; exact hG2
        have b4 : B.2.1 6 4 = Int32.ofNat k := (pA.2.2.1 6 4 (by omega)).trans hs
        have b14 : B.2.1 6 14 = ip_b t := by
          rw [← hB]
          simp (decide := true) only [ip_uI_I, and_false, ↓reduceIte]
          rw [eI]
          exact h14
        have b12 : B.2.1 6 12 = c_f4 (M.2.1 1 0).toInt (M.2.1 1 1).toInt (M.2.1 1 2).toInt (zl (kQ (M.2.1 1 0).toInt (M.2.1 1 1).toInt (M.2.1 1 2).toInt g f)) := by
          rw [← hB]
          simp (decide := true) only [ip_uI_I, and_false, and_true, ↓reduceIte]
        have b13 : B.2.1 6 13 = c_f4 (M.2.1 1 0).toInt (M.2.1 1 1).toInt (M.2.1 1 2).toInt (zl (kQ (M.2.1 1 0).toInt (M.2.1 1 1).toInt (M.2.1 1 2).toInt (1, 0, 0, 1) f)) := by
          rw [← hB]
          simp (decide := true) only [ip_uI_I, and_true, ↓reduceIte]
        have bu : cv B 15 (zl (kQ (M.2.1 1 0).toInt (M.2.1 1 1).toInt (M.2.1 1 2).toInt g f)) := by rw [← hB]; exact cu
        have bv : cv B 16 (zl (kQ (M.2.1 1 0).toInt (M.2.1 1 1).toInt (M.2.1 1 2).toInt (1, 0, 0, 1) f)) := by rw [← hB]; exact cw
        have s4 : B.2.1 7 (10 * k + 4) = M.2.1 7 (10 * k + 4) := pA.2.2.1 _ _ (by omega)
        have s9 : B.2.1 7 (10 * k + 9) = M.2.1 7 (10 * k + 9) := pA.2.2.1 _ _ (by omega)
        have sP : B.2.2.1 10 = M.2.2.1 10 := pA.2.2.2 _ (by omega)
        clear hB
        refine o_25c_6 X B K k t hk b4 b14 hGB (fun M4 p4 eI4 eL4 e9 => ?_)
        rw [s4, s9, sP] at e9 ⊢
        cases hb : k_bn (k_nx (M.2.2.1 10) (M.2.1 7 (10 * k + 4)) (M.2.1 7 (10 * k + 9)) t) 9 0
        · simp only [Bool.false_eq_true, ↓reduceIte]
          refine h0 M4 (pf_t pA p4) ?_ ?_ ?_ ?_ ?_ ?_ e9
          · rw [hc.1, hc.2, hh.1, hh.2, hb]
            rfl
          · unfold cv
            rw [eL4 _ (by decide)]
            exact bu
          · unfold cv
            rw [eL4 _ (by decide)]
            exact bv
          · rw [eI4]; exact b12
          · rw [eI4]; exact b13
          · rw [eI4]; exact b14
        · simp only [↓reduceIte]
          refine h5 M4 (pf_t pA p4) ?_
          rw [hc.1, hc.2, hh.1, hh.2, hb]
          rfl

/-- whether the STEP from STATE k is TURNED, what is left over, exchanged -/
def k_t6 (M : ip_H) (k : Nat) : Bool := decide (M.2.1 6 3 = 1) && r_lt (M.2.1 1 0).toInt (M.2.1 1 1).toInt (M.2.1 1 2).toInt (k_rs (M.2.1 7) (10 * k + 0)) (k_rs (M.2.1 7) (10 * k + 5))
def k_f6 (M : ip_H) (k : Nat) : Int × Int × Int × Int := if k_t6 M k = true then (k_rs (M.2.1 7) (10 * k + 5)) else (k_rs (M.2.1 7) (10 * k + 0))
def k_g6 (M : ip_H) (k : Nat) : Int × Int × Int × Int := if k_t6 M k = true then (k_rs (M.2.1 7) (10 * k + 0)) else (k_rs (M.2.1 7) (10 * k + 5))
set_option maxHeartbeats 40000000 in
set_option maxRecDepth 100000 in
theorem o_25_6 (X : ip_X) (M : ip_H) (K : Option Value → ip_H → Prop) (k : Nat) (hk : k ≤ 60) (hs : M.2.1 6 4 = Int32.ofNat k) (hG : ip_G M) (hF : zF (M.2.1 1 0).toInt (M.2.1 1 1).toInt (M.2.1 1 2).toInt = true) (b0 : c_fb (k_rs (M.2.1 7) (10 * k + 0))) (b1 : c_fb (k_rs (M.2.1 7) (10 * k + 5)))
  (hoff : M.2.1 6 3 = -1 → K (some (.int (-3))) M) (hend : ¬ M.2.1 6 3 = -1 → k_en6 M k = true → K (some (.int (-3))) M) (h60 : ¬ M.2.1 6 3 = -1 → k_en6 M k = false → k = 60 → K (some (.int (-5))) M)
  (h3 : ¬ M.2.1 6 3 = -1 → k_en6 M k = false → k < 60 → ∀ M1, pf 6 M M1 → k_iz (k_f6 M k) = true → K (some (.int (-3))) M1)
  (h5 : ¬ M.2.1 6 3 = -1 → k_en6 M k = false → k < 60 → ∀ M1, pf 6 M M1 → k_iz (k_f6 M k) = false → k_ok (M.2.1 1 0).toInt (M.2.1 1 1).toInt (M.2.1 1 2).toInt (k_f6 M k) (k_g6 M k) (M.2.2.1 10) (M.2.1 7 (10 * k + 4)) (M.2.1 7 (10 * k + 9)) (k_t6 M k) = false → K (some (.int (-5))) M1)
  (h0 : ¬ M.2.1 6 3 = -1 → k_en6 M k = false → k < 60 → ∀ M1, pf 6 M M1 → k_iz (k_f6 M k) = false → k_ok (M.2.1 1 0).toInt (M.2.1 1 1).toInt (M.2.1 1 2).toInt (k_f6 M k) (k_g6 M k) (M.2.2.1 10) (M.2.1 7 (10 * k + 4)) (M.2.1 7 (10 * k + 9)) (k_t6 M k) = true → cv M1 15 (zl (kQ (M.2.1 1 0).toInt (M.2.1 1 1).toInt (M.2.1 1 2).toInt (k_g6 M k) (k_f6 M k))) → cv M1 16 (zl (kQ (M.2.1 1 0).toInt (M.2.1 1 1).toInt (M.2.1 1 2).toInt (1, 0, 0, 1) (k_f6 M k))) → M1.2.1 6 12 = c_f4 (M.2.1 1 0).toInt (M.2.1 1 1).toInt (M.2.1 1 2).toInt (zl (kQ (M.2.1 1 0).toInt (M.2.1 1 1).toInt (M.2.1 1 2).toInt (k_g6 M k) (k_f6 M k))) → M1.2.1 6 13 = c_f4 (M.2.1 1 0).toInt (M.2.1 1 1).toInt (M.2.1 1 2).toInt (zl (kQ (M.2.1 1 0).toInt (M.2.1 1 1).toInt (M.2.1 1 2).toInt (1, 0, 0, 1) (k_f6 M k))) → M1.2.1 6 14 = ip_b (k_t6 M k) → (∀ j, j < 9 → M1.2.2.1 12 j = k_nx (M.2.2.1 10) (M.2.1 7 (10 * k + 4)) (M.2.1 7 (10 * k + 9)) (k_t6 M k) j) → K (some (.int 0)) M1) : ip_wp X 25 0 [.ref 6, .ref 1] [] M K := by
  have a1 := fun K => s_11_6 X M K hG
  have a2 := fun K => s_23_6 X M K k hk hs hG
  by_cases q1 : M.2.1 6 3 = -1
  · have h := hoff q1
    rw [decide_eq_true q1] at a1
    simp (config := { maxSteps := 10000000, maxDischargeDepth := 30, decide := true }) only [w25_0, w25_1, w25_4, w25_14, w25_16, ↓ip_ka0, Option.toList_some, List.nil_append, List.cons_append, List.length_nil, ↓reduceIte, Nat.zero_le, ip_b_f, gS_6 hG, a1, Bool.not_true]
    exact h
  rw [decide_eq_false q1] at a1
  cases q2 : k_en6 M k
  case true =>
    rw [q2] at a2
    have h := hend q1 q2
    simp (config := { maxSteps := 10000000, maxDischargeDepth := 30, decide := true }) only [w25_0, w25_1, w25_4, w25_7, w25_8, w25_11, w25_14, w25_16, ↓ip_ka0, Option.toList_some, List.nil_append, List.cons_append, List.length_nil, ↓reduceIte, Nat.zero_le, ip_b_t, gS_6 hG, a1, a2, Bool.not_false]
    exact h
  rw [q2] at a2
  have g : (Int32.ofNat k < 60) = (k < 60) := by rw [show (60 : Int32) = Int32.ofNat 60 from rfl, ip_nlt _ _ (by omega) (by decide)]
  by_cases q3 : k < 60
  case neg =>
    have h := h60 q1 q2 (by omega)
    simp (config := { maxSteps := 10000000, maxDischargeDepth := 30, decide := true }) only [w25_0, w25_1, w25_4, w25_7, w25_8, w25_11, w25_17, w25_18, w25_21, w25_23, w25_26, w25_28, ↓ip_ka0, Option.toList_some, List.nil_append, List.cons_append, List.length_nil, ↓reduceIte, Nat.zero_le, ip_b_t, ip_b_f, gS_6 hG, a1, a2, hs, g, q3, Bool.not_false]
    exact h
  have h3 := h3 q1 q2 q3
  have h5 := h5 q1 q2 q3
  have h0 := h0 q1 q2 q3
  simp (config := { maxSteps := 10000000, maxDischargeDepth := 30, decide := true }) only [w25_0, w25_1, w25_4, w25_7, w25_8, w25_11, w25_17, w25_18, w25_21, w25_23, w25_29, w25_30, w25_31, ↓ip_ka0, ↓ip_ka1, Option.toList_some, List.nil_append, List.cons_append, List.length_nil, ↓reduceIte, Nat.zero_le, ip_b_t, ip_b_f, gS_6 hG, a1, a2, hs, g, q3, Bool.not_false]
  refine Eq.mpr (s_26a_6 X M _ k hk hs hG) ?_
  obtain ⟨cf, cg⟩ := k_r4_6_f M k
  have pr := k_r4_6_pf M k
  have hGr : ip_G (k_r4_6 M k) := gG_uL _ _ _ _ (gG_uL _ _ _ _ (gG_kv _ _ _ (gG_kv _ _ _ hG)))
  cases ht : k_t6 M k
  · have ef : k_f6 M k = (k_rs (M.2.1 7) (10 * k + 0)) := by unfold k_f6; rw [ht]; rfl
    have eg : k_g6 M k = (k_rs (M.2.1 7) (10 * k + 5)) := by unfold k_g6; rw [ht]; rfl
    rw [ht, ef, eg] at h5 h0
    rw [ef] at h3
    refine o_26n_6 X _ _ (k_rs (M.2.1 7) (10 * k + 0)) (k_rs (M.2.1 7) (10 * k + 5)) hGr cf cg (fun hw => ?_) (fun M1 p1 c1 c2 e14 => ?_)
    · have hw' : M.2.1 6 3 = 1 := hw
      unfold k_t6 at ht
      rw [decide_eq_true hw', Bool.true_and] at ht
      exact ht
    · have t25 : ip_wp X 25 34 [.ref 6, .ref 1] [] M1 K := o_25d_6 X M K M1 k false (k_rs (M.2.1 7) (10 * k + 0)) (k_rs (M.2.1 7) (10 * k + 5)) hk hs hG hF b0 b1 (pf_t pr p1) c1 c2 e14 h3 h5 h0
      exact t25
  · have ef : k_f6 M k = (k_rs (M.2.1 7) (10 * k + 5)) := by unfold k_f6; rw [ht]; rfl
    have eg : k_g6 M k = (k_rs (M.2.1 7) (10 * k + 0)) := by unfold k_g6; rw [ht]; rfl
    rw [ht, ef, eg] at h5 h0
    rw [ef] at h3
    unfold k_t6 at ht
    rw [Bool.and_eq_true, decide_eq_true_eq] at ht
    refine o_26t_6 X _ _ (k_rs (M.2.1 7) (10 * k + 0)) (k_rs (M.2.1 7) (10 * k + 5)) hGr cf cg ht.1 ht.2 (fun M1 p1 c1 c2 e14 => ?_)
    have t25 : ip_wp X 25 34 [.ref 6, .ref 1] [] M1 K := o_25d_6 X M K M1 k true (k_rs (M.2.1 7) (10 * k + 5)) (k_rs (M.2.1 7) (10 * k + 0)) hk hs hG hF b1 b0 (pf_t pr p1) c1 c2 e14 h3 h5 h0
    exact t25
end
noncomputable section
-- PART c13yf13.det
-- A ROW IS DETERMINED: each STATE is the STEP of the one before
def q_fu (N : Nat → Int32) (j : Nat) : Int32 := c_fl N (r_v N 0) (r_v N 1) (r_v N 2) (153 + 8 * j)
def q_fv (N : Nat → Int32) (j : Nat) : Int32 := c_fl N (r_v N 0) (r_v N 1) (r_v N 2) (153 + 8 * j + 4)
def q_f0 (N : Nat → Int32) (j : Nat) : Int × Int × Int × Int := (r_v N (153 + 8 * j) - (q_fu N j).toInt * r_v N (153 + 8 * j + 3), r_v N (153 + 8 * j + 1), r_v N (153 + 8 * j + 2), r_v N (153 + 8 * j + 3))
def q_g0 (N : Nat → Int32) (j : Nat) : Int × Int × Int × Int := (r_v N (153 + 8 * j + 4) - (q_fv N j).toInt * r_v N (153 + 8 * j + 7), r_v N (153 + 8 * j + 5), r_v N (153 + 8 * j + 6), r_v N (153 + 8 * j + 7))
def q_t (N : Nat → Int32) (j : Nat) : Bool := decide (N 4 = 1) && r_lt (r_v N 0) (r_v N 1) (r_v N 2) (q_f0 N j) (q_g0 N j)
def q_f (N : Nat → Int32) (j : Nat) : Int × Int × Int × Int := if q_t N j = true then q_g0 N j else q_f0 N j
def q_g (N : Nat → Int32) (j : Nat) : Int × Int × Int × Int := if q_t N j = true then q_f0 N j else q_g0 N j
def q_e (N : Nat → Int32) (j : Nat) : Bool := decide (Int64.ofInt (q_f N j).1 = 0) && (decide (Int64.ofInt (q_f N j).2.1 = 0) && decide (Int64.ofInt (q_f N j).2.2.1 = 0))
theorem q_r (N : Nat → Int32) : r_fu N = q_fu N (r_k N) ∧ r_fv N = q_fv N (r_k N) ∧ r_f0 N = q_f0 N (r_k N) ∧ r_g0 N = q_g0 N (r_k N) ∧ r_t N = q_t N (r_k N) ∧ r_f N = q_f N (r_k N) ∧ r_g N = q_g N (r_k N) ∧ r_e N = q_e N (r_k N) := ⟨rfl, rfl, rfl, rfl, rfl, rfl, rfl, rfl⟩
theorem q_cg {N N' : Nat → Int32} {j : Nat} (h0 : ∀ b, b < 5 → N' b = N b) (h : ∀ i, i < 8 → N' (153 + 8 * j + i) = N (153 + 8 * j + i)) : q_fu N' j = q_fu N j ∧ q_fv N' j = q_fv N j ∧ q_t N' j = q_t N j ∧ q_f N' j = q_f N j ∧ q_g N' j = q_g N j ∧ q_e N' j = q_e N j := by
  have a0 := h0 0 (by decide)
  have a1 := h0 1 (by decide)
  have a2 := h0 2 (by decide)
  have a4 := h0 4 (by decide)
  have s0 := h 0 (by decide)
  have s1 := h 1 (by decide)
  have s2 := h 2 (by decide)
  have s3 := h 3 (by decide)
  have s4 := h 4 (by decide)
  have s5 := h 5 (by decide)
  have s6 := h 6 (by decide)
  have s7 := h 7 (by decide)
  rw [Nat.add_zero] at s0
  have eu : q_fu N' j = q_fu N j := by
    unfold q_fu c_fl r_v
    rw [a0, a1, a2, s0, s1, s2, s3]
  have ev : q_fv N' j = q_fv N j := by
    unfold q_fv c_fl r_v
    simp only [Nat.add_assoc, Nat.reduceAdd] at s4 s5 s6 s7 ⊢
    rw [a0, a1, a2, s4, s5, s6, s7]
  have ef : q_f0 N' j = q_f0 N j := by
    unfold q_f0 r_v
    rw [eu, s0, s1, s2, s3]
  have eg : q_g0 N' j = q_g0 N j := by
    unfold q_g0 r_v
    rw [ev, s4, s5, s6, s7]
  have et : q_t N' j = q_t N j := by
    unfold q_t r_v
    rw [a0, a1, a2, a4, ef, eg]
  have ef' : q_f N' j = q_f N j := by
    unfold q_f
    rw [et, ef, eg]
  refine ⟨eu, ev, et, ef', ?_, ?_⟩
  · unfold q_g
    rw [et, ef, eg]
  · unfold q_e
    rw [ef']
/-- four numbers of a row -/
def z4 (N : Nat → Int32) (s : Nat) (z : Int × Int × Int × Int) : Prop := N s = Int32.ofInt z.1 ∧ N (s + 1) = Int32.ofInt z.2.1 ∧ N (s + 2) = Int32.ofInt z.2.2.1 ∧ N (s + 3) = Int32.ofInt z.2.2.2
theorem z4_c {N N' : Nat → Int32} {s : Nat} {z : Int × Int × Int × Int} (h : ∀ i, i < 4 → N' (s + i) = N (s + i)) (g : z4 N s z) : z4 N' s z := by
  obtain ⟨g0, g1, g2, g3⟩ := g
  exact ⟨(h 0 (by decide)).trans g0, (h 1 (by decide)).trans g1, (h 2 (by decide)).trans g2, (h 3 (by decide)).trans g3⟩
/-- PRODUCT behind j STEPS -/
def q_P (N : Nat → Int32) : Nat → Nat → Int64
  | 0 => fun i => if i % 4 = 0 then 1 else 0
  | j + 1 => q_nx false (q_P N j) (N (641 + 3 * j)).toInt64 (N (641 + 3 * j + 1)).toInt64 (b1 (N (641 + 3 * j + 2)))
/-- STEP j is right -/
def q_s (N : Nat → Int32) (j : Nat) : Prop := q_e N j = false ∧ N (641 + 3 * j) = q_fu N j ∧ N (641 + 3 * j + 1) = q_fv N j ∧ N (641 + 3 * j + 2) = ip_b (q_t N j) ∧
  z4 N (153 + 8 * (j + 1)) (zQ4 (r_v N 0) (r_v N 1) (r_v N 2) (q_g N j) (q_f N j)) ∧ z4 N (153 + 8 * (j + 1) + 4) (zQ4 (r_v N 0) (r_v N 1) (r_v N 2) (1, 0, 0, 1) (q_f N j)) ∧
  z_nxt (r_v N 0) (r_v N 1) (r_v N 2) (zQ4 (r_v N 0) (r_v N 1) (r_v N 2) (q_g N j) (q_f N j)) = true ∧ z_nxt (r_v N 0) (r_v N 1) (r_v N 2) (zQ4 (r_v N 0) (r_v N 1) (r_v N 2) (1, 0, 0, 1) (q_f N j)) = true ∧
  (q_c false (q_P N j) (N (641 + 3 * j)).toInt64 (N (641 + 3 * j + 1)).toInt64).2 = false
/-- the PERIOD known behind j STEPS -/
def q_pe (N : Nat → Int32) : Nat → Option (Nat × Nat)
  | 0 => none
  | j + 1 => match q_pe N j with
    | some q => some q
    | none => (lbk N (j + 1) (j + 1) 0).map fun k => (k, j + 1 - k)
def q_po (N : Nat → Int32) : Option (Nat × Nat) → Prop
  | none => N 6 = -1
  | some q => N 6 = Int32.ofNat q.1 ∧ N 7 = Int32.ofNat q.2
def q_lw (N : Nat → Int32) (s : Nat) : Prop := z_low (qi N s)
/-- ALL THAT DETERMINES A ROW -/
def q_ok (N : Nat → Int32) (P : Nat → Int64) : Prop := (∀ i, i < 6 → q_lw N (9 + 4 * i)) ∧ (¬ N 3 = 0 → (N 4 = 0 ∨ N 4 = 1) ∧ (∀ j, j < r_k N → q_s N j) ∧ (∀ i, i < 9 → P i = q_P N (r_k N) i) ∧ q_po N (q_pe N (r_k N)) ∧ ∀ j, j ≤ r_k N → q_lw N (153 + 8 * j) ∧ q_lw N (153 + 8 * j + 4))
theorem q_P_c {N N' : Nat → Int32} : ∀ (j : Nat), (∀ i, i < 3 * j → N' (641 + i) = N (641 + i)) → q_P N' j = q_P N j := by
  intro j
  induction j with
  | zero => intro h; rfl
  | succ j ih =>
    intro h
    have h0 := h (3 * j) (by omega)
    have h1 := h (3 * j + 1) (by omega)
    have h2 := h (3 * j + 2) (by omega)
    simp only [← Nat.add_assoc] at h1 h2
    unfold q_P
    rw [ih (fun i hi => h i (by omega)), h0, h1, h2]
theorem alk_c {N N' : Nat → Int32} {k l : Nat} (hk : ∀ i, i < 8 → N' (153 + 8 * k + i) = N (153 + 8 * k + i)) (hl : ∀ i, i < 8 → N' (153 + 8 * l + i) = N (153 + 8 * l + i)) : alk N' k l = alk N k l := by
  have a0 := hk 0 (by decide)
  have b0 := hl 0 (by decide)
  rw [Nat.add_zero] at a0 b0
  unfold alk
  rw [a0, b0, hk 1 (by decide), hk 2 (by decide), hk 3 (by decide), hk 4 (by decide), hk 5 (by decide), hk 6 (by decide), hk 7 (by decide), hl 1 (by decide), hl 2 (by decide), hl 3 (by decide), hl 4 (by decide), hl 5 (by decide), hl 6 (by decide), hl 7 (by decide)]
theorem lbk_c {N N' : Nat → Int32} {last : Nat} : ∀ (n k : Nat), k + n ≤ last → (∀ i, i < 8 * (last + 1) → N' (153 + i) = N (153 + i)) → lbk N' last n k = lbk N last n k := by
  intro n
  induction n with
  | zero => intro k _ _; rfl
  | succ n ih =>
    intro k hk h
    have e : alk N' k last = alk N k last := alk_c (fun i hi => by
      have := h (8 * k + i) (by omega)
      simp only [← Nat.add_assoc] at this
      exact this) (fun i hi => by
      have := h (8 * last + i) (by omega)
      simp only [← Nat.add_assoc] at this
      exact this)
    rw [lbk, lbk, e, ih (k + 1) (by omega) h]
theorem q_pe_c {N N' : Nat → Int32} : ∀ (j : Nat), (∀ i, i < 8 * (j + 1) → N' (153 + i) = N (153 + i)) → q_pe N' j = q_pe N j := by
  intro j
  induction j with
  | zero => intro _; rfl
  | succ j ih =>
    intro h
    unfold q_pe
    rw [ih (fun i hi => h i (by omega)), lbk_c (j + 1) 0 (by omega) h]
theorem q_lw_c {N N' : Nat → Int32} {s : Nat} (h : ∀ i, i < 4 → N' (s + i) = N (s + i)) (g : q_lw N s) : q_lw N' s := by
  unfold q_lw qi at *
  have h0 := h 0 (by decide)
  rw [Nat.add_zero] at h0
  rw [h0, h 1 (by decide), h 2 (by decide), h 3 (by decide)]
  exact g
theorem q_s_c {N N' : Nat → Int32} {j : Nat} (h0 : ∀ b, b < 5 → N' b = N b) (h : ∀ i, i < 8 * (j + 2) → N' (153 + i) = N (153 + i)) (hd : ∀ i, i < 3 * (j + 1) → N' (641 + i) = N (641 + i)) (g : q_s N j) : q_s N' j := by
  have hs : ∀ (a i : Nat), 8 * a + i < 8 * (j + 2) → N' (153 + 8 * a + i) = N (153 + 8 * a + i) := fun a i hi => by
    have := h (8 * a + i) hi
    simp only [← Nat.add_assoc] at this
    exact this
  obtain ⟨eu, ev, et, ef, eg, ee⟩ := q_cg h0 (fun i hi => hs j i (by omega))
  have p0 : r_v N' 0 = r_v N 0 := by unfold r_v; rw [h0 0 (by decide)]
  have p1 : r_v N' 1 = r_v N 1 := by unfold r_v; rw [h0 1 (by decide)]
  have p2 : r_v N' 2 = r_v N 2 := by unfold r_v; rw [h0 2 (by decide)]
  have d0 := hd (3 * j) (by omega)
  have d1 := hd (3 * j + 1) (by omega)
  have d2 := hd (3 * j + 2) (by omega)
  simp only [← Nat.add_assoc] at d1 d2
  have eP : q_P N' j = q_P N j := q_P_c j (fun i hi => hd i (by omega))
  obtain ⟨g1, g2, g3, g4, g5, g6, g7, g8, g9⟩ := g
  unfold q_s
  rw [eu, ev, et, ef, eg, ee, p0, p1, p2, d0, d1, d2, eP]
  refine ⟨g1, g2, g3, g4, z4_c (fun i hi => hs (j + 1) i (by omega)) g5, z4_c (fun i hi => ?_) g6, g7, g8, g9⟩
  have := hs (j + 1) (4 + i) (by omega)
  simp only [← Nat.add_assoc] at this
  exact this
theorem q_ok_c {N N' : Nat → Int32} {P P' : Nat → Int64} (h : ∀ b, b < 821 → N' b = N b) (hP : ∀ i, i < 9 → P' i = P i) (hk : ¬ N 3 = 0 → r_k N ≤ 60) (g : q_ok N P) : q_ok N' P' := by
  obtain ⟨g1, g2⟩ := g
  refine ⟨fun i hi => q_lw_c (fun j hj => h _ (by omega)) (g1 i hi), fun h3 => ?_⟩
  rw [h 3 (by decide)] at h3
  have h60 := hk h3
  obtain ⟨a1, a2, a3, a4, a5⟩ := g2 h3
  have ek : r_k N' = r_k N := by unfold r_k; rw [h 5 (by decide)]
  rw [ek]
  refine ⟨by rw [h 4 (by decide)]; exact a1, fun j hj => q_s_c (fun b hb => h b (by omega)) (fun i hi => h _ (by omega)) (fun i hi => h _ (by omega)) (a2 j hj), fun i hi => ?_, ?_, fun j hj => ?_⟩
  · rw [hP i hi, q_P_c (r_k N) (fun i hi => h _ (by omega))]
    exact a3 i hi
  · rw [q_pe_c (r_k N) (fun i hi => h _ (by omega))]
    generalize q_pe N (r_k N) = o at a4 ⊢
    cases o with
    | none => exact (h 6 (by decide)).trans a4
    | some q => exact ⟨(h 6 (by decide)).trans a4.1, (h 7 (by decide)).trans a4.2⟩
  · exact ⟨q_lw_c (fun i hi => h _ (by omega)) (a5 j hj).1, q_lw_c (fun i hi => h _ (by omega)) (a5 j hj).2⟩
theorem q_pe_b (N : Nat → Int32) : ∀ (j : Nat) (q : Nat × Nat), q_pe N j = some q → q.1 + q.2 ≤ j ∧ 1 ≤ q.2 := by
  intro j
  induction j with
  | zero => intro q h; cases h
  | succ j ih =>
    intro q h
    unfold q_pe at h
    cases e : q_pe N j with
    | some s =>
      rw [e] at h
      cases h
      have := ih _ e
      omega
    | none =>
      rw [e] at h
      cases e2 : lbk N (j + 1) (j + 1) 0 with
      | none => rw [e2] at h; cases h
      | some m =>
        rw [e2] at h
        have hm := lbk_lt N (j + 1) (j + 1) 0 m e2
        have hq : q = (m, j + 1 - m) := by
          have h2 : some (m, j + 1 - m) = some q := h
          exact (Option.some.inj h2).symm
        rw [hq]
        dsimp only
        omega
end
noncomputable section
-- PART c13yf14.detk
-- ROWS DETERMINED, through all that the reference does
theorem z_low_zl {z : Int × Int × Int × Int} (hd : z.2.2.2 ≠ 0) : z_low (zl z) := by
  obtain ⟨a, b, c, d⟩ := z
  dsimp only at hd
  obtain ⟨h1, h2, h3, h4⟩ := zl_back a b c d hd
  unfold z_low
  have hp := zgg_pos (a := a) (b := b) (c := c) hd
  have eg : (zg a b c d).natAbs = Int.gcd (Int.gcd a b) (Int.gcd c d) := by
    unfold zg
    split <;> omega
  generalize (zl (a, b, c, d)).1 = a' at *
  generalize (zl (a, b, c, d)).2.1 = b' at *
  generalize (zl (a, b, c, d)).2.2.1 = c' at *
  generalize (zl (a, b, c, d)).2.2.2 = d' at *
  generalize zg a b c d = g at *
  have e : Int.gcd (Int.gcd a b) (Int.gcd c d) = g.natAbs * Int.gcd (Int.gcd a' b') (Int.gcd c' d') := by
    have k1 : Int.gcd a b = g.natAbs * Int.gcd a' b' := by rw [h1, h2]; exact Int.gcd_mul_left g a' b'
    have k2 : Int.gcd c d = g.natAbs * Int.gcd c' d' := by rw [h3, h4]; exact Int.gcd_mul_left g c' d'
    rw [k1, k2, Int.natCast_mul, Int.natCast_mul, Int.gcd_mul_left, Int.natAbs_natCast]
  rw [← eg] at e hp
  have e2 : g.natAbs * Int.gcd (Int.gcd a' b') (Int.gcd c' d') = g.natAbs * 1 := by omega
  exact Nat.eq_of_mul_eq_mul_left hp e2
theorem q_c9 {g h : Nat → Int64} (e : ∀ i, i < 9 → g i = h i) (B : Bool) (a b : Int64) : q_c B g a b = q_c B h a b := by
  unfold q_c q_b q_a
  rw [e 0 (by decide), e 1 (by decide), e 2 (by decide), e 3 (by decide), e 4 (by decide), e 5 (by decide), e 6 (by decide), e 7 (by decide), e 8 (by decide)]
theorem q_nx9 {g h : Nat → Int64} (e : ∀ i, i < 9 → g i = h i) (B : Bool) (a b : Int64) (t : Bool) (i : Nat) (hi : i < 9) : q_nx B g a b t i = q_nx B h a b t i := by
  unfold q_nx q_c q_b q_a
  rw [e 0 (by decide), e 1 (by decide), e 2 (by decide), e 3 (by decide), e 4 (by decide), e 5 (by decide), e 6 (by decide), e 7 (by decide), e 8 (by decide)]
/-- a value within bounds, laid into a row, told back -/
theorem q_lw_put {N : Nat → Int32} {s : Nat} {z : Int × Int × Int × Int} (h : z4 N s z) (hb : c_v4 z) (hl : z_low z) : q_lw N s := by
  obtain ⟨h0, h1, h2, h3⟩ := h
  obtain ⟨b0, b1, b2, b3, b4⟩ := hb
  unfold q_lw qi z_low
  dsimp only
  rw [h0, h1, h2, h3, z_i32 b0 (by decide), z_i32 b1 (by decide), z_i32 b2 (by decide), z_i32 (n := 150) ⟨by omega, by omega⟩ (by decide)]
  exact hl
/-- another store, all else as it was -/
theorem q_ok_st {N N' : Nat → Int32} {P : Nat → Int64} (h : ∀ j, j < 821 → (j < 9 ∨ 33 ≤ j) → N' j = N j) (hs : ∀ i, i < 6 → q_lw N' (9 + 4 * i)) (hk : ¬ N 3 = 0 → r_k N ≤ 60) (g : q_ok N P) : q_ok N' P := by
  refine ⟨hs, fun h3 => ?_⟩
  rw [h 3 (by decide) (by decide)] at h3
  have h60 := hk h3
  obtain ⟨a1, a2, a3, a4, a5⟩ := g.2 h3
  have ek : r_k N' = r_k N := by unfold r_k; rw [h 5 (by decide) (by decide)]
  rw [ek]
  refine ⟨by rw [h 4 (by decide) (by decide)]; exact a1, fun j hj => q_s_c (fun b hb => h b (by omega) (by omega)) (fun i hi => h _ (by omega) (by omega)) (fun i hi => h _ (by omega) (by omega)) (a2 j hj), fun i hi => ?_, ?_, fun j hj => ?_⟩
  · rw [q_P_c (r_k N) (fun i hi => h _ (by omega) (by omega))]
    exact a3 i hi
  · rw [q_pe_c (r_k N) (fun i hi => h _ (by omega) (by omega))]
    generalize q_pe N (r_k N) = o at a4 ⊢
    cases o with
    | none => exact (h 6 (by decide) (by decide)).trans a4
    | some q => exact ⟨(h 6 (by decide) (by decide)).trans a4.1, (h 7 (by decide) (by decide)).trans a4.2⟩
  · exact ⟨q_lw_c (fun i hi => h _ (by omega) (by omega)) (a5 j hj).1, q_lw_c (fun i hi => h _ (by omega) (by omega)) (a5 j hj).2⟩
-- A STEP
theorem q_ok_dn (L : ip_H) (t : Bool) (hg : rw_ok (L.2.1 109)) (hq : q_ok (L.2.1 109) (L.2.2.1 110)) (h3 : ¬ L.2.1 109 3 = 0) (he : r_e (L.2.1 109) = false) (ht : tried L L) (h27 : L.2.1 108 27 = ip_b t) : q_ok ((c_dn1 L t).2.1 109) ((c_dn1 L t).2.2.1 110) ∧ q_s ((c_dn1 L t).2.1 109) (r_k (L.2.1 109)) := by
  obtain ⟨hF, hc, -⟩ := hg
  have hcr := hc h3
  have hbf := crs_fg hF hcr
  obtain ⟨hk5, hk60, -⟩ := hcr
  obtain ⟨n60, hB, u, v, eu, ev, zu, zv, e17, e18, e27, e118, y0, y1, y2, y3, y4, y5, y6, y7⟩ := ht
  have hk : r_k (L.2.1 109) < 60 := by omega
  obtain ⟨s0, s1⟩ := hq
  obtain ⟨a1, a2, a3, a4, a5⟩ := s1 h3
  have et : t = r_t (L.2.1 109) := by
    rw [e27] at h27
    have := congrArg b1 h27
    rw [b1_b, b1_b] at this
    exact this.symm
  have nz := r_e_nz hbf.1 he
  have b1' : c_fb (1, 0, 0, 1) := ⟨⟨by decide, by decide⟩, ⟨by decide, by decide⟩, ⟨by decide, by decide⟩, by decide, by decide⟩
  have bu : c_v4 u ∧ z_low u := by
    have q := zQ4_b hF hbf.2 hbf.1 nz
    have c := z_nxt_c zu
    rw [eu] at c ⊢
    obtain ⟨q1, q2, q3', q4, q5⟩ := q
    have w : ∀ x, zb 13500000000000000 x → zb 9223372036854775807 x := fun x h => zb_w h (by decide)
    have zc := zcan_z (w _ q1) (w _ q2) (w _ q3') (w _ q4)
    have c := Eq.mp zc c
    exact ⟨⟨c.1, c.2.1, c.2.2.1, q5, c.2.2.2⟩, z_low_zl (zQ_b hF hbf.2.1 hbf.2.2.1 hbf.2.2.2.1 ⟨hbf.2.2.2.2.1, hbf.2.2.2.2.2⟩ ⟨hbf.1.2.2.2.1, hbf.1.2.2.2.2⟩ hbf.1.1 hbf.1.2.1 hbf.1.2.2.1 nz).2.2.2.2⟩
  have bv : c_v4 v ∧ z_low v := by
    have q := zQ4_b hF b1' hbf.1 nz
    have c := z_nxt_c zv
    rw [ev] at c ⊢
    obtain ⟨q1, q2, q3', q4, q5⟩ := q
    have w : ∀ x, zb 13500000000000000 x → zb 9223372036854775807 x := fun x h => zb_w h (by decide)
    have zc := zcan_z (w _ q1) (w _ q2) (w _ q3') (w _ q4)
    have c := Eq.mp zc c
    exact ⟨⟨c.1, c.2.1, c.2.2.1, q5, c.2.2.2⟩, z_low_zl (zQ_b hF b1'.1 b1'.2.1 b1'.2.2.1 ⟨by decide, by decide⟩ ⟨hbf.1.2.2.2.1, hbf.1.2.2.2.2⟩ hbf.1.1 hbf.1.2.1 hbf.1.2.2.1 nz).2.2.2.2⟩
  have I := fun j h => c_dn1_I L t j h
  have LL := fun j h => c_dn1_L L t j h
  have lb : (c_dn1 L t).2.1 109 6 = (if L.2.1 109 6 = -1 then (match lbk ((c_do L (r_k (L.2.1 109)) t).2.1 109) (r_k (L.2.1 109) + 1) (r_k (L.2.1 109) + 1) 0 with | none => L.2.1 109 6 | some m => Int32.ofNat m) else L.2.1 109 6) ∧ (c_dn1 L t).2.1 109 7 = (if L.2.1 109 6 = -1 then (match lbk ((c_do L (r_k (L.2.1 109)) t).2.1 109) (r_k (L.2.1 109) + 1) (r_k (L.2.1 109) + 1) 0 with | none => L.2.1 109 7 | some m => Int32.ofNat (r_k (L.2.1 109) + 1 - m)) else L.2.1 109 7) := by
    have d6 : (c_do L (r_k (L.2.1 109)) t).2.1 109 6 = L.2.1 109 6 := by
      unfold c_do
      rw [ip_sL_I, ip_sI_I, if_pos rfl, c_dof_out _ _ _ _ _ _ _ (by omega) (by omega) (by omega)]
    have d7 : (c_do L (r_k (L.2.1 109)) t).2.1 109 7 = L.2.1 109 7 := by
      unfold c_do
      rw [ip_sL_I, ip_sI_I, if_pos rfl, c_dof_out _ _ _ _ _ _ _ (by omega) (by omega) (by omega)]
    unfold c_dn1 c_lb
    rw [d6]
    by_cases h6 : L.2.1 109 6 = -1
    · rw [if_pos h6, if_pos h6, if_pos h6]
      generalize lbk ((c_do L (r_k (L.2.1 109)) t).2.1 109) (r_k (L.2.1 109) + 1) (r_k (L.2.1 109) + 1) 0 = o
      cases o with
      | none => exact ⟨d6, d7⟩
      | some m =>
        unfold c_lbm
        constructor
        · rw [ip_uI_I, if_neg (by omega), ip_uI_I, if_pos ⟨rfl, rfl⟩]
        · rw [ip_uI_I, if_pos ⟨rfl, rfl⟩]
    · rw [if_neg h6, if_neg h6, if_neg h6]
      exact ⟨d6, d7⟩
  have lk : lbk ((c_do L (r_k (L.2.1 109)) t).2.1 109) (r_k (L.2.1 109) + 1) (r_k (L.2.1 109) + 1) 0 = lbk ((c_dn1 L t).2.1 109) (r_k (L.2.1 109) + 1) (r_k (L.2.1 109) + 1) 0 := lbk_c _ 0 (by omega) (fun i hi => by
    unfold c_dn1
    rw [c_lb_I _ _ _ _ (by omega)])
  rw [lk] at lb
  obtain ⟨l6, l7⟩ := lb
  clear lk
  have rk' : r_k ((c_dn1 L t).2.1 109) = r_k (L.2.1 109) + 1 := by
    unfold r_k
    rw [c_dn1_5, ip_nc _ (by omega)]
    rfl
  obtain ⟨r1, r2, -, -, r5, r6, r7, r8⟩ := q_r (L.2.1 109)
  generalize hN' : (c_dn1 L t).2.1 109 = N' at *
  generalize hP' : (c_dn1 L t).2.2.1 110 = P' at *
  generalize hN : L.2.1 109 = N at *
  generalize hP : L.2.2.1 110 = P at *
  generalize hk' : r_k N = k at *
  have out : ∀ j, ¬ j = 5 → ¬ (j = 6 ∨ j = 7) → (j < 153 + 8 * (k + 1) ∨ 153 + 8 * (k + 1) + 8 ≤ j) → (j < 641 + 3 * k ∨ 641 + 3 * k + 3 ≤ j) → N' j = N j := fun j q1 q2 q3 q4 => by
    rw [I j q2, c_dof_out _ _ _ _ _ _ _ q1 q3 q4]
  have st : ∀ i, i < 8 → N' (153 + 8 * (k + 1) + i) = L.2.1 119 i := fun i hi => by
    rw [I _ (by omega)]
    exact c_dof_s _ _ _ _ _ _ _ hk hi
  have dg0 : N' (641 + 3 * k) = r_fu N := by
    rw [I _ (by omega), ← e17]
    unfold c_dof
    rw [if_neg (by omega), if_neg (by omega), if_neg (by omega), if_pos rfl]
  have dg1 : N' (641 + 3 * k + 1) = r_fv N := by
    rw [I _ (by omega), ← e18]
    unfold c_dof
    rw [if_neg (by omega), if_neg (by omega), if_pos rfl]
  have dg2 : N' (641 + 3 * k + 2) = ip_b t := by
    rw [I _ (by omega)]
    exact c_dof_t _ _ _ _ _ _
  obtain ⟨cu, cv, ct, cf, cg, ce⟩ := q_cg (N := N) (N' := N') (j := k) (fun b hb => out b (by omega) (by omega) (by omega) (by omega)) (fun i hi => out _ (by omega) (by omega) (by omega) (by omega))
  have p0 : r_v N' 0 = r_v N 0 := by unfold r_v; rw [out 0 (by omega) (by omega) (by omega) (by omega)]
  have p1 : r_v N' 1 = r_v N 1 := by unfold r_v; rw [out 1 (by omega) (by omega) (by omega) (by omega)]
  have p2 : r_v N' 2 = r_v N 2 := by unfold r_v; rw [out 2 (by omega) (by omega) (by omega) (by omega)]
  have ePk : q_P N' k = q_P N k := q_P_c k (fun i hi => out _ (by omega) (by omega) (by omega) (by omega))
  have zz1 : z4 N' (153 + 8 * (k + 1)) u := ⟨(st 0 (by decide)).trans y0, (st 1 (by decide)).trans y1, (st 2 (by decide)).trans y2, (st 3 (by decide)).trans y3⟩
  have zz2 : z4 N' (153 + 8 * (k + 1) + 4) v := ⟨(st 4 (by decide)).trans y4, (st 5 (by decide)).trans y5, (st 6 (by decide)).trans y6, (st 7 (by decide)).trans y7⟩
  rw [r6, r7] at eu
  rw [r6] at ev
  rw [eu] at zu
  rw [ev] at zv
  have sk : q_s N' k := by
    unfold q_s
    rw [cu, cv, ct, cf, cg, ce, p0, p1, p2, ePk, dg0, dg1, dg2]
    refine ⟨by rw [← r8]; exact he, r1, r2, by rw [et, r5], by rw [← eu]; exact zz1, by rw [← ev]; exact zz2, zu, zv, ?_⟩
    rw [q_c9 (fun i hi => (a3 i hi).symm)]
    exact hB
  refine ⟨⟨fun i hi => q_lw_c (fun j hj => out _ (by omega) (by omega) (by omega) (by omega)) (s0 i hi), fun _ => ?_⟩, sk⟩
  rw [rk']
  refine ⟨by rw [out 4 (by omega) (by omega) (by omega) (by omega)]; exact a1, fun j hj => ?_, fun i hi => ?_, ?_, fun j hj => ?_⟩
  · by_cases hjk : j = k
    · rw [hjk]
      exact sk
    · exact q_s_c (fun b hb => out b (by omega) (by omega) (by omega) (by omega)) (fun i hi => out _ (by omega) (by omega) (by omega) (by omega)) (fun i hi => out _ (by omega) (by omega) (by omega) (by omega)) (a2 j (by omega))
  · rw [LL i hi, e118 i hi, q_nx9 a3 _ _ _ _ i hi, show q_P N' (k + 1) = q_nx false (q_P N' k) (N' (641 + 3 * k)).toInt64 (N' (641 + 3 * k + 1)).toInt64 (b1 (N' (641 + 3 * k + 2))) from rfl, ePk, dg0, dg1, dg2, b1_b, et]
  · have pk : q_pe N' k = q_pe N k := q_pe_c k (fun i hi => out _ (by omega) (by omega) (by omega) (by omega))
    unfold q_pe
    rw [pk]
    cases hpe : q_pe N k with
    | some q =>
      rw [hpe] at a4
      have n6 : ¬ N 6 = -1 := by
        rw [a4.1]
        intro e
        have hb := q_pe_b N k q hpe
        have h1 := congrArg Int32.toInt e
        rw [ip_nt _ (by omega), show (-1 : Int32).toInt = -1 from rfl] at h1
        omega
      rw [if_neg n6] at l6 l7
      exact ⟨l6.trans a4.1, l7.trans a4.2⟩
    | none =>
      rw [hpe] at a4
      have a4' : N 6 = -1 := a4
      rw [if_pos a4'] at l6 l7
      generalize lbk N' (k + 1) (k + 1) 0 = o at *
      cases o with
      | none => exact l6.trans a4'
      | some m => exact ⟨l6, l7⟩
  · by_cases hjk : j = k + 1
    · rw [hjk]
      exact ⟨q_lw_put zz1 bu.1 bu.2, q_lw_put zz2 bv.1 bv.2⟩
    · exact ⟨q_lw_c (fun i hi => out _ (by omega) (by omega) (by omega) (by omega)) (a5 j (by omega)).1, q_lw_c (fun i hi => out _ (by omega) (by omega) (by omega) (by omega)) (a5 j (by omega)).2⟩
end
noncomputable section
-- PART c13yf15.tryx
-- THE REFERENCE: what is refused, and why
set_option maxHeartbeats 40000000 in
set_option maxRecDepth 100000 in
theorem s_219dx (X : ip_X) (S : ip_H) (K : Option Value → ip_H → Prop) (p q r : Int) (f : Int × Int × Int × Int) (GS : ip_G S) (hp : (S.2.1 109 0).toInt = p) (hqq : (S.2.1 109 1).toInt = q) (hr : (S.2.1 109 2).toInt = r) (hF : zF p q r = true) (bf : c_fb f) (f0 : c_nz f) (q19 : S.2.2.1 108 19 = Int64.ofInt f.1) (q20 : S.2.2.1 108 20 = Int64.ofInt f.2.1) (q21 : S.2.2.1 108 21 = Int64.ofInt f.2.2.1) (q22 : S.2.2.1 108 22 = Int64.ofInt f.2.2.2)
    (v : Int × Int × Int × Int) (hv : v = zQ4 p q r (1, 0, 0, 1) f) (h0 : z_nxt p q r v = false → K (some (.int 0)) (c_x4 S v)) (h1 : z_nxt p q r v = true → K (some (.int 1)) (c_cm (c_x4 S v) 4 (Int32.ofInt v.1) (Int32.ofInt v.2.1) (Int32.ofInt v.2.2.1) (Int32.ofInt v.2.2.2))) : ip_wp X 219 105 [.ref 108] [] S K := by
  subst hp hqq hr
  have hqS : q3 (S.2.1 109 1) = true := by rw [q3_b]; exact (zF_b hF).2.1
  have gS8 := gS_108 GS
  have bb : c_fb (1, 0, 0, 1) := ⟨zb_c _ _ (by decide) (by decide), zb_c _ _ (by decide) (by decide), zb_c _ _ (by decide) (by decide), by decide, by decide⟩
  obtain ⟨v1, v2, v3, v4, v5⟩ := zQ4_b hF bb bf f0
  rw [← hv] at v1 v2 v3 v4
  have l1 : (1 : Int64) = Int64.ofInt 1 := rfl
  have l0 : (0 : Int64) = Int64.ofInt 0 := rfl
  simp (config := { maxSteps := 10000000, maxDischargeDepth := 30, decide := true }) only [w219_105, w219_106, w219_107, w219_108, w219_109, w219_110, w219_111, w219_114, w219_115, w219_118, w219_119, w219_122, w219_123, w219_126, ↓ip_ka0, List.length_nil, Nat.zero_le, gS8, GS, q19, q20, q21, q22, l1, l0]
  refine Eq.mpr (s_192 X S _ 1 0 0 1 f.1 f.2.1 f.2.2.1 f.2.2.2 GS hF bb.1 bb.2.1 bb.2.2.1 bb.2.2.2 bf.2.2.2 bf.1 bf.2.1 bf.2.2.1 f0) ?_
  have eV : ip_wp X 219 129 [.ref 108] [] (c_x4 S v) K := by
    simp (config := { maxSteps := 10000000, maxDischargeDepth := 30, decide := true }) only [w219_129, w219_130, w219_131, ↓ip_ka0, List.length_nil, Nat.zero_le, gS8, GS, c_x4_sh]
    refine Eq.mpr (s_218_4 X S _ v v1 v2 v3 v4 GS hqS) ?_
    split
    · rename_i hz2
      simp (config := { maxSteps := 10000000, maxDischargeDepth := 30, decide := true }) only [w219_134, Option.toList_some, List.nil_append, List.cons_append, or_true]
      exact h1 hz2
    · rename_i hz2
      simp (config := { maxSteps := 10000000, maxDischargeDepth := 30, decide := true }) only [w219_134, Option.toList_some, List.nil_append, List.cons_append, or_false]
      exact h0 (Bool.eq_false_iff.mpr hz2)
  rw [hv] at eV
  exact eV

set_option maxHeartbeats 40000000 in
set_option maxRecDepth 100000 in
theorem s_219cx (X : ip_X) (S : ip_H) (K : Option Value → ip_H → Prop) (p q r : Int) (f g : Int × Int × Int × Int) (GS : ip_G S) (hp : (S.2.1 109 0).toInt = p) (hqq : (S.2.1 109 1).toInt = q) (hr : (S.2.1 109 2).toInt = r) (hF : zF p q r = true) (bf : c_fb f) (bg : c_fb g) (f0 : c_nz f) (q19 : S.2.2.1 108 19 = Int64.ofInt f.1) (q20 : S.2.2.1 108 20 = Int64.ofInt f.2.1) (q21 : S.2.2.1 108 21 = Int64.ofInt f.2.2.1) (q22 : S.2.2.1 108 22 = Int64.ofInt f.2.2.2) (q23 : S.2.2.1 108 23 = Int64.ofInt g.1) (q24 : S.2.2.1 108 24 = Int64.ofInt g.2.1) (q25 : S.2.2.1 108 25 = Int64.ofInt g.2.2.1) (q26 : S.2.2.1 108 26 = Int64.ofInt g.2.2.2)
    (u v : Int × Int × Int × Int) (hu : u = zQ4 p q r g f) (hv : v = zQ4 p q r (1, 0, 0, 1) f)
    (h0 : z_nxt p q r u = false → K (some (.int 0)) (c_x4 S u)) (h0' : z_nxt p q r v = false → K (some (.int 0)) (c_x4 (c_cm (c_x4 S u) 0 (Int32.ofInt u.1) (Int32.ofInt u.2.1) (Int32.ofInt u.2.2.1) (Int32.ofInt u.2.2.2)) v)) (h1 : z_nxt p q r u = true → z_nxt p q r v = true → K (some (.int 1)) (c_cm (c_x4 (c_cm (c_x4 S u) 0 (Int32.ofInt u.1) (Int32.ofInt u.2.1) (Int32.ofInt u.2.2.1) (Int32.ofInt u.2.2.2)) v) 4 (Int32.ofInt v.1) (Int32.ofInt v.2.1) (Int32.ofInt v.2.2.1) (Int32.ofInt v.2.2.2))) : ip_wp X 219 59 [.ref 108] [] S K := by
  have hS1 := hp
  have hS2 := hqq
  have hS3 := hr
  subst hp hqq hr
  have hqS : q3 (S.2.1 109 1) = true := by rw [q3_b]; exact (zF_b hF).2.1
  have gS8 := gS_108 GS
  obtain ⟨v1, v2, v3, v4, v5⟩ := zQ4_b hF bg bf f0
  rw [← hu] at v1 v2 v3 v4
  simp (config := { maxSteps := 10000000, maxDischargeDepth := 30, decide := true }) only [w219_59, w219_60, w219_61, w219_64, w219_65, w219_68, w219_69, w219_72, w219_73, w219_76, w219_77, w219_80, w219_81, w219_84, w219_85, w219_88, w219_89, w219_92, ↓ip_ka0, List.length_nil, Nat.zero_le, gS8, GS, q19, q20, q21, q22, q23, q24, q25, q26]
  refine Eq.mpr (s_192 X S _ g.1 g.2.1 g.2.2.1 g.2.2.2 f.1 f.2.1 f.2.2.1 f.2.2.2 GS hF bg.1 bg.2.1 bg.2.2.1 bg.2.2.2 bf.2.2.2 bf.1 bf.2.1 bf.2.2.1 f0) ?_
  have eV : ip_wp X 219 95 [.ref 108] [] (c_x4 S u) K := by
    simp (config := { maxSteps := 10000000, maxDischargeDepth := 30, decide := true }) only [w219_95, w219_96, w219_97, ↓ip_ka0, List.length_nil, Nat.zero_le, gS8, GS, c_x4_sh]
    refine Eq.mpr (s_218_0 X S _ u v1 v2 v3 v4 GS hqS) ?_
    split
    · rename_i hz2
      have h1 := h1 hz2
      simp (config := { maxSteps := 10000000, maxDischargeDepth := 30, decide := true }) only [w219_100, w219_103, w219_104, Option.toList_some, List.nil_append, List.cons_append, ↓reduceIte]
      exact s_219dx X (c_cm (c_x4 S u) 0 (Int32.ofInt u.1) (Int32.ofInt u.2.1) (Int32.ofInt u.2.2.1) (Int32.ofInt u.2.2.2)) K _ _ _ f GS rfl rfl rfl hF bf f0 q19 q20 q21 q22 v hv h0' h1
    · rename_i hz2
      simp (config := { maxSteps := 10000000, maxDischargeDepth := 30, decide := true }) only [w219_100, w219_103, w219_104, Option.toList_some, List.nil_append, List.cons_append, ↓reduceIte, or_false]
      exact h0 (Bool.eq_false_iff.mpr hz2)
  rw [hu] at eV
  exact eV

set_option maxHeartbeats 40000000 in
set_option maxRecDepth 100000 in
theorem s_219x (X : ip_X) (M : ip_H) (K : Option Value → ip_H → Prop) (hG : ip_G M) (hq : q3 (M.2.1 109 1) = true) (hk : M.2.1 109 5 = Int32.ofNat (r_k (M.2.1 109))) (hk6 : r_k (M.2.1 109) ≤ 60) (hF : zF (M.2.1 109 0).toInt (M.2.1 109 1).toInt (M.2.1 109 2).toInt = true) (bf : c_fb (r_f (M.2.1 109))) (bg : c_fb (r_g (M.2.1 109))) (f0 : c_nz (r_f (M.2.1 109)))
    (h0 : ∀ M1, scr M M1 → (r_k (M.2.1 109) = 60 ∨ (q_c false (M.2.2.1 110) (r_fu (M.2.1 109)).toInt64 (r_fv (M.2.1 109)).toInt64).2 = true ∨ z_nxt (M.2.1 109 0).toInt (M.2.1 109 1).toInt (M.2.1 109 2).toInt (zQ4 (M.2.1 109 0).toInt (M.2.1 109 1).toInt (M.2.1 109 2).toInt (r_g (M.2.1 109)) (r_f (M.2.1 109))) = false ∨ z_nxt (M.2.1 109 0).toInt (M.2.1 109 1).toInt (M.2.1 109 2).toInt (zQ4 (M.2.1 109 0).toInt (M.2.1 109 1).toInt (M.2.1 109 2).toInt (1, 0, 0, 1) (r_f (M.2.1 109))) = false) → K (some (.int 0)) M1)
    (h1 : ∀ M1, scr M M1 → r_k (M.2.1 109) ≠ 60 → (q_c false (M.2.2.1 110) (r_fu (M.2.1 109)).toInt64 (r_fv (M.2.1 109)).toInt64).2 = false → ∀ u v, u = (zQ4 (M.2.1 109 0).toInt (M.2.1 109 1).toInt (M.2.1 109 2).toInt (r_g (M.2.1 109)) (r_f (M.2.1 109))) → v = (zQ4 (M.2.1 109 0).toInt (M.2.1 109 1).toInt (M.2.1 109 2).toInt (1, 0, 0, 1) (r_f (M.2.1 109))) → z_nxt (M.2.1 109 0).toInt (M.2.1 109 1).toInt (M.2.1 109 2).toInt u = true → z_nxt (M.2.1 109 0).toInt (M.2.1 109 1).toInt (M.2.1 109 2).toInt v = true → M1 = c_cm (c_x4 (c_cm (c_x4 (c_sq (ip_uI (c_pm M) 108 29 0) false (M.2.2.1 110) (r_fu (M.2.1 109)).toInt64 (r_fv (M.2.1 109)).toInt64 (r_t (M.2.1 109))) u) 0 (Int32.ofInt u.1) (Int32.ofInt u.2.1) (Int32.ofInt u.2.2.1) (Int32.ofInt u.2.2.2)) v) 4 (Int32.ofInt v.1) (Int32.ofInt v.2.1) (Int32.ofInt v.2.2.1) (Int32.ofInt v.2.2.2) → K (some (.int 1)) M1) : ip_wp X 219 0 [.ref 108] [] M K := by
  have s1 : scr M (c_sq (ip_uI (c_pm M) 108 29 0) false (M.2.2.1 110) (r_fu (M.2.1 109)).toInt64 (r_fv (M.2.1 109)).toInt64 (r_t (M.2.1 109))) := scr_sq (scr_uI (scr_pt (scr_r M)) rfl)
  by_cases h60 : r_k (M.2.1 109) = 60
  · have e60 : (Int32.ofNat (r_k (M.2.1 109)) = 60) = True := eq_true (by rw [h60]; rfl)
    simp (config := { maxSteps := 10000000, maxDischargeDepth := 30, decide := true }) only [w219_0, w219_1, w219_4, w219_5, w219_6, w219_8, w219_11, w219_12, w219_13, w219_14, w219_17, w219_18, w219_19, w219_22, w219_23, w219_24, w219_27, w219_28, w219_31, w219_32, w219_35, w219_36, w219_39, w219_42, w219_43, w219_46, w219_47, w219_50, w219_51, w219_54, w219_57, w219_58, w219_59, w219_60, w219_61, w219_64, w219_65, w219_68, w219_69, w219_72, w219_73, w219_76, w219_77, w219_80, w219_81, w219_84, w219_85, w219_88, w219_89, w219_92, w219_95, w219_96, w219_97, w219_100, w219_103, w219_104, w219_105, w219_106, w219_107, w219_108, w219_109, w219_110, w219_111, w219_114, w219_115, w219_118, w219_119, w219_122, w219_123, w219_126, w219_129, w219_130, w219_131, w219_134, ↓ip_ka0, ip_vr_some, ↓reduceIte, or_false, Int32.reduceToNatClampNeg, ip_ix_eq, gS_108 hG, gS_109 hG, gR_108_1 hG, hk, e60]
    exact h0 M (scr_r M) (Or.inl h60)
  cases hB : (q_c false (M.2.2.1 110) (r_fu (M.2.1 109)).toInt64 (r_fv (M.2.1 109)).toInt64).2
  · rw [s_219b X M K hG hq hk hk6 h60 hB]
    have rS := scr_row s1
    have q19 : (c_sq (ip_uI (c_pm M) 108 29 0) false (M.2.2.1 110) (r_fu (M.2.1 109)).toInt64 (r_fv (M.2.1 109)).toInt64 (r_t (M.2.1 109))).2.2.1 108 19 = Int64.ofInt (r_f (M.2.1 109)).1 := by rw [c_sq_L _ _ _ _ _ _ _ _ (by decide)]; rfl
    have q20 : (c_sq (ip_uI (c_pm M) 108 29 0) false (M.2.2.1 110) (r_fu (M.2.1 109)).toInt64 (r_fv (M.2.1 109)).toInt64 (r_t (M.2.1 109))).2.2.1 108 20 = Int64.ofInt (r_f (M.2.1 109)).2.1 := by rw [c_sq_L _ _ _ _ _ _ _ _ (by decide)]; rfl
    have q21 : (c_sq (ip_uI (c_pm M) 108 29 0) false (M.2.2.1 110) (r_fu (M.2.1 109)).toInt64 (r_fv (M.2.1 109)).toInt64 (r_t (M.2.1 109))).2.2.1 108 21 = Int64.ofInt (r_f (M.2.1 109)).2.2.1 := by rw [c_sq_L _ _ _ _ _ _ _ _ (by decide)]; rfl
    have q22 : (c_sq (ip_uI (c_pm M) 108 29 0) false (M.2.2.1 110) (r_fu (M.2.1 109)).toInt64 (r_fv (M.2.1 109)).toInt64 (r_t (M.2.1 109))).2.2.1 108 22 = Int64.ofInt (r_f (M.2.1 109)).2.2.2 := by rw [c_sq_L _ _ _ _ _ _ _ _ (by decide)]; rfl
    have q23 : (c_sq (ip_uI (c_pm M) 108 29 0) false (M.2.2.1 110) (r_fu (M.2.1 109)).toInt64 (r_fv (M.2.1 109)).toInt64 (r_t (M.2.1 109))).2.2.1 108 23 = Int64.ofInt (r_g (M.2.1 109)).1 := by rw [c_sq_L _ _ _ _ _ _ _ _ (by decide)]; rfl
    have q24 : (c_sq (ip_uI (c_pm M) 108 29 0) false (M.2.2.1 110) (r_fu (M.2.1 109)).toInt64 (r_fv (M.2.1 109)).toInt64 (r_t (M.2.1 109))).2.2.1 108 24 = Int64.ofInt (r_g (M.2.1 109)).2.1 := by rw [c_sq_L _ _ _ _ _ _ _ _ (by decide)]; rfl
    have q25 : (c_sq (ip_uI (c_pm M) 108 29 0) false (M.2.2.1 110) (r_fu (M.2.1 109)).toInt64 (r_fv (M.2.1 109)).toInt64 (r_t (M.2.1 109))).2.2.1 108 25 = Int64.ofInt (r_g (M.2.1 109)).2.2.1 := by rw [c_sq_L _ _ _ _ _ _ _ _ (by decide)]; rfl
    have q26 : (c_sq (ip_uI (c_pm M) 108 29 0) false (M.2.2.1 110) (r_fu (M.2.1 109)).toInt64 (r_fv (M.2.1 109)).toInt64 (r_t (M.2.1 109))).2.2.1 108 26 = Int64.ofInt (r_g (M.2.1 109)).2.2.2 := by rw [c_sq_L _ _ _ _ _ _ _ _ (by decide)]; rfl
    have h1 := fun M1 hs => h1 M1 hs h60 hB _ _ rfl rfl
    exact s_219cx X _ K (M.2.1 109 0).toInt (M.2.1 109 1).toInt (M.2.1 109 2).toInt _ _ (scr_G s1 hG) (by rw [rS]) (by rw [rS]) (by rw [rS]) hF bf bg f0 q19 q20 q21 q22 q23 q24 q25 q26 _ _ rfl rfl (fun z => h0 _ (scr_x4 s1) (Or.inr (Or.inr (Or.inl z)))) (fun z => h0 _ (scr_x4 (scr_cm (scr_x4 s1))) (Or.inr (Or.inr (Or.inr z)))) (fun a b => h1 _ (scr_cm (scr_x4 (scr_cm (scr_x4 s1)))) a b rfl)
  · rw [s_219a X M K hG hq hk hk6 h60 hB]
    exact h0 _ s1 (Or.inr (Or.inl hB))

set_option maxHeartbeats 40000000 in
set_option maxRecDepth 100000 in
theorem o_219x (X : ip_X) (M : ip_H) (K : Option Value → ip_H → Prop) (hG : ip_G M) (hc : crs (M.2.1 109)) (hF : zF (M.2.1 109 0).toInt (M.2.1 109 1).toInt (M.2.1 109 2).toInt = true) (he : r_e (M.2.1 109) = false)
    (h0 : ∀ M1, scr M M1 → (r_k (M.2.1 109) = 60 ∨ (q_c false (M.2.2.1 110) (r_fu (M.2.1 109)).toInt64 (r_fv (M.2.1 109)).toInt64).2 = true ∨ z_nxt (M.2.1 109 0).toInt (M.2.1 109 1).toInt (M.2.1 109 2).toInt (zQ4 (M.2.1 109 0).toInt (M.2.1 109 1).toInt (M.2.1 109 2).toInt (r_g (M.2.1 109)) (r_f (M.2.1 109))) = false ∨ z_nxt (M.2.1 109 0).toInt (M.2.1 109 1).toInt (M.2.1 109 2).toInt (zQ4 (M.2.1 109 0).toInt (M.2.1 109 1).toInt (M.2.1 109 2).toInt (1, 0, 0, 1) (r_f (M.2.1 109))) = false) → K (some (.int 0)) M1) (h1 : ∀ M1, scr M M1 → tried M M1 → K (some (.int 1)) M1) : ip_wp X 219 0 [.ref 108] [] M K := by
  have hq : q3 (M.2.1 109 1) = true := by rw [q3_b]; exact (zF_b hF).2.1
  obtain ⟨bf, bg⟩ := crs_fg hF hc
  refine s_219x X M K hG hq hc.1 hc.2.1 hF bf bg (r_e_nz bf he) h0 ?_
  intro M1 hs h60 hB u v hu hv hzu hzv hM
  refine h1 M1 hs ⟨h60, hB, u, v, hu, hv, hzu, hzv, ?_⟩
  have q : ∀ j, j < 9 → M1.2.2.1 118 j = q_nx false (M.2.2.1 110) (r_fu (M.2.1 109)).toInt64 (r_fv (M.2.1 109)).toInt64 (r_t (M.2.1 109)) j := by
    intro j hj
    rw [← c_sq_n (ip_uI (c_pm M) 108 29 0) _ _ _ _ _ _ hj, hM]
    unfold c_x4
    simp (decide := true) only [c_cm_L, ip_x4_L, false_and, ↓reduceIte]
  refine ⟨?_, ?_, ?_, q, ?_⟩
  · rw [hM]; unfold c_x4 c_pm; simp (decide := true) only [c_cm_I, ip_x4_I, c_sq_I, ip_uI_I, c_pt_I, ↓reduceIte]
  · rw [hM]; unfold c_x4 c_pm; simp (decide := true) only [c_cm_I, ip_x4_I, c_sq_I, ip_uI_I, c_pt_I, ↓reduceIte]
  · rw [hM]; unfold c_x4 c_pm; simp (decide := true) only [c_cm_I, ip_x4_I, c_sq_I, ip_uI_I, c_pt_I, ↓reduceIte]
  · rw [hM]
    unfold c_x4
    simp (decide := true) only [c_cm_I, ip_x4_I, ↓reduceIte, and_self]

/-- no STEP can be laid out -/
def notry (M : ip_H) : Prop := (r_k (M.2.1 109) = 60 ∨ (q_c false (M.2.2.1 110) (r_fu (M.2.1 109)).toInt64 (r_fv (M.2.1 109)).toInt64).2 = true ∨ z_nxt (M.2.1 109 0).toInt (M.2.1 109 1).toInt (M.2.1 109 2).toInt (zQ4 (M.2.1 109 0).toInt (M.2.1 109 1).toInt (M.2.1 109 2).toInt (r_g (M.2.1 109)) (r_f (M.2.1 109))) = false ∨ z_nxt (M.2.1 109 0).toInt (M.2.1 109 1).toInt (M.2.1 109 2).toInt (zQ4 (M.2.1 109 0).toInt (M.2.1 109 1).toInt (M.2.1 109 2).toInt (1, 0, 0, 1) (r_f (M.2.1 109))) = false)
theorem notry_row {M N : ip_H} (h1 : N.2.1 109 = M.2.1 109) (h2 : N.2.2.1 110 = M.2.2.1 110) (h : notry N) : notry M := by
  unfold notry at *
  rw [h1, h2] at h
  exact h
set_option maxHeartbeats 40000000 in
set_option maxRecDepth 100000 in
theorem o_223x (X : ip_X) (M : ip_H) (K : Option Value → ip_H → Prop) (hG : ip_G M) (hq : q3 (M.2.1 109 1) = true) (hm : m8 (M.2.1 108 12) = true) (ht : M.2.1 108 0 = 0) (hF : zF (M.2.1 109 0).toInt (M.2.1 109 1).toInt (M.2.1 109 2).toInt = true) (hc : onc (M.2.1 109)) (h1 : ∀ M1, scr M M1 → (M.2.1 109 3 = 0 ∨ r_e (M.2.1 109) = true) → K (some (.int (-3))) (c_no M1 3 (-3))) (h2 : ¬ M.2.1 109 3 = 0 → r_e (M.2.1 109) = false → ∀ M1, scr M M1 → notry M → K (some (.int (-5))) (c_no M1 5 (-5)))
    (h3 : ¬ M.2.1 109 3 = 0 → r_e (M.2.1 109) = false → ∀ M1, scr M M1 → tried M M1 → K (some (.int (Int32.ofNat (r_k (M.2.1 109) + 1)))) (c_ye (c_lb (c_do (c_ks M1 5) (r_k (M.2.1 109)) (r_t (M.2.1 109))) (r_k (M.2.1 109) + 1)))) : ip_wp X 223 0 [.ref 108] [] M K := by
  have et : ip_uI M 108 0 0 = M := ip_uI_id ht
  by_cases h30 : M.2.1 109 3 = 0
  · have h1 := h1 M (scr_r M) (Or.inl h30)
    simp (config := { maxSteps := 10000000, maxDischargeDepth := 30, decide := true }) only [w223_0, w223_1, w223_2, w223_5, w223_6, w223_9, w223_10, w223_11, w223_14, w223_15, w223_18, w223_21, w223_22, w223_24, w223_27, w223_28, w223_29, w223_32, w223_35, w223_36, w223_38, w223_41, w223_42, w223_43, w223_44, w223_47, w223_48, w223_51, w223_52, w223_53, w223_56, w223_57, w223_58, w223_61, ↓ip_ka0, ip_vr_some, Option.toList_some, List.nil_append, List.cons_append, List.length_nil, ↓reduceIte, Nat.zero_le, Int32.reduceToNatClampNeg, ip_ix_eq, gS_108 hG, gS_109 hG, gR_108_1 hG, hG, et, h30, s_167_3]
    exact h1
  obtain ⟨c1, c2, c3⟩ := hc h30
  cases he : r_e (M.2.1 109)
  case true =>
    have h1 := h1 _ (scr_pm M) (Or.inr he)
    have g8 : ip_sh (c_pm M) 108 = (0, 11, 48) := gS_108 hG
    have gp : ip_G (c_pm M) := gG_pt _ _ _ _ _ _ hG
    simp (config := { maxSteps := 10000000, maxDischargeDepth := 30, decide := true }) only [w223_0, w223_1, w223_2, w223_5, w223_6, w223_9, w223_10, w223_11, w223_14, w223_15, w223_18, w223_21, w223_22, w223_24, w223_27, w223_28, w223_29, w223_32, w223_35, w223_36, w223_38, w223_41, w223_42, w223_43, w223_44, w223_47, w223_48, w223_51, w223_52, w223_53, w223_56, w223_57, w223_58, w223_61, ↓ip_ka0, ip_vr_some, Option.toList_some, List.nil_append, List.cons_append, List.length_nil, ↓reduceIte, Nat.zero_le, ip_b_t, Int32.reduceToNatClampNeg, ip_ix_eq, gS_108 hG, gS_109 hG, gR_108_1 hG, hG, hq, c1, c2, et, h30, he, s_214, s_167_3, g8, gp]
    exact h1
  have h3 := h3 h30 he
  have h2 := h2 h30 he
  have t1 : ip_wp X 223 0 [.ref 108] [] M K = ip_wp X 223 28 [.ref 108] [] (c_pm M) K := by
    simp (config := { maxSteps := 10000000, maxDischargeDepth := 30, decide := true }) only [w223_0, w223_1, w223_2, w223_5, w223_6, w223_9, w223_10, w223_11, w223_14, w223_15, w223_18, w223_21, w223_22, w223_24, w223_27, ↓ip_ka0, ip_vr_some, Option.toList_some, List.nil_append, List.cons_append, List.length_nil, ↓reduceIte, Nat.zero_le, ip_b_f, Int32.reduceToNatClampNeg, ip_ix_eq, gS_108 hG, gS_109 hG, gR_108_1 hG, hG, hq, c1, c2, et, h30, he, s_214]
  rw [t1]
  have gp : ip_G (c_pm M) := gG_pt _ _ _ _ _ _ hG
  have g8 := gS_108 gp
  have rp := c_pm_row M
  have hcp : crs ((c_pm M).2.1 109) := by rw [rp]; exact ⟨c1, c2, c3⟩
  have hFp : zF ((c_pm M).2.1 109 0).toInt ((c_pm M).2.1 109 1).toInt ((c_pm M).2.1 109 2).toInt = true := by rw [rp]; exact hF
  have hep : r_e ((c_pm M).2.1 109) = false := by rw [rp]; exact he
  simp (config := { maxSteps := 10000000, maxDischargeDepth := 30, decide := true }) only [w223_28, ↓ip_ka0]
  simp (config := { maxSteps := 10000000, maxDischargeDepth := 30, decide := true }) only [w223_29, List.length_nil, Nat.zero_le, g8]
  refine o_219x X _ _ gp hcp hFp hep ?_ ?_
  · intro M1 hs hno
    have hs1 := scr_t (scr_pm M) hs
    have h2 := h2 M1 hs1 (notry_row rp (c_pm_110 M) hno)
    have g1 := scr_G hs1 hG
    have g81 := gS_108 g1
    simp (config := { maxSteps := 10000000, maxDischargeDepth := 30, decide := true }) only [w223_32, w223_35, w223_36, w223_38, w223_41, ↓ip_ka0, Option.toList_some, List.nil_append, List.cons_append, List.length_nil, ↓reduceIte, Nat.zero_le, g81, g1, s_167_5]
    exact h2
  · intro M1 hs htr
    have hs1 := scr_t (scr_pm M) hs
    have htr := tried_row rp (c_pm_110 M) htr
    have h3 := h3 M1 hs1 htr
    have g1 := scr_G hs1 hG
    have g81 := gS_108 g1
    have rr := scr_row hs1
    have hm1 : m8 (M1.2.1 108 12) = true := by rw [hs1.2.2.1 108 12 rfl]; exact hm
    obtain ⟨n60, -, u, v, -, -, -, -, -, -, htt, -⟩ := htr
    have k60 : r_k (M.2.1 109) < 60 := by omega
    have gk : ip_G (c_ks M1 5) := gG_ks _ _ g1
    have g8k := gS_108 gk
    have h5k : (c_ks M1 5).2.1 109 5 = Int32.ofNat (r_k (M.2.1 109)) := by
      rw [c_ks_I _ _ _ _ (by decide) (by decide) (by decide), rr]
      exact c1
    have htk : (c_ks M1 5).2.1 108 27 = ip_b (r_t (M.2.1 109)) := by
      rw [c_ks_I _ _ _ _ (by decide) (by decide) (by decide)]
      exact htt
    simp (config := { maxSteps := 10000000, maxDischargeDepth := 30, decide := true }) only [w223_32, w223_35, w223_36, w223_38, w223_41, w223_42, w223_43, w223_44, w223_47, ↓ip_ka0, Option.toList_some, Option.toList_none, List.nil_append, List.cons_append, List.length_nil, ↓reduceIte, Nat.zero_le, g81, g1, hm1, s_170u, g8k, gk]
    simp (config := { maxSteps := 10000000, maxDischargeDepth := 30, decide := true }) only [w223_48, List.length_nil, Nat.zero_le, g8k, gk]
    refine Eq.mpr (s_220 X _ _ _ k60 h5k _ htk gk) ?_
    have gD : ip_G (c_lb (c_do (c_ks M1 5) (r_k (M.2.1 109)) (r_t (M.2.1 109))) (r_k (M.2.1 109) + 1)) := gG_lb _ _ (gG_do _ _ _ gk)
    have g8D := gS_108 gD
    have gRD := gR_108_1 gD
    have gSD := gS_109 gD
    have h5D : (c_lb (c_do (c_ks M1 5) (r_k (M.2.1 109)) (r_t (M.2.1 109))) (r_k (M.2.1 109) + 1)).2.1 109 5 = Int32.ofNat (r_k (M.2.1 109) + 1) := by
      rw [c_lb_I _ _ _ _ (by omega)]
      exact c_do_5 _ _ _
    simp (config := { maxSteps := 10000000, maxDischargeDepth := 30, decide := true }) only [w223_51, w223_52, w223_53, w223_56, w223_57, w223_58, w223_61, ↓ip_ka0, ip_vr_some, Option.toList_some, Option.toList_none, List.nil_append, List.cons_append, List.length_nil, Nat.zero_le, Int32.reduceToNatClampNeg, ip_ix_eq, g8D, gD, gRD, gSD, h5D, s_168]
    exact h3
end
noncomputable section
-- PART c13yf16.coj
-- A COURSE of the class and a ROW of the reference, together
/-- four numbers of a STATE, as a row has them -/
theorem qi_of {f N : Nat → Int32} {a b : Nat} (h : ∀ x, x < 4 → f (a + x) = N (b + x)) : qi f a = qi N b := by
  have h0 := h 0 (by decide)
  simp only [Nat.add_zero] at h0
  unfold qi
  rw [h0, h 1 (by decide), h 2 (by decide), h 3 (by decide)]
theorem c_fl_f4 (N : Nat → Int32) (p q r : Int) (s : Nat) : c_fl N p q r s = c_f4 p q r (qi N s) := rfl
theorem z4_qi {N : Nat → Int32} {s : Nat} {z : Int × Int × Int × Int} (h : z4 N s z) (hb : c_v4 z) : qi N s = z := by
  obtain ⟨h0, h1, h2, h3⟩ := h
  obtain ⟨b0, b1, b2, b3, b4⟩ := hb
  unfold qi
  rw [h0, h1, h2, h3, z_i32 b0 (by decide), z_i32 b1 (by decide), z_i32 b2 (by decide), z_i32 (n := 150) ⟨by omega, by omega⟩ (by decide)]
theorem k_can_z {z : Int × Int × Int × Int} (h1 : 1 ≤ z.2.2.2) (h2 : zb 9223372036854775807 z.2.2.2) : k_can z = zcan z := by
  have e : (Int64.ofInt z.2.2.2 < 1) = (z.2.2.2 < 1) := z_lt (b := 1) h2 ⟨by decide, by decide⟩
  unfold k_can zcan
  have f : decide (Int64.ofInt z.2.2.2 < 1) = false := decide_eq_false (by rw [e]; omega)
  rw [f, Bool.not_false, Bool.true_and]
/-- whether a STEP can be: for both the same -/
theorem k_ok_nxt {p q r : Int} {f g : Int × Int × Int × Int} {P : Nat → Int64} {a b : Int32} {t : Bool} (hF : zF p q r = true) (bf : c_fb f) (bg : c_fb g) (nz : c_nz f) (hP : ∀ i, i < 9 → 0 ≤ (P i).toInt) (ha : 0 ≤ a.toInt) (hb : 0 ≤ b.toInt) : k_ok p q r f g P a b t = (z_nxt p q r (zQ4 p q r g f) && (z_nxt p q r (zQ4 p q r (1, 0, 0, 1) f) && !(q_c false P a.toInt64 b.toInt64).2)) := by
  have b1 : c_fb (1, 0, 0, 1) := ⟨⟨by decide, by decide⟩, ⟨by decide, by decide⟩, ⟨by decide, by decide⟩, by decide, by decide⟩
  have e1 := kQ_Q4 (v := g) hF nz (by have := bg.2.2.2.1; omega) (by have := bf.2.2.2.1; omega)
  have e2 := kQ_Q4 (v := (1, 0, 0, 1)) hF nz (by decide) (by have := bf.2.2.2.1; omega)
  have q1 := zQ4_b hF bg bf nz
  have q2 := zQ4_b hF b1 bf nz
  have w : ∀ x, zb 13500000000000000 x → zb 9223372036854775807 x := fun x h => zb_w h (by decide)
  have k1 := k_can_z q1.2.2.2.2 (w _ q1.2.2.2.1)
  have k2 := k_can_z q2.2.2.2.2 (w _ q2.2.2.2.1)
  have n := (kq_nx hP ha hb t).1
  unfold k_ok z_nxt
  rw [e1, e2, k1, k2, n]
  cases zcan (zQ4 p q r g f)
  · rfl
  · cases zcan (zQ4 p q r (1, 0, 0, 1) f)
    · simp only [Bool.false_and, Bool.and_false]
    · simp only [Bool.true_and, Bool.and_assoc]

/-- STATE i -/
def cst6 (M : ip_H) (N : Nat → Int32) (i : Nat) : Prop := (∀ x, x < 4 → M.2.1 7 (10 * i + x) = N (153 + 8 * i + x)) ∧ (∀ x, x < 4 → M.2.1 7 (10 * i + 5 + x) = N (153 + 8 * i + 4 + x)) ∧ M.2.1 7 (10 * i + 4) = q_fu N i ∧ M.2.1 7 (10 * i + 9) = q_fv N i
def cpo6 (M : ip_H) : Option (Nat × Nat) → Prop
  | none => M.2.1 6 5 = -1
  | some q => M.2.1 6 5 = Int32.ofNat q.1 ∧ M.2.1 6 6 = Int32.ofNat q.2
/-- the COURSE behind j STEPS of the row -/
def coj6 (M : ip_H) (N : Nat → Int32) (j : Nat) : Prop := M.2.1 6 4 = Int32.ofNat j ∧ M.2.1 6 3 = N 4 ∧ (∀ i, i ≤ j → cst6 M N i) ∧ (∀ i, i < j → M.2.1 8 (i + 1) = N (641 + 3 * i + 2)) ∧ (∀ x, x < 9 → M.2.2.1 10 x = q_P N j x) ∧ cpo6 M (q_pe N j)
/-- the field's numbers -/
theorem coj6_f {M : ip_H} {N : Nat → Int32} {j : Nat} (h : coj6 M N j) (hp : ∀ x, x < 3 → M.2.1 1 x = N x) : k_rs (M.2.1 7) (10 * j + 0) = q_f0 N j ∧ k_rs (M.2.1 7) (10 * j + 5) = q_g0 N j ∧ k_t6 M j = q_t N j ∧ k_f6 M j = q_f N j ∧ k_g6 M j = q_g N j ∧ M.2.1 7 (10 * j + 4) = q_fu N j ∧ M.2.1 7 (10 * j + 9) = q_fv N j := by
  obtain ⟨h1, h2, h3, -⟩ := h
  obtain ⟨s1, s2, s3, s4⟩ := h3 j (Nat.le_refl _)
  have e1 : qi (M.2.1 7) (10 * j + 0) = qi N (153 + 8 * j) := qi_of (fun x hx => by rw [Nat.add_zero]; exact s1 x hx)
  have e2 : qi (M.2.1 7) (10 * j + 5) = qi N (153 + 8 * j + 4) := qi_of s2
  have f0 : k_rs (M.2.1 7) (10 * j + 0) = q_f0 N j := by
    unfold k_rs
    rw [e1, Nat.add_zero, s3]
    rfl
  have s4' : M.2.1 7 (10 * j + 5 + 4) = q_fv N j := s4
  have g0 : k_rs (M.2.1 7) (10 * j + 5) = q_g0 N j := by
    unfold k_rs
    rw [e2, s4']
    rfl
  have t0 : k_t6 M j = q_t N j := by
    unfold k_t6 q_t r_v
    rw [f0, g0, h2, hp 0 (by decide), hp 1 (by decide), hp 2 (by decide)]
  refine ⟨f0, g0, t0, ?_, ?_, s3, s4⟩
  · unfold k_f6 q_f
    rw [t0, f0, g0]
  · unfold k_g6 q_g
    rw [t0, f0, g0]
end
noncomputable section
-- PART c13yf17.endq
-- WHEN A ROW'S COURSE ENDS: by whole numbers
def zr (f : Int × Int × Int × Int) : Prop := f.1 = 0 ∧ f.2.1 = 0 ∧ f.2.2.1 = 0
theorem q_e_zr {f : Int × Int × Int × Int} (hb : c_fb f) : ((decide (Int64.ofInt f.1 = 0) && (decide (Int64.ofInt f.2.1 = 0) && decide (Int64.ofInt f.2.2.1 = 0))) = true) ↔ zr f := by
  obtain ⟨b1, b2, b3, -⟩ := hb
  have e : ∀ x, zb 9223372036854775807 x → (Int64.ofInt x = 0 ↔ x = 0) := fun x h => ⟨fun q => by
    rcases Decidable.em (x = 0) with w | w
    · exact w
    · exact absurd q (z_ne h (by decide) w), fun q => by rw [q]; rfl⟩
  rw [Bool.and_eq_true, Bool.and_eq_true, decide_eq_true_eq, decide_eq_true_eq, decide_eq_true_eq, e _ (zb_w b1 (by decide)), e _ (zb_w b2 (by decide)), e _ (zb_w b3 (by decide))]
  rfl
def wh (N : Nat → Int32) (s : Nat) : Bool := decide (N (s + 1) = 0) && (decide (N (s + 2) = 0) && decide (N (s + 3) = 1))
theorem i32_z {x : Int32} {n : Int32} : (x = n) ↔ x.toInt = n.toInt := (Int32.toInt_inj).symm
theorem wh_z (N : Nat → Int32) (s : Nat) : (wh N s = true) ↔ ((qi N s).2.1 = 0 ∧ (qi N s).2.2.1 = 0 ∧ (qi N s).2.2.2 = 1) := by
  unfold wh qi
  rw [Bool.and_eq_true, Bool.and_eq_true, decide_eq_true_eq, decide_eq_true_eq, decide_eq_true_eq, i32_z, i32_z, i32_z]
  rfl
/-- what is left over of a value in bounds, not below 0, in lowest terms -/
theorem rest_all {N : Nat → Int32} {s : Nat} (hF : zF (N 0).toInt (N 1).toInt (N 2).toInt = true) (hv : c_vo N s) (hn : s_nn N s) (hl : q_lw N s) (f : Int × Int × Int × Int) (hf : f = ((N s).toInt - (c_fl N (r_v N 0) (r_v N 1) (r_v N 2) s).toInt * (N (s + 3)).toInt, (N (s + 1)).toInt, (N (s + 2)).toInt, (N (s + 3)).toInt)) : (zr f ↔ wh N s = true) ∧ zb 4150 f.1 ∧ zb 150 f.2.1 ∧ zb 150 f.2.2.1 ∧ (1 ≤ f.2.2.2 ∧ f.2.2.2 ≤ 150) ∧ 0 ≤ zN (N 0).toInt (N 1).toInt (N 2).toInt f.1 f.2.1 f.2.2.1 ∧ c_fb f := by
  obtain ⟨hp, hq, hr⟩ := zF_b hF
  obtain ⟨v0, v1, v2, v3⟩ := hv
  have c := z_fl_c hp hq hr v0 v1 v2 v3 hn
  have r0 := z_rest0 (p := (N 0).toInt) (q := (N 1).toInt) (r := (N 2).toInt) (z := qi N s) v0 v3.1 hl
  have w := wh_z N s
  unfold c_fl at hf
  subst hf
  refine ⟨?_, c.1, v1, v2, v3, c.2, zb_w c.1 (by decide), zb_w v1 (by decide), zb_w v2 (by decide), v3.1, v3.2⟩
  rw [w]
  exact r0
theorem q_e_wh {N : Nat → Int32} {j : Nat} (hF : zF (N 0).toInt (N 1).toInt (N 2).toInt = true) (h4 : N 4 = 0 ∨ N 4 = 1) (hv : c_vo N (153 + 8 * j)) (hv' : c_vo N (153 + 8 * j + 4)) (hn : s_nn N (153 + 8 * j)) (hn' : s_nn N (153 + 8 * j + 4)) (hl : q_lw N (153 + 8 * j)) (hl' : q_lw N (153 + 8 * j + 4)) : q_e N j = (wh N (153 + 8 * j) && (decide (N 4 = 0) || wh N (153 + 8 * j + 4))) := by
  obtain ⟨hp, hq, hr⟩ := zF_b hF
  obtain ⟨z1, a1, a2, a3, a4, a5, a6⟩ := rest_all hF hv hn hl (q_f0 N j) rfl
  obtain ⟨y1, b1, b2, b3, b4, b5, b6⟩ := rest_all hF hv' hn' hl' (q_g0 N j) rfl
  rw [Bool.eq_iff_iff]
  unfold q_e
  rcases h4 with h4 | h4
  · have et : q_t N j = false := by unfold q_t; rw [h4]; rfl
    have ef : q_f N j = q_f0 N j := by unfold q_f; rw [et]; rfl
    rw [ef, q_e_zr a6, z1, decide_eq_true h4, Bool.true_or, Bool.and_true]
  · have h40 : decide (N 4 = 0) = false := by rw [h4]; rfl
    have e1 : q_t N j = r_lt (N 0).toInt (N 1).toInt (N 2).toInt (q_f0 N j) (q_g0 N j) := by unfold q_t; rw [h4]; rfl
    rw [h40, Bool.false_or]
    by_cases zf : zr (q_f0 N j)
    · rw [z1.mp zf, Bool.true_and]
      have l := r_lt_0l (g := q_g0 N j) hp hq hr zf.1 zf.2.1 zf.2.2 a4 b1 b2 b3
      rw [l] at e1
      by_cases zg : zr (q_g0 N j)
      · rw [y1.mp zg]
        have n0 : zN (N 0).toInt (N 1).toInt (N 2).toInt (q_g0 N j).1 (q_g0 N j).2.1 (q_g0 N j).2.2.1 = 0 := by
          rw [zg.1, zg.2.1, zg.2.2, zN_a00]
          rfl
        rw [n0, decide_eq_false (by decide)] at e1
        have ef : q_f N j = q_f0 N j := by unfold q_f; rw [e1]; rfl
        rw [ef, q_e_zr a6]
        exact ⟨fun _ => rfl, fun _ => zf⟩
      · have n0 := zN_ne hF zg
        rw [decide_eq_true (by omega)] at e1
        have ef : q_f N j = q_g0 N j := by unfold q_f; rw [e1]; rfl
        rw [ef, q_e_zr b6]
        exact y1
    · have w0 : wh N (153 + 8 * j) = false := by
        rw [Bool.eq_false_iff]
        intro w
        exact zf (z1.mpr w)
      rw [w0, Bool.false_and]
      refine ⟨fun h => ?_, fun h => absurd h (by decide)⟩
      exfalso
      cases et : q_t N j
      · have ef : q_f N j = q_f0 N j := by unfold q_f; rw [et]; rfl
        rw [ef, q_e_zr a6] at h
        exact zf h
      · have ef : q_f N j = q_g0 N j := by unfold q_f; rw [et]; rfl
        rw [ef, q_e_zr b6] at h
        have l := r_lt_0r (f := q_f0 N j) hp hq hr h.1 h.2.1 h.2.2 b4 a1 a2 a3 a5
        rw [e1, l] at et
        exact absurd et (by decide)
end
noncomputable section
-- PART c13yf18.jstep
-- PREPARE AND TAKE of the class, over a row
theorem k_ok_c {p q r : Int} {f g : Int × Int × Int × Int} {P P' : Nat → Int64} (e : ∀ x, x < 9 → P x = P' x) (a b : Int32) (t : Bool) : k_ok p q r f g P a b t = k_ok p q r f g P' a b t := by
  unfold k_ok
  rw [k_bn_c (k_nx_c e a b t)]
theorem q_P_nn {N : Nat → Int32} : ∀ (j : Nat), (∀ i, i < j → 0 ≤ (N (641 + 3 * i)).toInt ∧ 0 ≤ (N (641 + 3 * i + 1)).toInt) → ∀ x, x < 9 → 0 ≤ (q_P N j x).toInt := by
  intro j
  induction j with
  | zero =>
    intro _ x hx
    unfold q_P
    split <;> decide
  | succ j ih =>
    intro h x hx
    unfold q_P
    exact q_nx_nn (ih (fun i hi => h i (by omega))) (by rw [Int32.toInt_toInt64]; exact (h j (by omega)).1) (by rw [Int32.toInt_toInt64]; exact (h j (by omega)).2) x hx
theorem q_fl_nn {N : Nat → Int32} {s : Nat} (hF : zF (N 0).toInt (N 1).toInt (N 2).toInt = true) (hv : c_vo N s) (hn : s_nn N s) : 0 ≤ (c_fl N (r_v N 0) (r_v N 1) (r_v N 2) s).toInt := by
  obtain ⟨hp, hq, hr⟩ := zF_b hF
  exact (z_fl_ge hp hq hr hv.1 hv.2.1 hv.2.2.1 hv.2.2.2 hn).1
/-- a STEP of the row can be laid out -/
def q_n (N : Nat → Int32) (j : Nat) : Bool := z_nxt (r_v N 0) (r_v N 1) (r_v N 2) (zQ4 (r_v N 0) (r_v N 1) (r_v N 2) (q_g N j) (q_f N j)) && (z_nxt (r_v N 0) (r_v N 1) (r_v N 2) (zQ4 (r_v N 0) (r_v N 1) (r_v N 2) (1, 0, 0, 1) (q_f N j)) && !(q_c false (q_P N j) (q_fu N j).toInt64 (q_fv N j).toInt64).2)
/-- a STATE of the row is fit: in bounds, not below 0, in lowest terms -/
def q_st (N : Nat → Int32) (j : Nat) : Prop := c_vo N (153 + 8 * j) ∧ c_vo N (153 + 8 * j + 4) ∧ s_nn N (153 + 8 * j) ∧ s_nn N (153 + 8 * j + 4) ∧ q_lw N (153 + 8 * j) ∧ q_lw N (153 + 8 * j + 4)
theorem q_st_fb {N : Nat → Int32} {j : Nat} (hF : zF (N 0).toInt (N 1).toInt (N 2).toInt = true) (h : q_st N j) : c_fb (q_f0 N j) ∧ c_fb (q_g0 N j) := by
  obtain ⟨h1, h2, h3, h4, h5, h6⟩ := h
  exact ⟨(rest_all hF h1 h3 h5 (q_f0 N j) rfl).2.2.2.2.2.2, (rest_all hF h2 h4 h6 (q_g0 N j) rfl).2.2.2.2.2.2⟩

theorem k_en6_q {M : ip_H} {N : Nat → Int32} {j : Nat} (h : coj6 M N j) (hF : zF (N 0).toInt (N 1).toInt (N 2).toInt = true) (h4 : N 4 = 0 ∨ N 4 = 1) (hs : q_st N j) : k_en6 M j = q_e N j := by
  obtain ⟨a1, a2, a3, a4, a5, a6⟩ := hs
  rw [q_e_wh hF h4 a1 a2 a3 a4 a5 a6]
  obtain ⟨h1, h2, h3, -⟩ := h
  obtain ⟨s1, s2, -, -⟩ := h3 j (Nat.le_refl _)
  unfold k_en6 k_wh wh
  rw [h2, Nat.add_zero, s1 1 (by decide), s1 2 (by decide), s1 3 (by decide), s2 1 (by decide), s2 2 (by decide), s2 3 (by decide)]
theorem k_iz6_q {M : ip_H} {N : Nat → Int32} {j : Nat} (h : coj6 M N j) (hp : ∀ x, x < 3 → M.2.1 1 x = N x) : k_iz (k_f6 M j) = q_e N j := by
  obtain ⟨-, -, -, e, -⟩ := coj6_f h hp
  rw [e]
  rfl
theorem j_prep6 (X : ip_X) (M : ip_H) (K : Option Value → ip_H → Prop) (N : Nat → Int32) (j : Nat) (hj : j ≤ 60) (hG : ip_G M) (h : coj6 M N j) (hp : ∀ x, x < 3 → M.2.1 1 x = N x) (hF : zF (N 0).toInt (N 1).toInt (N 2).toInt = true) (h4 : N 4 = 0 ∨ N 4 = 1) (hs : q_st N j) (hP : ∀ x, x < 9 → 0 ≤ (q_P N j x).toInt)
  (k3 : q_e N j = true → K (some (.int (-3))) M) (k60 : q_e N j = false → j = 60 → K (some (.int (-5))) M)
  (k5 : q_e N j = false → j < 60 → q_n N j = false → ∀ M1, pf 6 M M1 → K (some (.int (-5))) M1)
  (k0 : q_e N j = false → j < 60 → q_n N j = true → ∀ M1, pf 6 M M1 → cv M1 15 (zQ4 (r_v N 0) (r_v N 1) (r_v N 2) (q_g N j) (q_f N j)) → cv M1 16 (zQ4 (r_v N 0) (r_v N 1) (r_v N 2) (1, 0, 0, 1) (q_f N j)) → M1.2.1 6 12 = c_f4 (r_v N 0) (r_v N 1) (r_v N 2) (zQ4 (r_v N 0) (r_v N 1) (r_v N 2) (q_g N j) (q_f N j)) → M1.2.1 6 13 = c_f4 (r_v N 0) (r_v N 1) (r_v N 2) (zQ4 (r_v N 0) (r_v N 1) (r_v N 2) (1, 0, 0, 1) (q_f N j)) → M1.2.1 6 14 = ip_b (q_t N j) → (∀ x, x < 9 → M1.2.2.1 12 x = q_nx false (q_P N j) (q_fu N j).toInt64 (q_fv N j).toInt64 (q_t N j) x) → K (some (.int 0)) M1) : ip_wp X 25 0 [.ref 6, .ref 1] [] M K := by
  obtain ⟨e1, e2, e3, e4, e5, e6, e7⟩ := coj6_f h hp
  have een := k_en6_q h hF h4 hs
  have eiz := k_iz6_q h hp
  obtain ⟨b1, b2⟩ := q_st_fb hF hs
  obtain ⟨c1, c2, c3, c4, c5, c6⟩ := h
  have p0 : (M.2.1 1 0).toInt = r_v N 0 := congrArg Int32.toInt (hp 0 (by decide))
  have p1 : (M.2.1 1 1).toInt = r_v N 1 := congrArg Int32.toInt (hp 1 (by decide))
  have p2 : (M.2.1 1 2).toInt = r_v N 2 := congrArg Int32.toInt (hp 2 (by decide))
  have won : ¬ M.2.1 6 3 = -1 := by
    rw [c2]
    rcases h4 with h4 | h4 <;> (rw [h4]; decide)
  have bfg : c_fb (q_f N j) ∧ c_fb (q_g N j) := by
    unfold q_f q_g
    split
    · exact ⟨b2, b1⟩
    · exact ⟨b1, b2⟩
  have nu : 0 ≤ (q_fu N j).toInt := q_fl_nn hF hs.1 hs.2.2.1
  have nv : 0 ≤ (q_fv N j).toInt := q_fl_nn hF hs.2.1 hs.2.2.2.1
  have en : q_e N j = false → k_ok (r_v N 0) (r_v N 1) (r_v N 2) (q_f N j) (q_g N j) (M.2.2.1 10) (q_fu N j) (q_fv N j) (q_t N j) = q_n N j := fun he => by
    have nz : c_nz (q_f N j) := k_iz_nz he
    rw [k_ok_c c5]
    exact k_ok_nxt hF bfg.1 bfg.2 nz hP nu nv
  refine o_25_6 X M K j hj c1 hG (by rw [p0, p1, p2]; exact hF) (by rw [e1]; exact b1) (by rw [e2]; exact b2) (fun q => absurd q won) (fun _ q => k3 (een.symm.trans q)) (fun _ q q60 => k60 (een.symm.trans q) q60) ?_ ?_ ?_
  · intro _ q _ M1 _ qz
    rw [eiz, ← een, q] at qz
    exact absurd qz (by decide)
  · intro _ q q60 M1 pM qz qk
    have he := een.symm.trans q
    rw [e3, e4, e5, e6, e7, p0, p1, p2, en he] at qk
    exact k5 he q60 qk M1 pM
  · intro _ q q60 M1 pM qz qk cu cw d12 d13 d14 d9
    have he := een.symm.trans q
    have nz : c_nz (q_f N j) := k_iz_nz he
    rw [e3, e4, e5, e6, e7, p0, p1, p2, en he] at qk
    have x1 := kQ_Q4 (v := q_g N j) hF nz (by have := bfg.2.2.2.2.1; omega) (by have := bfg.1.2.2.2.1; omega)
    have x2 := kQ_Q4 (v := (1, 0, 0, 1)) hF nz (by decide) (by have := bfg.1.2.2.2.1; omega)
    rw [e4, e5, p0, p1, p2] at cu d12
    rw [e4, p0, p1, p2] at cw d13
    rw [e3] at d14
    rw [e3, e6, e7] at d9
    have f1 : zl (kQ (r_v N 0) (r_v N 1) (r_v N 2) (q_g N j) (q_f N j)) = (zQ4 (r_v N 0) (r_v N 1) (r_v N 2) (q_g N j) (q_f N j)) := x1
    have f2 : zl (kQ (r_v N 0) (r_v N 1) (r_v N 2) (1, 0, 0, 1) (q_f N j)) = (zQ4 (r_v N 0) (r_v N 1) (r_v N 2) (1, 0, 0, 1) (q_f N j)) := x2
    rw [f1] at cu d12
    rw [f2] at cw d13
    refine k0 he q60 qk M1 pM cu cw d12 d13 d14 (fun x hx => ?_)
    have fl : (q_c false (q_P N j) (q_fu N j).toInt64 (q_fv N j).toInt64).2 = false := by
      unfold q_n at qk
      rw [Bool.and_eq_true, Bool.and_eq_true] at qk
      simpa using qk.2.2
    rw [d9 x hx, k_nx_c c5 _ _ _ x hx]
    exact (kq_nx hP nu nv (q_t N j)).2 fl x hx
end
noncomputable section
-- PART c13yf19.jtake
-- TAKE of the class, over a row
theorem q_P_s (N : Nat → Int32) (j : Nat) : q_P N (j + 1) = q_nx false (q_P N j) (N (641 + 3 * j)).toInt64 (N (641 + 3 * j + 1)).toInt64 (b1 (N (641 + 3 * j + 2))) := rfl
theorem k_li_iff (f : Nat → Int32) (k m : Nat) : ∀ (n w : Nat), k_li f k m n w = true ↔ ∀ x, w ≤ x → x < w + n → f (10 * k + x) = f (10 * m + x) := by
  intro n
  induction n with
  | zero =>
    intro w
    exact ⟨fun _ x h1 h2 => by omega, fun _ => rfl⟩
  | succ n ih =>
    intro w
    have e : k_li f k m (n + 1) w = (decide (f (10 * k + w) = f (10 * m + w)) && k_li f k m n (w + 1)) := rfl
    rw [e, Bool.and_eq_true, decide_eq_true_eq, ih (w + 1)]
    constructor
    · rintro ⟨a, b⟩ x h1 h2
      by_cases hx : x = w
      · rw [hx]; exact a
      · exact b x (by omega) (by omega)
    · intro h
      exact ⟨h w (Nat.le_refl _) (by omega), fun x h1 h2 => h x (by omega) (by omega)⟩
theorem alk_iff (N : Nat → Int32) (k l : Nat) : alk N k l = true ↔ ∀ x, x < 8 → N (153 + 8 * k + x) = N (153 + 8 * l + x) := by
  unfold alk
  simp only [Bool.and_eq_true, decide_eq_true_eq]
  constructor
  · rintro ⟨h0, h1, h2, h3, h4, h5, h6, h7⟩ x hx
    have hc : x = 0 ∨ x = 1 ∨ x = 2 ∨ x = 3 ∨ x = 4 ∨ x = 5 ∨ x = 6 ∨ x = 7 := by omega
    rcases hc with rfl | rfl | rfl | rfl | rfl | rfl | rfl | rfl
    · exact h0
    · exact h1
    · exact h2
    · exact h3
    · exact h4
    · exact h5
    · exact h6
    · exact h7
  · intro h
    exact ⟨h 0 (by decide), h 1 (by decide), h 2 (by decide), h 3 (by decide), h 4 (by decide), h 5 (by decide), h 6 (by decide), h 7 (by decide)⟩
theorem q_fu_e {N : Nat → Int32} {k m : Nat} (h : ∀ x, x < 4 → N (153 + 8 * k + x) = N (153 + 8 * m + x)) : q_fu N k = q_fu N m := by
  unfold q_fu
  rw [c_fl_f4, c_fl_f4, qi_of h]
theorem q_fv_e {N : Nat → Int32} {k m : Nat} (h : ∀ x, x < 4 → N (153 + 8 * k + 4 + x) = N (153 + 8 * m + 4 + x)) : q_fv N k = q_fv N m := by
  unfold q_fv
  rw [c_fl_f4, c_fl_f4, qi_of h]
/-- what taking a STEP may change -/
def tf (c : Nat) (M M1 : ip_H) : Prop := M1.1 = M.1 ∧ M1.2.2.2 = M.2.2.2 ∧ (∀ a b, ¬ (a = c ∧ (b = 3 ∨ b = 4 ∨ b = 5 ∨ b = 6 ∨ b = 12 ∨ b = 13 ∨ b = 14)) → ¬ a = c + 1 → ¬ a = c + 2 → M1.2.1 a b = M.2.1 a b) ∧ ∀ a, ¬ (a = 3 ∨ (c + 4 ≤ a ∧ a ≤ c + 10)) → M1.2.2.1 a = M.2.2.1 a
theorem tf_r (c : Nat) (M : ip_H) : tf c M M := ⟨rfl, rfl, fun _ _ _ _ _ => rfl, fun _ _ => rfl⟩
theorem tf_t {c : Nat} {M M1 M2 : ip_H} (h : tf c M M1) (g : tf c M1 M2) : tf c M M2 := ⟨g.1.trans h.1, g.2.1.trans h.2.1, fun a b q1 q2 q3 => (g.2.2.1 a b q1 q2 q3).trans (h.2.2.1 a b q1 q2 q3), fun a q => (g.2.2.2 a q).trans (h.2.2.2 a q)⟩
theorem tf_pf {c : Nat} {M M1 : ip_H} (h : pf c M M1) : tf c M M1 := ⟨h.1, h.2.1, fun a b q1 _ _ => h.2.2.1 a b (by omega), fun a q => h.2.2.2 a (by omega)⟩
theorem tf_G {c : Nat} {M M1 : ip_H} (h : tf c M M1) (hG : ip_G M) : ip_G M1 := ⟨h.1.trans hG.1, fun k j a b => by rw [h.2.1]; exact hG.2 k j a b⟩
theorem z_nxt_v4 {p q r : Int} {g f : Int × Int × Int × Int} (hF : zF p q r = true) (bg : c_fb g) (bf : c_fb f) (nz : c_nz f) (h : z_nxt p q r (zQ4 p q r g f) = true) : c_v4 (zQ4 p q r g f) := by
  have q := zQ4_b hF bg bf nz
  have c := z_nxt_c h
  have w : ∀ x, zb 13500000000000000 x → zb 9223372036854775807 x := fun x h => zb_w h (by decide)
  rw [zcan_z (w _ q.1) (w _ q.2.1) (w _ q.2.2.1) (w _ q.2.2.2.1)] at c
  exact ⟨c.1, c.2.1, c.2.2.1, q.2.2.2.2, c.2.2.2⟩

theorem k_fp6_l {M : ip_H} {N : Nat → Int32} {m : Nat} (h : ∀ i, i ≤ m → cst6 M N i) : ∀ (n k : Nat), k + n ≤ m → k_fp (M.2.1 7) m n k = lbk N m n k := by
  have key : ∀ k, k ≤ m → k_li (M.2.1 7) k m 10 0 = alk N k m := fun k hk => by
    obtain ⟨a1, a2, a3, a4⟩ := h k hk
    obtain ⟨b1, b2, b3, b4⟩ := h m (Nat.le_refl _)
    rw [Bool.eq_iff_iff, k_li_iff, alk_iff]
    constructor
    · intro q x hx
      by_cases h4 : x < 4
      · have e := q x (by omega) (by omega)
        rw [a1 x h4, b1 x h4] at e
        exact e
      · have e := q (x + 1) (by omega) (by omega)
        have ea := a2 (x - 4) (by omega)
        have eb := b2 (x - 4) (by omega)
        have i1 : 10 * k + 5 + (x - 4) = 10 * k + (x + 1) := by omega
        have i2 : 10 * m + 5 + (x - 4) = 10 * m + (x + 1) := by omega
        have i3 : 153 + 8 * k + 4 + (x - 4) = 153 + 8 * k + x := by omega
        have i4 : 153 + 8 * m + 4 + (x - 4) = 153 + 8 * m + x := by omega
        rw [i1, i3] at ea
        rw [i2, i4] at eb
        rw [ea, eb] at e
        exact e
    · intro q x _ hx
      by_cases h4 : x < 4
      · rw [a1 x h4, b1 x h4]
        exact q x (by omega)
      · by_cases h5 : x = 4
        · rw [h5, a3, b3]
          exact q_fu_e (fun y hy => q y (by omega))
        · by_cases h9 : x = 9
          · rw [h9, a4, b4]
            refine q_fv_e (fun y hy => ?_)
            have := q (4 + y) (by omega)
            simp only [← Nat.add_assoc] at this
            exact this
          · have ea := a2 (x - 5) (by omega)
            have eb := b2 (x - 5) (by omega)
            have i1 : 10 * k + 5 + (x - 5) = 10 * k + x := by omega
            have i2 : 10 * m + 5 + (x - 5) = 10 * m + x := by omega
            have i3 : 153 + 8 * k + 4 + (x - 5) = 153 + 8 * k + (x - 1) := by omega
            have i4 : 153 + 8 * m + 4 + (x - 5) = 153 + 8 * m + (x - 1) := by omega
            rw [i1, i3] at ea
            rw [i2, i4] at eb
            rw [ea, eb]
            exact q (x - 1) (by omega)
  intro n
  induction n with
  | zero => intro k _; rfl
  | succ n ih =>
    intro k hk
    rw [k_fp, lbk, key k (by omega), ih (k + 1) (by omega)]
theorem k_tk6_S (M : ip_H) (j : Nat) (t : Bool) (y z : Int × Int × Int × Int) (b : Nat) : (k_tk6 M j t y z).2.1 7 b = if b = 10 * (j + 1) + 9 then M.2.1 6 13 else if b = 10 * (j + 1) + 5 + 3 then Int32.ofInt z.2.2.2 else if b = 10 * (j + 1) + 5 + 2 then Int32.ofInt z.2.2.1 else if b = 10 * (j + 1) + 5 + 1 then Int32.ofInt z.2.1 else if b = 10 * (j + 1) + 5 then Int32.ofInt z.1 else if b = 10 * (j + 1) + 4 then M.2.1 6 12 else if b = 10 * (j + 1) + 3 then Int32.ofInt y.2.2.2 else if b = 10 * (j + 1) + 2 then Int32.ofInt y.2.2.1 else if b = 10 * (j + 1) + 1 then Int32.ofInt y.2.1 else if b = 10 * (j + 1) then Int32.ofInt y.1 else M.2.1 7 b := by
  unfold k_tk6
  simp (decide := true) only [ip_cpL_I, ip_uI_I, k_sv_I, true_and, false_and, ↓reduceIte]
theorem k_tk6_T (M : ip_H) (j : Nat) (t : Bool) (y z : Int × Int × Int × Int) (b : Nat) : (k_tk6 M j t y z).2.1 8 b = if b = j + 1 then ip_b t else M.2.1 8 b := by
  unfold k_tk6
  simp (decide := true) only [ip_cpL_I, ip_uI_I, k_sv_I, true_and, false_and, ↓reduceIte]
theorem k_tk6_c (M : ip_H) (j : Nat) (t : Bool) (y z : Int × Int × Int × Int) (b : Nat) : (k_tk6 M j t y z).2.1 6 b = if b = 4 then Int32.ofNat (j + 1) else M.2.1 6 b := by
  unfold k_tk6
  simp (decide := true) only [ip_cpL_I, ip_uI_I, k_sv_I, true_and, false_and, ↓reduceIte]
theorem k_tk6_o (M : ip_H) (j : Nat) (t : Bool) (y z : Int × Int × Int × Int) (a b : Nat) (h1 : ¬ a = 6) (h2 : ¬ a = 7) (h3 : ¬ a = 8) : (k_tk6 M j t y z).2.1 a b = M.2.1 a b := by
  unfold k_tk6
  simp only [ip_cpL_I, ip_uI_I, k_sv_I, h1, h2, h3, false_and, ↓reduceIte]
theorem k_tk6_P (M : ip_H) (j : Nat) (t : Bool) (y z : Int × Int × Int × Int) (x : Nat) (hx : x < 9) : (k_tk6 M j t y z).2.2.1 10 x = M.2.2.1 12 x := by
  unfold k_tk6
  rw [ip_cpL_L, if_pos rfl]
  unfold va_cpy
  rw [if_pos (by omega)]
  exact congrArg (M.2.2.1 12) (by omega)
theorem k_tk6_l (M : ip_H) (j : Nat) (t : Bool) (y z : Int × Int × Int × Int) (a : Nat) (h : ¬ a = 10) : (k_tk6 M j t y z).2.2.1 a = M.2.2.1 a := by
  unfold k_tk6
  funext b
  rw [ip_cpL_L, if_neg h]
  rfl
theorem cpL_1 (M : ip_H) (a b c d n : Nat) : (ip_cpL M a b c d n).1 = M.1 := rfl
theorem tf_tk6 (M : ip_H) (j : Nat) (t : Bool) (y z : Int × Int × Int × Int) : tf 6 M (k_tk6 M j t y z) := by
  refine ⟨by unfold k_tk6 k_sv; simp only [cpL_1, ip_uI_1], by unfold k_tk6 k_sv; simp only [ip_cpL_R, ip_uI_R], fun a b q1 q2 q3 => ?_, fun a q => k_tk6_l _ _ _ _ _ _ (by omega)⟩
  by_cases ha : a = 6
  · subst ha
    rw [k_tk6_c, if_neg (by omega)]
  · exact k_tk6_o _ _ _ _ _ _ _ ha q2 q3
theorem j_take6 (X : ip_X) (M M1 : ip_H) (K : Option Value → ip_H → Prop) (N : Nat → Int32) (j : Nat) (hj : j < 60) (hG : ip_G M) (h : coj6 M N j) (pM : pf 6 M M1) (hF : zF (N 0).toInt (N 1).toInt (N 2).toInt = true) (hs : q_st N j) (hq : q_s N j)
  (cu : cv M1 15 (zQ4 (r_v N 0) (r_v N 1) (r_v N 2) (q_g N j) (q_f N j))) (cw : cv M1 16 (zQ4 (r_v N 0) (r_v N 1) (r_v N 2) (1, 0, 0, 1) (q_f N j))) (d12 : M1.2.1 6 12 = c_f4 (r_v N 0) (r_v N 1) (r_v N 2) (zQ4 (r_v N 0) (r_v N 1) (r_v N 2) (q_g N j) (q_f N j))) (d13 : M1.2.1 6 13 = c_f4 (r_v N 0) (r_v N 1) (r_v N 2) (zQ4 (r_v N 0) (r_v N 1) (r_v N 2) (1, 0, 0, 1) (q_f N j))) (d14 : M1.2.1 6 14 = ip_b (q_t N j)) (d9 : ∀ x, x < 9 → M1.2.2.1 12 x = q_nx false (q_P N j) (q_fu N j).toInt64 (q_fv N j).toInt64 (q_t N j) x)
  (hK : ∀ M2, tf 6 M M2 → coj6 M2 N (j + 1) → K none M2) : ip_wp X 27 0 [.ref 6] [] M1 K := by
  obtain ⟨c1, c2, c3, c4, c5, c6⟩ := h
  obtain ⟨s1, s2, s3, s4, s5, s6, s7, s8, s9⟩ := hq
  obtain ⟨b1, b2⟩ := q_st_fb hF hs
  have bfg : c_fb (q_f N j) ∧ c_fb (q_g N j) := by
    unfold q_f q_g
    split
    · exact ⟨b2, b1⟩
    · exact ⟨b1, b2⟩
  have nz : c_nz (q_f N j) := k_iz_nz s1
  have bb : c_fb (1, 0, 0, 1) := ⟨⟨by decide, by decide⟩, ⟨by decide, by decide⟩, ⟨by decide, by decide⟩, by decide, by decide⟩
  have v4u : c_v4 (zQ4 (r_v N 0) (r_v N 1) (r_v N 2) (q_g N j) (q_f N j)) := z_nxt_v4 hF bfg.2 bfg.1 nz s7
  have v4v : c_v4 (zQ4 (r_v N 0) (r_v N 1) (r_v N 2) (1, 0, 0, 1) (q_f N j)) := z_nxt_v4 hF bb bfg.1 nz s8
  have qu := z4_qi s5 v4u
  have qv := z4_qi s6 v4v
  obtain ⟨u0, u1, u2, u3⟩ := s5
  obtain ⟨v0, v1, v2, v3⟩ := s6
  have hG1 := pf_G pM hG
  have m4 : M1.2.1 6 4 = Int32.ofNat j := (pM.2.2.1 _ _ (by omega)).trans c1
  have m5 : M1.2.1 6 5 = M.2.1 6 5 := pM.2.2.1 _ _ (by omega)
  have m6 : M1.2.1 6 6 = M.2.1 6 6 := pM.2.2.1 _ _ (by omega)
  have mS : ∀ b, M1.2.1 7 b = M.2.1 7 b := fun b => pM.2.2.1 _ _ (by omega)
  have mT : ∀ b, M1.2.1 8 b = M.2.1 8 b := fun b => pM.2.2.1 _ _ (by omega)
  have m3 : M1.2.1 6 3 = M.2.1 6 3 := pM.2.2.1 _ _ (by omega)
  generalize hu : (zQ4 (r_v N 0) (r_v N 1) (r_v N 2) (q_g N j) (q_f N j)) = u at *
  generalize hv : (zQ4 (r_v N 0) (r_v N 1) (r_v N 2) (1, 0, 0, 1) (q_f N j)) = v at *
  -- all but the PERIOD
  have hst : ∀ i, i ≤ j + 1 → cst6 (k_tk6 M1 j (q_t N j) u v) N i := by
    intro i hi
    by_cases hij : i = j + 1
    · subst hij
      refine ⟨fun x hx => ?_, fun x hx => ?_, ?_, ?_⟩
      · have hc : x = 0 ∨ x = 1 ∨ x = 2 ∨ x = 3 := by omega
        rcases hc with rfl | rfl | rfl | rfl
        · rw [k_tk6_S, if_neg (by omega), if_neg (by omega), if_neg (by omega), if_neg (by omega), if_neg (by omega), if_neg (by omega), if_neg (by omega), if_neg (by omega), if_neg (by omega), if_pos (by omega)]
          exact u0.symm
        · rw [k_tk6_S, if_neg (by omega), if_neg (by omega), if_neg (by omega), if_neg (by omega), if_neg (by omega), if_neg (by omega), if_neg (by omega), if_neg (by omega), if_pos (by omega)]
          exact u1.symm
        · rw [k_tk6_S, if_neg (by omega), if_neg (by omega), if_neg (by omega), if_neg (by omega), if_neg (by omega), if_neg (by omega), if_neg (by omega), if_pos (by omega)]
          exact u2.symm
        · rw [k_tk6_S, if_neg (by omega), if_neg (by omega), if_neg (by omega), if_neg (by omega), if_neg (by omega), if_neg (by omega), if_pos (by omega)]
          exact u3.symm
      · have hc : x = 0 ∨ x = 1 ∨ x = 2 ∨ x = 3 := by omega
        rcases hc with rfl | rfl | rfl | rfl
        · rw [k_tk6_S, if_neg (by omega), if_neg (by omega), if_neg (by omega), if_neg (by omega), if_pos (by omega)]
          exact v0.symm
        · rw [k_tk6_S, if_neg (by omega), if_neg (by omega), if_neg (by omega), if_pos (by omega)]
          exact v1.symm
        · rw [k_tk6_S, if_neg (by omega), if_neg (by omega), if_pos (by omega)]
          exact v2.symm
        · rw [k_tk6_S, if_neg (by omega), if_pos (by omega)]
          exact v3.symm
      · rw [k_tk6_S, if_neg (by omega), if_neg (by omega), if_neg (by omega), if_neg (by omega), if_neg (by omega), if_pos (by omega), d12]
        unfold q_fu
        rw [c_fl_f4, qu]
      · rw [k_tk6_S, if_pos (by omega), d13]
        unfold q_fv
        rw [c_fl_f4, qv]
    · have old : ∀ b, b < 10 * (j + 1) → (k_tk6 M1 j (q_t N j) u v).2.1 7 b = M.2.1 7 b := fun b hb => by
        rw [k_tk6_S, if_neg (by omega), if_neg (by omega), if_neg (by omega), if_neg (by omega), if_neg (by omega), if_neg (by omega), if_neg (by omega), if_neg (by omega), if_neg (by omega), if_neg (by omega), mS]
      obtain ⟨w1, w2, w3, w4⟩ := c3 i (by omega)
      exact ⟨fun x hx => (old _ (by omega)).trans (w1 x hx), fun x hx => (old _ (by omega)).trans (w2 x hx), (old _ (by omega)).trans w3, (old _ (by omega)).trans w4⟩
  have htn : ∀ i, i < j + 1 → (k_tk6 M1 j (q_t N j) u v).2.1 8 (i + 1) = N (641 + 3 * i + 2) := by
    intro i hi
    rw [k_tk6_T]
    by_cases hij : i = j
    · subst hij
      rw [if_pos rfl]
      exact s4.symm
    · rw [if_neg (by omega), mT]
      exact c4 i (by omega)
  have hpr : ∀ x, x < 9 → (k_tk6 M1 j (q_t N j) u v).2.2.1 10 x = q_P N (j + 1) x := by
    intro x hx
    rw [k_tk6_P _ _ _ _ _ _ hx, d9 x hx]
    rw [q_P_s, s2, s3, s4, b1_b]
  have t0 : tf 6 M (k_tk6 M1 j (q_t N j) u v) := tf_t (tf_pf pM) (tf_tk6 _ _ _ _ _)
  have w5 : (k_tk6 M1 j (q_t N j) u v).2.1 6 5 = M.2.1 6 5 := by rw [k_tk6_c, if_neg (by decide)]; exact m5
  have w6 : (k_tk6 M1 j (q_t N j) u v).2.1 6 6 = M.2.1 6 6 := by rw [k_tk6_c, if_neg (by decide)]; exact m6
  have w3 : (k_tk6 M1 j (q_t N j) u v).2.1 6 3 = N 4 := by rw [k_tk6_c, if_neg (by decide), m3]; exact c2
  have w4 : (k_tk6 M1 j (q_t N j) u v).2.1 6 4 = Int32.ofNat (j + 1) := by rw [k_tk6_c, if_pos rfl]
  have hl := k_fp6_l hst (j + 1) 0 (by omega)
  refine o_27_6 X M1 K j hj m4 (q_t N j) d14 u v cu cw hG1 (fun q => ?_) (fun q1 q2 => ?_) (fun q1 m q2 => ?_)
  · refine hK _ t0 ⟨w4, w3, hst, htn, hpr, ?_⟩
    unfold q_pe
    cases e : q_pe N j with
    | none =>
      rw [e] at c6
      exact absurd (m5.trans c6) q
    | some s =>
      rw [e] at c6
      exact ⟨w5.trans c6.1, w6.trans c6.2⟩
  · refine hK _ t0 ⟨w4, w3, hst, htn, hpr, ?_⟩
    rw [hl] at q2
    unfold q_pe
    cases e : q_pe N j with
    | none =>
      rw [q2]
      exact w5.trans (m5.symm.trans q1)
    | some s =>
      rw [e] at c6
      have hb := q_pe_b N j s e
      have x := c6.1.symm.trans (m5.symm.trans q1)
      have h1 := congrArg Int32.toInt x
      rw [ip_nt _ (by omega), show (-1 : Int32).toInt = -1 from rfl] at h1
      omega
  · rw [hl] at q2
    refine hK _ (tf_t t0 ⟨rfl, rfl, fun a b x1 x2 x3 => by rw [ip_uI_I, if_neg (by omega), ip_uI_I, if_neg (by omega)], fun a x => rfl⟩) ⟨?_, ?_, ?_, ?_, hpr, ?_⟩
    · rw [ip_uI_I, if_neg (by omega), ip_uI_I, if_neg (by omega)]
      exact w4
    · rw [ip_uI_I, if_neg (by omega), ip_uI_I, if_neg (by omega)]
      exact w3
    · intro i hi
      obtain ⟨x1, x2, x3, x4⟩ := hst i hi
      refine ⟨fun x hx => ?_, fun x hx => ?_, ?_, ?_⟩
      · rw [ip_uI_I, if_neg (by omega), ip_uI_I, if_neg (by omega)]
        exact x1 x hx
      · rw [ip_uI_I, if_neg (by omega), ip_uI_I, if_neg (by omega)]
        exact x2 x hx
      · rw [ip_uI_I, if_neg (by omega), ip_uI_I, if_neg (by omega)]
        exact x3
      · rw [ip_uI_I, if_neg (by omega), ip_uI_I, if_neg (by omega)]
        exact x4
    · intro i hi
      rw [ip_uI_I, if_neg (by omega), ip_uI_I, if_neg (by omega)]
      exact htn i hi
    · unfold q_pe
      cases e : q_pe N j with
      | none =>
        rw [q2]
        refine ⟨?_, ?_⟩
        · rw [ip_uI_I, if_neg (by omega), ip_uI_I, if_pos ⟨rfl, rfl⟩]
        · rw [ip_uI_I, if_pos ⟨rfl, rfl⟩]
      | some s =>
        rw [e] at c6
        have hb := q_pe_b N j s e
        have x := c6.1.symm.trans (m5.symm.trans q1)
        have h1 := congrArg Int32.toInt x
        rw [ip_nt _ (by omega), show (-1 : Int32).toInt = -1 from rfl] at h1
        omega
end
noncomputable section
-- PART c13yf20.rwalk
-- equations of the instructions, by program counter
theorem ip_a22 (pc : Nat) : ip_at 22 pc = ip_c22.lookup pc := rfl
theorem ip_s22 : lk_s 0 ip_c22 = true := by decide +kernel
theorem ip_l22_0 : ip_d22_0.length = 24 := rfl
theorem ip_f22_0 {k pc : Nat} {e : ip_E} (h : ip_d22_0[k]? = some (pc, e)) : ip_c22.lookup pc = some e := lk_of ip_s22 (lk_apl h)
theorem ip_f22_1 {k pc : Nat} {e : ip_E} (h : ip_d22_1[k]? = some (pc, e)) : ip_c22.lookup pc = some e := lk_of ip_s22 (lk_app ip_l22_0 h)
theorem w22_0 (X : ip_X) (ls st : List Value) (M : ip_H) (K : Option Value → ip_H → Prop) : ip_wp X 22 0 ls st M K = ip_ka (ip_get ls 0) (fun x => ip_wp X 22 1 ls (x :: st) M K) := wp_aload_n ((ip_a22 0).trans (ip_f22_0 (k := 0) rfl))
theorem w22_1 (X : ip_X) (ls st : List Value) (M : ip_H) (K : Option Value → ip_H → Prop) (k : Nat) (h0 : (ip_sh M k).1 = 0) (h1 : (ip_sh M k).2.1 = 1) : ip_wp X 22 1 ls (.ref k :: st) M K = ip_wp X 22 4 ls (ip_vr (M.2.2.2 k 10) :: st) M K := (wp_getR ((ip_a22 1).trans (ip_f22_0 (k := 1) rfl))).trans (if_pos ⟨h0, h1⟩)
theorem w22_4 (X : ip_X) (ls st : List Value) (M : ip_H) (K : Option Value → ip_H → Prop) : ip_wp X 22 4 ls st M K = ip_ka (ip_get ls 2) (fun x => ip_wp X 22 5 ls (x :: st) M K) := wp_aload_n ((ip_a22 4).trans (ip_f22_0 (k := 2) rfl))
theorem w22_5 (X : ip_X) (ls st : List Value) (M : ip_H) (K : Option Value → ip_H → Prop) : ip_wp X 22 5 ls st M K = ip_wp X 22 6 ls (.int 0 :: st) M K := wp_iconst ((ip_a22 5).trans (ip_f22_0 (k := 3) rfl))
theorem w22_6 (X : ip_X) (ls st : List Value) (M : ip_H) (K : Option Value → ip_H → Prop) (k : Nat) (x0 : Nat) (x1 : Int32) (h0 : st.length ≤ 4) (h1 : (ip_sh M k).1 = 0) (h2 : (ip_sh M k).2.1 = 8) : ip_wp X 22 6 ls (.int x1 :: .ref x0 :: .ref k :: st) M K = ip_wp X 96 0 [.ref k, .ref x0, .int x1] [] M (fun r M1 => ip_wp X 22 9 ls (r.toList ++ st) M1 K) := (wp_callV1_3 ((ip_a22 6).trans (ip_f22_0 (k := 4) rfl)) ⟨h0, by exact Nat.le_of_ble_eq_true rfl, h1, h2⟩)
theorem w22_9 (X : ip_X) (ls st : List Value) (M : ip_H) (K : Option Value → ip_H → Prop) : ip_wp X 22 9 ls st M K = ip_ka (ip_get ls 0) (fun x => ip_wp X 22 10 ls (x :: st) M K) := wp_aload_n ((ip_a22 9).trans (ip_f22_0 (k := 5) rfl))
theorem w22_10 (X : ip_X) (ls st : List Value) (M : ip_H) (K : Option Value → ip_H → Prop) (k : Nat) (h0 : (ip_sh M k).1 = 0) (h1 : (ip_sh M k).2.1 = 1) : ip_wp X 22 10 ls (.ref k :: st) M K = ip_wp X 22 13 ls (ip_vr (M.2.2.2 k 11) :: st) M K := (wp_getR ((ip_a22 10).trans (ip_f22_0 (k := 6) rfl))).trans (if_pos ⟨h0, h1⟩)
theorem w22_13 (X : ip_X) (ls st : List Value) (M : ip_H) (K : Option Value → ip_H → Prop) : ip_wp X 22 13 ls st M K = ip_ka (ip_get ls 2) (fun x => ip_wp X 22 14 ls (x :: st) M K) := wp_aload_n ((ip_a22 13).trans (ip_f22_0 (k := 7) rfl))
theorem w22_14 (X : ip_X) (ls st : List Value) (M : ip_H) (K : Option Value → ip_H → Prop) : ip_wp X 22 14 ls st M K = ip_wp X 22 15 ls (.int 4 :: st) M K := wp_iconst ((ip_a22 14).trans (ip_f22_0 (k := 8) rfl))
theorem w22_15 (X : ip_X) (ls st : List Value) (M : ip_H) (K : Option Value → ip_H → Prop) (k : Nat) (x0 : Nat) (x1 : Int32) (h0 : st.length ≤ 4) (h1 : (ip_sh M k).1 = 0) (h2 : (ip_sh M k).2.1 = 8) : ip_wp X 22 15 ls (.int x1 :: .ref x0 :: .ref k :: st) M K = ip_wp X 96 0 [.ref k, .ref x0, .int x1] [] M (fun r M1 => ip_wp X 22 18 ls (r.toList ++ st) M1 K) := (wp_callV1_3 ((ip_a22 15).trans (ip_f22_0 (k := 9) rfl)) ⟨h0, by exact Nat.le_of_ble_eq_true rfl, h1, h2⟩)
theorem w22_18 (X : ip_X) (ls st : List Value) (M : ip_H) (K : Option Value → ip_H → Prop) : ip_wp X 22 18 ls st M K = ip_ka (ip_get ls 0) (fun x => ip_wp X 22 19 ls (x :: st) M K) := wp_aload_n ((ip_a22 18).trans (ip_f22_0 (k := 10) rfl))
theorem w22_19 (X : ip_X) (ls st : List Value) (M : ip_H) (K : Option Value → ip_H → Prop) : ip_wp X 22 19 ls st M K = ip_ka (ip_get ls 1) (fun x => ip_wp X 22 20 ls (x :: st) M K) := wp_aload_n ((ip_a22 19).trans (ip_f22_0 (k := 11) rfl))
theorem w22_20 (X : ip_X) (ls st : List Value) (M : ip_H) (K : Option Value → ip_H → Prop) : ip_wp X 22 20 ls st M K = ip_ka (ip_get ls 0) (fun x => ip_wp X 22 21 ls (x :: st) M K) := wp_aload_n ((ip_a22 20).trans (ip_f22_0 (k := 12) rfl))
theorem w22_21 (X : ip_X) (ls st : List Value) (M : ip_H) (K : Option Value → ip_H → Prop) (k : Nat) (h0 : (ip_sh M k).1 = 0) (h1 : (ip_sh M k).2.1 = 1) : ip_wp X 22 21 ls (.ref k :: st) M K = ip_wp X 22 24 ls (ip_vr (M.2.2.2 k 10) :: st) M K := (wp_getR ((ip_a22 21).trans (ip_f22_0 (k := 13) rfl))).trans (if_pos ⟨h0, h1⟩)
theorem w22_24 (X : ip_X) (ls st : List Value) (M : ip_H) (K : Option Value → ip_H → Prop) : ip_wp X 22 24 ls st M K = ip_ka (ip_get ls 0) (fun x => ip_wp X 22 25 ls (x :: st) M K) := wp_aload_n ((ip_a22 24).trans (ip_f22_0 (k := 14) rfl))
theorem w22_25 (X : ip_X) (ls st : List Value) (M : ip_H) (K : Option Value → ip_H → Prop) (k : Nat) (h0 : (ip_sh M k).1 = 0) (h1 : (ip_sh M k).2.1 = 1) : ip_wp X 22 25 ls (.ref k :: st) M K = ip_wp X 22 28 ls (ip_vr (M.2.2.2 k 11) :: st) M K := (wp_getR ((ip_a22 25).trans (ip_f22_0 (k := 15) rfl))).trans (if_pos ⟨h0, h1⟩)
theorem w22_28 (X : ip_X) (ls st : List Value) (M : ip_H) (K : Option Value → ip_H → Prop) : ip_wp X 22 28 ls st M K = ip_ki (ip_get ls 3) (fun x => ip_wp X 22 29 ls (.int x :: st) M K) := wp_iload_n ((ip_a22 28).trans (ip_f22_0 (k := 16) rfl))
theorem w22_29 (X : ip_X) (ls st : List Value) (M : ip_H) (K : Option Value → ip_H → Prop) (k : Nat) (x0 : Nat) (x1 : Nat) (x2 : Nat) (x3 : Int32) (h0 : st.length ≤ 4) (h1 : (ip_sh M k).1 = 0) (h2 : (ip_sh M k).2.1 = 1) : ip_wp X 22 29 ls (.int x3 :: .ref x2 :: .ref x1 :: .ref x0 :: .ref k :: st) M K = ip_wp X 20 0 [.ref k, .ref x0, .ref x1, .ref x2, .int x3] [] M (fun r M1 => ip_wp X 22 32 ls (r.toList ++ st) M1 K) := (wp_callV1_5 ((ip_a22 29).trans (ip_f22_0 (k := 17) rfl)) ⟨h0, by exact Nat.le_of_ble_eq_true rfl, h1, h2⟩)
theorem w22_32 (X : ip_X) (ls st : List Value) (M : ip_H) (K : Option Value → ip_H → Prop) : ip_wp X 22 32 ls st M K = ip_wp X 22 33 ls (.int 0 :: st) M K := wp_iconst ((ip_a22 32).trans (ip_f22_0 (k := 18) rfl))
theorem w22_33 (X : ip_X) (ls st : List Value) (M : ip_H) (K : Option Value → ip_H → Prop) (x : Int32) : ip_wp X 22 33 ls (.int x :: st) M K = ip_wp X 22 35 (ip_set1 ls 5 (.int x)) st M K := wp_istore ((ip_a22 33).trans (ip_f22_0 (k := 19) rfl))
theorem w22_35 (X : ip_X) (ls st : List Value) (M : ip_H) (K : Option Value → ip_H → Prop) : ip_wp X 22 35 ls st M K = ip_ki (ip_get ls 5) (fun x => ip_wp X 22 37 ls (.int x :: st) M K) := wp_iload ((ip_a22 35).trans (ip_f22_0 (k := 20) rfl))
theorem w22_37 (X : ip_X) (ls st : List Value) (M : ip_H) (K : Option Value → ip_H → Prop) : ip_wp X 22 37 ls st M K = ip_ki (ip_get ls 4) (fun x => ip_wp X 22 39 ls (.int x :: st) M K) := wp_iload ((ip_a22 37).trans (ip_f22_0 (k := 21) rfl))
theorem w22_39 (X : ip_X) (ls st : List Value) (M : ip_H) (K : Option Value → ip_H → Prop) (x q : Int32) : ip_wp X 22 39 ls (.int q :: .int x :: st) M K = if x < q then ip_wp X 22 42 ls st M K else ip_wp X 22 67 ls st M K := wp_if_icmp_ge ((ip_a22 39).trans (ip_f22_0 (k := 22) rfl))
theorem w22_42 (X : ip_X) (ls st : List Value) (M : ip_H) (K : Option Value → ip_H → Prop) : ip_wp X 22 42 ls st M K = ip_ki (ip_get ls 5) (fun x => ip_wp X 22 44 ls (.int x :: st) M K) := wp_iload ((ip_a22 42).trans (ip_f22_0 (k := 23) rfl))
theorem w22_44 (X : ip_X) (ls st : List Value) (M : ip_H) (K : Option Value → ip_H → Prop) : ip_wp X 22 44 ls st M K = ip_wp X 22 46 ls (.int 60 :: st) M K := wp_bipush ((ip_a22 44).trans (ip_f22_1 (k := 0) rfl))
theorem w22_46 (X : ip_X) (ls st : List Value) (M : ip_H) (K : Option Value → ip_H → Prop) (x q : Int32) : ip_wp X 22 46 ls (.int q :: .int x :: st) M K = if x < q then ip_wp X 22 49 ls st M K else ip_wp X 22 67 ls st M K := wp_if_icmp_ge ((ip_a22 46).trans (ip_f22_1 (k := 1) rfl))
theorem w22_49 (X : ip_X) (ls st : List Value) (M : ip_H) (K : Option Value → ip_H → Prop) : ip_wp X 22 49 ls st M K = ip_ka (ip_get ls 0) (fun x => ip_wp X 22 50 ls (x :: st) M K) := wp_aload_n ((ip_a22 49).trans (ip_f22_1 (k := 2) rfl))
theorem w22_50 (X : ip_X) (ls st : List Value) (M : ip_H) (K : Option Value → ip_H → Prop) : ip_wp X 22 50 ls st M K = ip_ka (ip_get ls 1) (fun x => ip_wp X 22 51 ls (x :: st) M K) := wp_aload_n ((ip_a22 50).trans (ip_f22_1 (k := 3) rfl))
theorem w22_51 (X : ip_X) (ls st : List Value) (M : ip_H) (K : Option Value → ip_H → Prop) (k : Nat) (x0 : Nat) (h0 : st.length ≤ 4) (h1 : (ip_sh M k).1 = 0) (h2 : (ip_sh M k).2.1 = 1) : ip_wp X 22 51 ls (.ref x0 :: .ref k :: st) M K = ip_wp X 25 0 [.ref k, .ref x0] [] M (fun r M1 => ip_wp X 22 54 ls (r.toList ++ st) M1 K) := (wp_callV1_2 ((ip_a22 51).trans (ip_f22_1 (k := 4) rfl)) ⟨h0, by exact Nat.le_of_ble_eq_true rfl, h1, h2⟩)
theorem w22_54 (X : ip_X) (ls st : List Value) (M : ip_H) (K : Option Value → ip_H → Prop) (x : Int32) : ip_wp X 22 54 ls (.int x :: st) M K = if x = 0 then ip_wp X 22 57 ls st M K else ip_wp X 22 61 ls st M K := wp_ifCond_ne ((ip_a22 54).trans (ip_f22_1 (k := 5) rfl))
theorem w22_57 (X : ip_X) (ls st : List Value) (M : ip_H) (K : Option Value → ip_H → Prop) : ip_wp X 22 57 ls st M K = ip_ka (ip_get ls 0) (fun x => ip_wp X 22 58 ls (x :: st) M K) := wp_aload_n ((ip_a22 57).trans (ip_f22_1 (k := 6) rfl))
theorem w22_58 (X : ip_X) (ls st : List Value) (M : ip_H) (K : Option Value → ip_H → Prop) (k : Nat) (h0 : st.length ≤ 4) (h1 : (ip_sh M k).1 = 0) (h2 : (ip_sh M k).2.1 = 1) : ip_wp X 22 58 ls (.ref k :: st) M K = ip_wp X 27 0 [.ref k] [] M (fun r M1 => ip_wp X 22 61 ls (r.toList ++ st) M1 K) := (wp_callV1_1 ((ip_a22 58).trans (ip_f22_1 (k := 7) rfl)) ⟨h0, by exact Nat.le_of_ble_eq_true rfl, h1, h2⟩)
theorem w22_61 (X : ip_X) (ls st : List Value) (M : ip_H) (K : Option Value → ip_H → Prop) : ip_wp X 22 61 ls st M K = ip_ki (ip_get ls 5) (fun x => ip_wp X 22 64 (ip_set1 ls 5 (.int (x + 1))) st M K) := wp_iinc ((ip_a22 61).trans (ip_f22_1 (k := 8) rfl))
theorem w22_64 (X : ip_X) (ls st : List Value) (M : ip_H) (K : Option Value → ip_H → Prop) : ip_wp X 22 64 ls st M K = ip_wp X 22 35 ls st M K := wp_goto ((ip_a22 64).trans (ip_f22_1 (k := 9) rfl))
theorem w22_67 (X : ip_X) (ls : List Value) (M : ip_H) (K : Option Value → ip_H → Prop) : ip_wp X 22 67 ls [] M K = K none M := wp_vret ((ip_a22 67).trans (ip_f22_1 (k := 10) rfl))
end
noncomputable section
-- PART c13yf21.jopen
-- OPEN of the class, over a row
theorem Int32_qi {N : Nat → Int32} {s : Nat} {z : Int × Int × Int × Int} (h : z4 N s z) : ∀ x, x < 4 → N (s + x) = (if x = 0 then Int32.ofInt z.1 else if x = 1 then Int32.ofInt z.2.1 else if x = 2 then Int32.ofInt z.2.2.1 else Int32.ofInt z.2.2.2) := by
  obtain ⟨h0, h1, h2, h3⟩ := h
  intro x hx
  have hc : x = 0 ∨ x = 1 ∨ x = 2 ∨ x = 3 := by omega
  rcases hc with rfl | rfl | rfl | rfl
  · exact h0
  · exact h1
  · exact h2
  · exact h3
theorem tf_uI {c : Nat} {M N : ip_H} {k j : Nat} {v : Int32} (h : tf c M N) (q : (k = c ∧ (j = 3 ∨ j = 4 ∨ j = 5 ∨ j = 6 ∨ j = 12 ∨ j = 13 ∨ j = 14)) ∨ k = c + 1 ∨ k = c + 2) : tf c M (ip_uI N k j v) := by
  refine ⟨h.1, h.2.1, fun a b x1 x2 x3 => ?_, h.2.2.2⟩
  rw [ip_uI_I, if_neg, h.2.2.1 a b x1 x2 x3]
  rintro ⟨rfl, rfl⟩
  omega
theorem tf_uL {c : Nat} {M N : ip_H} {k j : Nat} {v : Int64} (h : tf c M N) (q : k = 3 ∨ (c + 4 ≤ k ∧ k ≤ c + 10)) : tf c M (ip_uL N k j v) := by
  refine ⟨h.1, h.2.1, h.2.2.1, fun a ha => ?_⟩
  rw [← h.2.2.2 a ha]
  funext b
  rw [ip_uL_L, if_neg]
  rintro ⟨rfl, rfl⟩
  exact ha q
theorem tf_kv {c : Nat} {M N : ip_H} {v : Nat} {z : Int × Int × Int × Int} (h : tf c M N) (q : v = 3 ∨ (c + 4 ≤ v ∧ v ≤ c + 10)) : tf c M (k_v N v z) := tf_uL (tf_uL (tf_uL (tf_uL h q) q) q) q
theorem tf_sv {c : Nat} {M N : ip_H} {j : Nat} {z : Int × Int × Int × Int} (h : tf c M N) : tf c M (k_sv N (c + 1) j z) := tf_uI (tf_uI (tf_uI (tf_uI h (by omega)) (by omega)) (by omega)) (by omega)
theorem tf_m9 {c : Nat} {M N : ip_H} {A : Nat} {a b c' d e f g h' i : Int} (h : tf c M N) (q : A = 3 ∨ (c + 4 ≤ A ∧ A ≤ c + 10)) : tf c M (k_m9 N A a b c' d e f g h' i) := tf_uL (tf_uL (tf_uL (tf_uL (tf_uL (tf_uL (tf_uL (tf_uL (tf_uL h q) q) q) q) q) q) q) q) q

theorem sh_of {M M1 : ip_H} (e : M1.1 = M.1) (k : Nat) : ip_sh M1 k = ip_sh M k := by
  unfold ip_sh
  rw [e]
set_option maxHeartbeats 40000000 in
set_option maxRecDepth 100000 in
theorem s_95s (X : ip_X) (M : ip_H) (K : Option Value → ip_H → Prop) (v : Nat) (z : Int × Int × Int × Int) (hv : ip_sh M v = (0, 8, 4)) (hz : cv M v z) : ip_wp X 95 0 [.ref v, .ref v] [] M K = K none (k_v M v z) := by
  obtain ⟨g0, g1, g2, g3⟩ := hz
  unfold k_v
  simp (config := { maxSteps := 10000000, maxDischargeDepth := 30, decide := true }) only [w95_0, w95_1, w95_2, w95_5, w95_8, w95_9, w95_10, w95_13, w95_16, w95_17, w95_18, w95_21, w95_24, w95_25, w95_26, w95_29, w95_32, ↓ip_ka0, ↓ip_ka1, ip_uL_L, ip_uL_sh, ↓reduceIte, and_false, hv, g0, g1, g2, g3, and_false]
theorem s_95a (X : ip_X) (M : ip_H) (K : Option Value → ip_H → Prop) (v w : Nat) (z : Int × Int × Int × Int) (hv : ip_sh M v = (0, 8, 4)) (hw : ip_sh M w = (0, 8, 4)) (hz : cv M w z) : ip_wp X 95 0 [.ref v, .ref w] [] M K = K none (k_v M v z) := by
  by_cases e : w = v
  · subst e
    exact s_95s X M K w z hv hz
  · exact s_95 X M K v w z hv hw e hz

set_option maxHeartbeats 40000000 in
set_option maxRecDepth 100000 in
theorem o_20a6 (X : ip_X) (M : ip_H) (K : Option Value → ip_H → Prop) (w : Int32) (x x2 : Nat) (z y : Int × Int × Int × Int) (sx : ip_sh M x = (0, 8, 4)) (sy : ip_sh M x2 = (0, 8, 4)) (nx2 : ¬ x = 16) (ny : ¬ x2 = 15) (hz : cv M x z) (hy : cv M x2 y) (hG : ip_G M) (h : ∀ E, tf 6 M E → cv E 15 z → cv E 16 y → cv E x z → cv E x2 y → E.2.1 6 3 = w → E.2.1 6 4 = 0 → E.2.1 6 5 = -1 → ip_wp X 20 26 [.ref 6, .ref 1, .ref x, .ref x2, .int w] [] E K) : ip_wp X 20 0 [.ref 6, .ref 1, .ref x, .ref x2, .int w] [] M K := by
  simp (config := { maxSteps := 10000000, maxDischargeDepth := 30, decide := true }) only [w20_0, w20_1, w20_4, w20_5, w20_7, w20_10, w20_11, w20_14, w20_15, w21_0, w21_1, w21_2, w21_5, w21_6, w21_7, w21_10, w21_11, w21_12, w21_15, w21_16, w21_17, w21_20, ↓ip_ka0, ↓ip_ka2, ↓ip_ki4, ip_uI_R, ip_uI_sh, ip_vr_some, Option.toList_none, List.nil_append, List.length_nil, Nat.zero_le, gS_6 hG, gS_15 hG, gS_9 hG, gS_10 hG, gR_6_10 hG, gR_9_0 hG, sx]
  have hz1 : cv (ip_uI (ip_uI (ip_uI (ip_uI (ip_uI M 6 3 (-1)) 6 4 0) 6 5 (-1)) 6 6 (-1)) 6 3 w) x z := hz
  have hy1 : cv (ip_uI (ip_uI (ip_uI (ip_uI (ip_uI M 6 3 (-1)) 6 4 0) 6 5 (-1)) 6 6 (-1)) 6 3 w) x2 y := hy
  rw [s_95a X (ip_uI (ip_uI (ip_uI (ip_uI (ip_uI M 6 3 (-1)) 6 4 0) 6 5 (-1)) 6 6 (-1)) 6 3 w) _ 15 x z (gS_15 hG) sx hz1]
  have tf1 : tf 6 M (k_v (ip_uI (ip_uI (ip_uI (ip_uI (ip_uI M 6 3 (-1)) 6 4 0) 6 5 (-1)) 6 6 (-1)) 6 3 w) 15 z) := tf_kv (tf_uI (tf_uI (tf_uI (tf_uI (tf_uI (tf_r _ _) (by omega)) (by omega)) (by omega)) (by omega)) (by omega)) (by omega)
  have d3 : (k_v (ip_uI (ip_uI (ip_uI (ip_uI (ip_uI M 6 3 (-1)) 6 4 0) 6 5 (-1)) 6 6 (-1)) 6 3 w) 15 z).2.1 6 3 = w := by
    rw [k_v_I, ip_uI_I, if_pos ⟨rfl, rfl⟩]
  have d4 : (k_v (ip_uI (ip_uI (ip_uI (ip_uI (ip_uI M 6 3 (-1)) 6 4 0) 6 5 (-1)) 6 6 (-1)) 6 3 w) 15 z).2.1 6 4 = 0 := by
    rw [k_v_I, ip_uI_I, if_neg (by omega), ip_uI_I, if_neg (by omega), ip_uI_I, if_neg (by omega), ip_uI_I, if_pos ⟨rfl, rfl⟩]
  have d5 : (k_v (ip_uI (ip_uI (ip_uI (ip_uI (ip_uI M 6 3 (-1)) 6 4 0) 6 5 (-1)) 6 6 (-1)) 6 3 w) 15 z).2.1 6 5 = -1 := by
    rw [k_v_I, ip_uI_I, if_neg (by omega), ip_uI_I, if_neg (by omega), ip_uI_I, if_pos ⟨rfl, rfl⟩]
  have uE : cv (k_v (ip_uI (ip_uI (ip_uI (ip_uI (ip_uI M 6 3 (-1)) 6 4 0) 6 5 (-1)) 6 6 (-1)) 6 3 w) 15 z) 15 z := cv_kv _ _ _
  have yE : cv (k_v (ip_uI (ip_uI (ip_uI (ip_uI (ip_uI M 6 3 (-1)) 6 4 0) 6 5 (-1)) 6 6 (-1)) 6 3 w) 15 z) x2 y := cv_kv_ne ny hy1
  have xE : cv (k_v (ip_uI (ip_uI (ip_uI (ip_uI (ip_uI M 6 3 (-1)) 6 4 0) 6 5 (-1)) 6 6 (-1)) 6 3 w) 15 z) x z := by
    by_cases e : x = 15
    · rw [e]; exact cv_kv _ _ _
    · exact cv_kv_ne e hz1
  generalize k_v (ip_uI (ip_uI (ip_uI (ip_uI (ip_uI M 6 3 (-1)) 6 4 0) 6 5 (-1)) 6 6 (-1)) 6 3 w) 15 z = E at *
  have hG1 := tf_G tf1 hG
  have sy1 : ip_sh E x2 = (0, 8, 4) := (sh_of tf1.1 x2).trans sy
  simp (config := { maxSteps := 10000000, maxDischargeDepth := 30, decide := true }) only [w20_18, w20_19, w20_22, w20_23, ↓ip_ka0, ↓ip_ka3, ip_vr_some, Option.toList_none, List.nil_append, List.length_nil, Nat.zero_le, gS_6 hG1, gS_7 hG1, gS_15 hG1, gS_16 hG1, gS_9 hG1, gS_10 hG1, gR_6_0 hG1, gR_6_2 hG1, gR_6_10 hG1, gR_6_11 hG1, gR_9_0 hG1, sy1]
  rw [s_95a X E _ 16 x2 y (gS_16 hG1) sy1 yE]
  exact h (k_v E 16 y) (tf_kv tf1 (by omega)) (cv_kv_ne (by decide) uE) (cv_kv _ _ _) (cv_kv_ne nx2 xE) (by
    by_cases e : x2 = 16
    · rw [e]; exact cv_kv _ _ _
    · exact cv_kv_ne e yE) d3 d4 d5

set_option maxHeartbeats 40000000 in
set_option maxRecDepth 100000 in
theorem o_20b6 (X : ip_X) (M : ip_H) (K : Option Value → ip_H → Prop) (w : Int32) (x x2 : Nat) (z y : Int × Int × Int × Int) (sx : ip_sh M x = (0, 8, 4)) (sy : ip_sh M x2 = (0, 8, 4)) (N : Nat → Int32) (hp : ∀ x, x < 3 → M.2.1 1 x = N x) (u2 : cv M 15 z) (v2 : cv M 16 y) (x2z : cv M x z) (y2 : cv M x2 y) (d3 : M.2.1 6 3 = w) (d4 : M.2.1 6 4 = 0) (d5 : M.2.1 6 5 = -1) (hG : ip_G M) (h : ∀ E, tf 6 M E → cv E 15 z → cv E 16 y → E.2.1 6 3 = w → E.2.1 6 4 = 0 → E.2.1 6 5 = -1 → E.2.1 6 12 = c_f4 (r_v N 0) (r_v N 1) (r_v N 2) z → E.2.1 6 13 = c_f4 (r_v N 0) (r_v N 1) (r_v N 2) y → ip_wp X 20 44 [.ref 6, .ref 1, .ref x, .ref x2, .int w] [] E K) : ip_wp X 20 26 [.ref 6, .ref 1, .ref x, .ref x2, .int w] [] M K := by
  have q0 : (M.2.1 1 0).toInt = r_v N 0 := congrArg Int32.toInt (hp 0 (by decide))
  have q1 : (M.2.1 1 1).toInt = r_v N 1 := congrArg Int32.toInt (hp 1 (by decide))
  have q2 : (M.2.1 1 2).toInt = r_v N 2 := congrArg Int32.toInt (hp 2 (by decide))
  simp (config := { maxSteps := 10000000, maxDischargeDepth := 30, decide := true }) only [w20_26, w20_27, w20_28, w20_29, ↓ip_ka0, ↓ip_ka1, ↓ip_ka2, List.length_nil, List.length_cons, Nat.reduceLeDiff, Nat.zero_add, gS_9 hG, gS_10 hG, gS_1 hG, gR_9_0 hG, sx]
  rw [s_49 X M _ x z hG sx x2z, q0, q1, q2]
  simp (config := { maxSteps := 10000000, maxDischargeDepth := 30, decide := true }) only [w20_32, w20_35, w20_36, w20_37, w20_38, ↓ip_ka0, ↓ip_ka1, ↓ip_ka3, ip_uI_sh, Option.toList_some, List.nil_append, List.cons_append, List.length_nil, List.length_cons, Nat.reduceLeDiff, Nat.zero_add, gS_6 hG, gS_9 hG, gS_10 hG, gS_1 hG, gR_9_0 hG, sy]
  generalize c_f4 (r_v N 0) (r_v N 1) (r_v N 2) z = f1 at *
  have hG3 : ip_G (ip_uI M 6 12 f1) := hG
  have r0 : ((ip_uI M 6 12 f1).2.1 1 0).toInt = r_v N 0 := q0
  have r1 : ((ip_uI M 6 12 f1).2.1 1 1).toInt = r_v N 1 := q1
  have r2 : ((ip_uI M 6 12 f1).2.1 1 2).toInt = r_v N 2 := q2
  rw [s_49 X (ip_uI M 6 12 f1) _ x2 y hG3 sy y2, r0, r1, r2]
  generalize c_f4 (r_v N 0) (r_v N 1) (r_v N 2) y = f2 at *
  simp (config := { maxSteps := 10000000, maxDischargeDepth := 30, decide := true }) only [w20_41, Option.toList_some, List.nil_append, List.cons_append, gS_6 hG3, gS_7 hG3, gS_15 hG3, gS_16 hG3, gS_9 hG3, gS_10 hG3, gS_1 hG3, gR_6_0 hG3, gR_6_2 hG3, gR_6_10 hG3, gR_6_11 hG3, gR_9_0 hG3]
  refine h _ (tf_uI (tf_uI (tf_r _ _) (by omega)) (by omega)) u2 v2 ?_ ?_ ?_ ?_ ?_
  · rw [ip_uI_I, if_neg (by omega), ip_uI_I, if_neg (by omega)]; exact d3
  · rw [ip_uI_I, if_neg (by omega), ip_uI_I, if_neg (by omega)]; exact d4
  · rw [ip_uI_I, if_neg (by omega), ip_uI_I, if_neg (by omega)]; exact d5
  · rw [ip_uI_I, if_neg (by omega), ip_uI_I, if_pos ⟨rfl, rfl⟩]
  · rw [ip_uI_I, if_pos ⟨rfl, rfl⟩]

set_option maxHeartbeats 40000000 in
set_option maxRecDepth 100000 in
theorem o_20c6 (X : ip_X) (M : ip_H) (K : Option Value → ip_H → Prop) (w : Int32) (x x2 : Nat) (z y : Int × Int × Int × Int) (f1 f2 : Int32) (u4 : cv M 15 z) (v4 : cv M 16 y) (d4 : M.2.1 6 4 = 0) (d12 : M.2.1 6 12 = f1) (d13 : M.2.1 6 13 = f2) (hG : ip_G M) (h : ∀ E, tf 6 M E → (∀ j, E.2.1 6 j = M.2.1 6 j) → E.2.1 7 0 = Int32.ofInt z.1 → E.2.1 7 1 = Int32.ofInt z.2.1 → E.2.1 7 2 = Int32.ofInt z.2.2.1 → E.2.1 7 3 = Int32.ofInt z.2.2.2 → E.2.1 7 4 = f1 → E.2.1 7 5 = Int32.ofInt y.1 → E.2.1 7 6 = Int32.ofInt y.2.1 → E.2.1 7 7 = Int32.ofInt y.2.2.1 → E.2.1 7 8 = Int32.ofInt y.2.2.2 → E.2.1 7 9 = f2 → K none (k_m9 E 10 1 0 0 0 1 0 0 0 1)) : ip_wp X 20 44 [.ref 6, .ref 1, .ref x, .ref x2, .int w] [] M K := by
  simp (config := { maxSteps := 10000000, maxDischargeDepth := 30, decide := true }) only [w20_44, w20_45, ↓ip_ka0, List.length_nil, Nat.zero_le, gS_6 hG, gS_9 hG, gS_10 hG, gR_9_0 hG]
  have hs4 : M.2.1 6 4 = Int32.ofNat 0 := d4
  rw [s_28_6 X M _ 0 (by decide) hs4 z y u4 v4 hG, d12, d13]
  have tf5 : tf 6 M (ip_uI (k_sv (ip_uI (k_sv M 7 (10 * 0) z) 7 (10 * 0 + 4) f1) 7 (10 * 0 + 5) y) 7 (10 * 0 + 9) f2) := tf_uI (tf_t (tf_uI (tf_sv (tf_r _ _)) (by omega)) (tf_sv (tf_r _ _))) (by omega)
  have hh := h (ip_uI (k_sv (ip_uI (k_sv M 7 (10 * 0) z) 7 (10 * 0 + 4) f1) 7 (10 * 0 + 5) y) 7 (10 * 0 + 9) f2) tf5 (fun j => by simp (decide := true) only [ip_uI_I, k_sv_I, and_false, false_and, and_true, true_and, ↓reduceIte, Nat.mul_zero, Nat.zero_add]) (by simp (decide := true) only [ip_uI_I, k_sv_I, and_false, false_and, and_true, true_and, ↓reduceIte, Nat.mul_zero, Nat.zero_add]) (by simp (decide := true) only [ip_uI_I, k_sv_I, and_false, false_and, and_true, true_and, ↓reduceIte, Nat.mul_zero, Nat.zero_add]) (by simp (decide := true) only [ip_uI_I, k_sv_I, and_false, false_and, and_true, true_and, ↓reduceIte, Nat.mul_zero, Nat.zero_add]) (by simp (decide := true) only [ip_uI_I, k_sv_I, and_false, false_and, and_true, true_and, ↓reduceIte, Nat.mul_zero, Nat.zero_add]) (by simp (decide := true) only [ip_uI_I, k_sv_I, and_false, false_and, and_true, true_and, ↓reduceIte, Nat.mul_zero, Nat.zero_add]) (by simp (decide := true) only [ip_uI_I, k_sv_I, and_false, false_and, and_true, true_and, ↓reduceIte, Nat.mul_zero, Nat.zero_add]) (by simp (decide := true) only [ip_uI_I, k_sv_I, and_false, false_and, and_true, true_and, ↓reduceIte, Nat.mul_zero, Nat.zero_add]) (by simp (decide := true) only [ip_uI_I, k_sv_I, and_false, false_and, and_true, true_and, ↓reduceIte, Nat.mul_zero, Nat.zero_add]) (by simp (decide := true) only [ip_uI_I, k_sv_I, and_false, false_and, and_true, true_and, ↓reduceIte, Nat.mul_zero, Nat.zero_add]) (by simp (decide := true) only [ip_uI_I, k_sv_I, and_false, false_and, and_true, true_and, ↓reduceIte, Nat.mul_zero, Nat.zero_add])
  have hG5 := tf_G tf5 hG
  generalize (ip_uI (k_sv (ip_uI (k_sv M 7 (10 * 0) z) 7 (10 * 0 + 4) f1) 7 (10 * 0 + 5) y) 7 (10 * 0 + 9) f2) = E5 at *
  simp (config := { maxSteps := 10000000, maxDischargeDepth := 30, decide := true }) only [w20_48, w20_49, w20_52, ↓ip_ka0, ip_vr_some, Option.toList_none, List.nil_append, List.length_nil, Nat.zero_le, gS_6 hG5, gS_7 hG5, gS_15 hG5, gS_16 hG5, gS_9 hG5, gS_10 hG5, gS_1 hG5, gR_6_0 hG5, gR_6_2 hG5, gR_6_10 hG5, gR_6_11 hG5, gR_9_0 hG5, hG5]
  rw [s_64 X E5 _ 9 10 (gS_9 hG5) (gR_9_0 hG5) (gS_10 hG5)]
  simp (config := { maxSteps := 10000000, maxDischargeDepth := 30, decide := true }) only [w20_55, Option.toList_none, List.nil_append]
  exact hh

theorem j_opena6 (X : ip_X) (M : ip_H) (K : Option Value → ip_H → Prop) (w : Int32) (x x2 : Nat) (z y : Int × Int × Int × Int) (sx : ip_sh M x = (0, 8, 4)) (sy : ip_sh M x2 = (0, 8, 4)) (nx2 : ¬ x = 16) (ny : ¬ x2 = 15) (hz : cv M x z) (hy : cv M x2 y) (N : Nat → Int32) (hp : ∀ x, x < 3 → M.2.1 1 x = N x) (z1 : z4 N 153 z) (y1 : z4 N 157 y) (vz : c_v4 z) (vy : c_v4 y) (hw : w = N 4) (hG : ip_G M) (hK : ∀ M2, tf 6 M M2 → coj6 M2 N 0 → K none M2) : ip_wp X 20 0 [.ref 6, .ref 1, .ref x, .ref x2, .int w] [] M K := by
  refine o_20a6 X M K w x x2 z y sx sy nx2 ny hz hy hG (fun E t1 a1 a2 a3 a4 a5 a6 a7 => ?_)
  have hG1 := tf_G t1 hG
  refine o_20b6 X E K w x x2 z y ((sh_of t1.1 x).trans sx) ((sh_of t1.1 x2).trans sy) N (fun k hk => (t1.2.2.1 1 k (by omega) (by omega) (by omega)).trans (hp k hk)) a1 a2 a3 a4 a5 a6 a7 hG1 (fun E2 t2 b1 b2 b3 b4 b5 b6 b7 => ?_)
  have hG2 := tf_G t2 hG1
  refine o_20c6 X E2 K w x x2 z y _ _ b1 b2 b4 b6 b7 hG2 (fun E3 t3 ec e0 e1 e2 e3 e4 e5 e6 e7 e8 e9 => ?_)
  have qz := z4_qi z1 vz
  have qy := z4_qi y1 vy
  have f1 := Int32_qi z1
  have f2 := Int32_qi y1
  refine hK _ (tf_t t1 (tf_t t2 (tf_m9 t3 (by omega)))) ⟨(ec 4).trans b4, ((ec 3).trans b3).trans hw, fun i hi => ?_, fun i hi => absurd hi (Nat.not_lt_zero i), fun x hx => ?_, (ec 5).trans b5⟩
  · have hi0 : i = 0 := by omega
    subst hi0
    refine ⟨fun x hx => ?_, fun x hx => ?_, ?_, ?_⟩
    · have hc : x = 0 ∨ x = 1 ∨ x = 2 ∨ x = 3 := by omega
      rcases hc with rfl | rfl | rfl | rfl
      · exact e0.trans (f1 0 (by decide)).symm
      · exact e1.trans (f1 1 (by decide)).symm
      · exact e2.trans (f1 2 (by decide)).symm
      · exact e3.trans (f1 3 (by decide)).symm
    · have hc : x = 0 ∨ x = 1 ∨ x = 2 ∨ x = 3 := by omega
      rcases hc with rfl | rfl | rfl | rfl
      · exact e5.trans (f2 0 (by decide)).symm
      · exact e6.trans (f2 1 (by decide)).symm
      · exact e7.trans (f2 2 (by decide)).symm
      · exact e8.trans (f2 3 (by decide)).symm
    · unfold q_fu
      rw [c_fl_f4]
      show _ = c_f4 _ _ _ (qi N 153)
      rw [qz]
      exact e4
    · unfold q_fv
      rw [c_fl_f4]
      show _ = c_f4 _ _ _ (qi N 157)
      rw [qy]
      exact e9
  · have hc : x = 0 ∨ x = 1 ∨ x = 2 ∨ x = 3 ∨ x = 4 ∨ x = 5 ∨ x = 6 ∨ x = 7 ∨ x = 8 := by omega
    rw [k_m9_L]
    rcases hc with rfl | rfl | rfl | rfl | rfl | rfl | rfl | rfl | rfl <;> rfl

theorem j_open6 (X : ip_X) (M : ip_H) (K : Option Value → ip_H → Prop) (w : Int32) (x x2 : Nat) (z y : Int × Int × Int × Int) (sx : ip_sh M x = (0, 8, 4)) (sy : ip_sh M x2 = (0, 8, 4)) (nx : ¬ x = 15) (nx2 : ¬ x = 16) (ny : ¬ x2 = 15) (ny2 : ¬ x2 = 16) (hz : cv M x z) (hy : cv M x2 y) (N : Nat → Int32) (hp : ∀ x, x < 3 → M.2.1 1 x = N x) (z1 : z4 N 153 z) (y1 : z4 N 157 y) (vz : c_v4 z) (vy : c_v4 y) (hw : w = N 4) (hG : ip_G M) (hK : ∀ M2, tf 6 M M2 → coj6 M2 N 0 → K none M2) : ip_wp X 20 0 [.ref 6, .ref 1, .ref x, .ref x2, .int w] [] M K := j_opena6 X M K w x x2 z y sx sy nx2 ny hz hy N hp z1 y1 vz vy hw hG hK
theorem j_opens6 (X : ip_X) (M : ip_H) (K : Option Value → ip_H → Prop) (w : Int32) (z y : Int × Int × Int × Int) (hz : cv M 15 z) (hy : cv M 16 y) (N : Nat → Int32) (hp : ∀ x, x < 3 → M.2.1 1 x = N x) (z1 : z4 N 153 z) (y1 : z4 N 157 y) (vz : c_v4 z) (vy : c_v4 y) (hw : w = N 4) (hG : ip_G M) (hK : ∀ M2, tf 6 M M2 → coj6 M2 N 0 → K none M2) : ip_wp X 20 0 [.ref 6, .ref 1, .ref 15, .ref 16, .int w] [] M K := j_opena6 X M K w 15 16 z y (gS_15 hG) (gS_16 hG) (by decide) (by decide) hz hy N hp z1 y1 vz vy hw hG hK
end
noncomputable section
-- PART c13yg01.pastwalk
-- equations of the instructions, by program counter
theorem ip_a55 (pc : Nat) : ip_at 55 pc = ip_c55.lookup pc := rfl
theorem ip_s55 : lk_s 0 ip_c55 = true := by decide +kernel
theorem ip_l55_0 : ip_d55_0.length = 24 := rfl
theorem ip_f55_0 {k pc : Nat} {e : ip_E} (h : ip_d55_0[k]? = some (pc, e)) : ip_c55.lookup pc = some e := lk_of ip_s55 (lk_apl h)
theorem ip_f55_1 {k pc : Nat} {e : ip_E} (h : ip_d55_1[k]? = some (pc, e)) : ip_c55.lookup pc = some e := lk_of ip_s55 (lk_app ip_l55_0 h)
theorem w55_0 (X : ip_X) (ls st : List Value) (M : ip_H) (K : Option Value → ip_H → Prop) : ip_wp X 55 0 ls st M K = ip_ka (ip_get ls 0) (fun x => ip_wp X 55 1 ls (x :: st) M K) := wp_aload_n ((ip_a55 0).trans (ip_f55_0 (k := 0) rfl))
theorem w55_1 (X : ip_X) (ls st : List Value) (M : ip_H) (K : Option Value → ip_H → Prop) (k : Nat) (h0 : (ip_sh M k).1 = 0) (h1 : (ip_sh M k).2.1 = 3) : ip_wp X 55 1 ls (.ref k :: st) M K = ip_wp X 55 4 ls (.int (M.2.1 k 5) :: st) M K := (wp_getI ((ip_a55 1).trans (ip_f55_0 (k := 1) rfl))).trans (if_pos ⟨h0, h1⟩)
theorem w55_4 (X : ip_X) (ls st : List Value) (M : ip_H) (K : Option Value → ip_H → Prop) : ip_wp X 55 4 ls st M K = ip_wp X 55 6 ls (.int 8 :: st) M K := wp_bipush ((ip_a55 4).trans (ip_f55_0 (k := 2) rfl))
theorem w55_6 (X : ip_X) (ls st : List Value) (M : ip_H) (K : Option Value → ip_H → Prop) (x q : Int32) : ip_wp X 55 6 ls (.int q :: .int x :: st) M K = if x < q then ip_wp X 55 32 ls st M K else ip_wp X 55 9 ls st M K := wp_if_icmp_lt ((ip_a55 6).trans (ip_f55_0 (k := 3) rfl))
theorem w55_9 (X : ip_X) (ls st : List Value) (M : ip_H) (K : Option Value → ip_H → Prop) : ip_wp X 55 9 ls st M K = ip_ka (ip_get ls 0) (fun x => ip_wp X 55 10 ls (x :: st) M K) := wp_aload_n ((ip_a55 9).trans (ip_f55_0 (k := 4) rfl))
theorem w55_10 (X : ip_X) (ls st : List Value) (M : ip_H) (K : Option Value → ip_H → Prop) : ip_wp X 55 10 ls st M K = ip_ka (ip_get ls 0) (fun x => ip_wp X 55 11 ls (x :: st) M K) := wp_aload_n ((ip_a55 10).trans (ip_f55_0 (k := 5) rfl))
theorem w55_11 (X : ip_X) (ls st : List Value) (M : ip_H) (K : Option Value → ip_H → Prop) (k : Nat) (h0 : (ip_sh M k).1 = 0) (h1 : (ip_sh M k).2.1 = 3) : ip_wp X 55 11 ls (.ref k :: st) M K = ip_wp X 55 14 ls (.int (M.2.1 k 4) :: st) M K := (wp_getI ((ip_a55 11).trans (ip_f55_0 (k := 6) rfl))).trans (if_pos ⟨h0, h1⟩)
theorem w55_14 (X : ip_X) (ls st : List Value) (M : ip_H) (K : Option Value → ip_H → Prop) : ip_wp X 55 14 ls st M K = ip_wp X 55 15 ls (.int 1 :: st) M K := wp_iconst ((ip_a55 14).trans (ip_f55_0 (k := 7) rfl))
theorem w55_15 (X : ip_X) (ls st : List Value) (M : ip_H) (K : Option Value → ip_H → Prop) (x q : Int32) : ip_wp X 55 15 ls (.int q :: .int x :: st) M K = ip_wp X 55 16 ls (.int (x + q) :: st) M K := wp_iadd ((ip_a55 15).trans (ip_f55_0 (k := 8) rfl))
theorem w55_16 (X : ip_X) (ls st : List Value) (M : ip_H) (K : Option Value → ip_H → Prop) : ip_wp X 55 16 ls st M K = ip_wp X 55 18 ls (.int 8 :: st) M K := wp_bipush ((ip_a55 16).trans (ip_f55_0 (k := 9) rfl))
theorem w55_18 (X : ip_X) (ls st : List Value) (M : ip_H) (K : Option Value → ip_H → Prop) (x q : Int32) (hq : ¬ q = 0) : ip_wp X 55 18 ls (.int q :: .int x :: st) M K = ip_wp X 55 19 ls (.int (x - x / q * q) :: st) M K := (wp_irem ((ip_a55 18).trans (ip_f55_0 (k := 10) rfl))).trans (if_neg hq)
theorem w55_19 (X : ip_X) (ls st : List Value) (M : ip_H) (K : Option Value → ip_H → Prop) (k : Nat) (x : Int32) (h0 : (ip_sh M k).1 = 0) (h1 : (ip_sh M k).2.1 = 3) : ip_wp X 55 19 ls (.int x :: .ref k :: st) M K = ip_wp X 55 22 ls st (ip_uI M k 4 x) K := (wp_putI ((ip_a55 19).trans (ip_f55_0 (k := 11) rfl))).trans (if_pos ⟨h0, h1⟩)
theorem w55_22 (X : ip_X) (ls st : List Value) (M : ip_H) (K : Option Value → ip_H → Prop) : ip_wp X 55 22 ls st M K = ip_ka (ip_get ls 0) (fun x => ip_wp X 55 23 ls (x :: st) M K) := wp_aload_n ((ip_a55 22).trans (ip_f55_0 (k := 12) rfl))
theorem w55_23_r (X : ip_X) (ls st : List Value) (M : ip_H) (K : Option Value → ip_H → Prop) (x : Nat) : ip_wp X 55 23 ls (.ref x :: st) M K = ip_wp X 55 24 ls (.ref x :: .ref x :: st) M K := wp_dup_r ((ip_a55 23).trans (ip_f55_0 (k := 13) rfl))
theorem w55_23_i (X : ip_X) (ls st : List Value) (M : ip_H) (K : Option Value → ip_H → Prop) (x : Int32) : ip_wp X 55 23 ls (.int x :: st) M K = ip_wp X 55 24 ls (.int x :: .int x :: st) M K := wp_dup_i ((ip_a55 23).trans (ip_f55_0 (k := 13) rfl))
theorem w55_24 (X : ip_X) (ls st : List Value) (M : ip_H) (K : Option Value → ip_H → Prop) (k : Nat) (h0 : (ip_sh M k).1 = 0) (h1 : (ip_sh M k).2.1 = 3) : ip_wp X 55 24 ls (.ref k :: st) M K = ip_wp X 55 27 ls (.int (M.2.1 k 5) :: st) M K := (wp_getI ((ip_a55 24).trans (ip_f55_0 (k := 14) rfl))).trans (if_pos ⟨h0, h1⟩)
theorem w55_27 (X : ip_X) (ls st : List Value) (M : ip_H) (K : Option Value → ip_H → Prop) : ip_wp X 55 27 ls st M K = ip_wp X 55 28 ls (.int 1 :: st) M K := wp_iconst ((ip_a55 27).trans (ip_f55_0 (k := 15) rfl))
theorem w55_28 (X : ip_X) (ls st : List Value) (M : ip_H) (K : Option Value → ip_H → Prop) (x q : Int32) : ip_wp X 55 28 ls (.int q :: .int x :: st) M K = ip_wp X 55 29 ls (.int (x - q) :: st) M K := wp_isub ((ip_a55 28).trans (ip_f55_0 (k := 16) rfl))
theorem w55_29 (X : ip_X) (ls st : List Value) (M : ip_H) (K : Option Value → ip_H → Prop) (k : Nat) (x : Int32) (h0 : (ip_sh M k).1 = 0) (h1 : (ip_sh M k).2.1 = 3) : ip_wp X 55 29 ls (.int x :: .ref k :: st) M K = ip_wp X 55 32 ls st (ip_uI M k 5 x) K := (wp_putI ((ip_a55 29).trans (ip_f55_0 (k := 17) rfl))).trans (if_pos ⟨h0, h1⟩)
theorem w55_32 (X : ip_X) (ls st : List Value) (M : ip_H) (K : Option Value → ip_H → Prop) : ip_wp X 55 32 ls st M K = ip_ka (ip_get ls 0) (fun x => ip_wp X 55 33 ls (x :: st) M K) := wp_aload_n ((ip_a55 32).trans (ip_f55_0 (k := 18) rfl))
theorem w55_33_r (X : ip_X) (ls st : List Value) (M : ip_H) (K : Option Value → ip_H → Prop) (x : Nat) : ip_wp X 55 33 ls (.ref x :: st) M K = ip_wp X 55 34 ls (.ref x :: .ref x :: st) M K := wp_dup_r ((ip_a55 33).trans (ip_f55_0 (k := 19) rfl))
theorem w55_33_i (X : ip_X) (ls st : List Value) (M : ip_H) (K : Option Value → ip_H → Prop) (x : Int32) : ip_wp X 55 33 ls (.int x :: st) M K = ip_wp X 55 34 ls (.int x :: .int x :: st) M K := wp_dup_i ((ip_a55 33).trans (ip_f55_0 (k := 19) rfl))
theorem w55_34 (X : ip_X) (ls st : List Value) (M : ip_H) (K : Option Value → ip_H → Prop) (k : Nat) (h0 : (ip_sh M k).1 = 0) (h1 : (ip_sh M k).2.1 = 3) : ip_wp X 55 34 ls (.ref k :: st) M K = ip_wp X 55 37 ls (.int (M.2.1 k 5) :: st) M K := (wp_getI ((ip_a55 34).trans (ip_f55_0 (k := 20) rfl))).trans (if_pos ⟨h0, h1⟩)
theorem w55_37 (X : ip_X) (ls st : List Value) (M : ip_H) (K : Option Value → ip_H → Prop) : ip_wp X 55 37 ls st M K = ip_wp X 55 38 ls (.int 1 :: st) M K := wp_iconst ((ip_a55 37).trans (ip_f55_0 (k := 21) rfl))
theorem w55_38 (X : ip_X) (ls st : List Value) (M : ip_H) (K : Option Value → ip_H → Prop) (x q : Int32) : ip_wp X 55 38 ls (.int q :: .int x :: st) M K = ip_wp X 55 39 ls (.int (x + q) :: st) M K := wp_iadd ((ip_a55 38).trans (ip_f55_0 (k := 22) rfl))
theorem w55_39 (X : ip_X) (ls st : List Value) (M : ip_H) (K : Option Value → ip_H → Prop) (k : Nat) (x : Int32) (h0 : (ip_sh M k).1 = 0) (h1 : (ip_sh M k).2.1 = 3) : ip_wp X 55 39 ls (.int x :: .ref k :: st) M K = ip_wp X 55 42 ls st (ip_uI M k 5 x) K := (wp_putI ((ip_a55 39).trans (ip_f55_0 (k := 23) rfl))).trans (if_pos ⟨h0, h1⟩)
theorem w55_42 (X : ip_X) (ls st : List Value) (M : ip_H) (K : Option Value → ip_H → Prop) : ip_wp X 55 42 ls st M K = ip_ka (ip_get ls 0) (fun x => ip_wp X 55 43 ls (x :: st) M K) := wp_aload_n ((ip_a55 42).trans (ip_f55_1 (k := 0) rfl))
theorem w55_43 (X : ip_X) (ls st : List Value) (M : ip_H) (K : Option Value → ip_H → Prop) (k : Nat) (h0 : (ip_sh M k).1 = 0) (h1 : (ip_sh M k).2.1 = 3) : ip_wp X 55 43 ls (.ref k :: st) M K = ip_wp X 55 46 ls (ip_vr (M.2.2.2 k 1) :: st) M K := (wp_getR ((ip_a55 43).trans (ip_f55_1 (k := 1) rfl))).trans (if_pos ⟨h0, h1⟩)
theorem w55_46 (X : ip_X) (ls st : List Value) (M : ip_H) (K : Option Value → ip_H → Prop) : ip_wp X 55 46 ls st M K = ip_ka (ip_get ls 0) (fun x => ip_wp X 55 47 ls (x :: st) M K) := wp_aload_n ((ip_a55 46).trans (ip_f55_1 (k := 2) rfl))
theorem w55_47 (X : ip_X) (ls st : List Value) (M : ip_H) (K : Option Value → ip_H → Prop) (k : Nat) (h0 : st.length ≤ 4) (h1 : (ip_sh M k).1 = 0) (h2 : (ip_sh M k).2.1 = 3) : ip_wp X 55 47 ls (.ref k :: st) M K = ip_wp X 59 0 [.ref k] [] M (fun r M1 => ip_wp X 55 50 ls (r.toList ++ st) M1 K) := (wp_callV1_1 ((ip_a55 47).trans (ip_f55_1 (k := 3) rfl)) ⟨h0, by exact Nat.le_of_ble_eq_true rfl, h1, h2⟩)
theorem w55_50 (X : ip_X) (ls st : List Value) (M : ip_H) (K : Option Value → ip_H → Prop) : ip_wp X 55 50 ls st M K = ip_ki (ip_get ls 1) (fun x => ip_wp X 55 51 ls (.int x :: st) M K) := wp_iload_n ((ip_a55 50).trans (ip_f55_1 (k := 4) rfl))
theorem w55_51 (X : ip_X) (ls st : List Value) (M : ip_H) (K : Option Value → ip_H → Prop) (i x : Int32) (k : Nat) (h0 : (ip_sh M k).1 = 1) (h1 : (ip_sh M k).2.1 = 0) (h2 : ip_ix i (ip_sh M k).2.2 = true) : ip_wp X 55 51 ls (.int x :: .int i :: .ref k :: st) M K = ip_wp X 55 52 ls st (ip_uI M k i.toNatClampNeg x) K := (wp_iastore ((ip_a55 51).trans (ip_f55_1 (k := 5) rfl))).trans (if_pos ⟨h0, h1, h2⟩)
theorem w55_52 (X : ip_X) (ls st : List Value) (M : ip_H) (K : Option Value → ip_H → Prop) : ip_wp X 55 52 ls st M K = ip_ka (ip_get ls 0) (fun x => ip_wp X 55 53 ls (x :: st) M K) := wp_aload_n ((ip_a55 52).trans (ip_f55_1 (k := 6) rfl))
theorem w55_53 (X : ip_X) (ls st : List Value) (M : ip_H) (K : Option Value → ip_H → Prop) (k : Nat) (h0 : (ip_sh M k).1 = 0) (h1 : (ip_sh M k).2.1 = 3) : ip_wp X 55 53 ls (.ref k :: st) M K = ip_wp X 55 56 ls (ip_vr (M.2.2.2 k 0) :: st) M K := (wp_getR ((ip_a55 53).trans (ip_f55_1 (k := 7) rfl))).trans (if_pos ⟨h0, h1⟩)
theorem w55_56 (X : ip_X) (ls st : List Value) (M : ip_H) (K : Option Value → ip_H → Prop) : ip_wp X 55 56 ls st M K = ip_ka (ip_get ls 0) (fun x => ip_wp X 55 57 ls (x :: st) M K) := wp_aload_n ((ip_a55 56).trans (ip_f55_1 (k := 8) rfl))
theorem w55_57 (X : ip_X) (ls st : List Value) (M : ip_H) (K : Option Value → ip_H → Prop) (k : Nat) (h0 : st.length ≤ 4) (h1 : (ip_sh M k).1 = 0) (h2 : (ip_sh M k).2.1 = 3) : ip_wp X 55 57 ls (.ref k :: st) M K = ip_wp X 59 0 [.ref k] [] M (fun r M1 => ip_wp X 55 60 ls (r.toList ++ st) M1 K) := (wp_callV1_1 ((ip_a55 57).trans (ip_f55_1 (k := 9) rfl)) ⟨h0, by exact Nat.le_of_ble_eq_true rfl, h1, h2⟩)
theorem w55_60 (X : ip_X) (ls st : List Value) (M : ip_H) (K : Option Value → ip_H → Prop) (i : Int32) (k : Nat) (h0 : (ip_sh M k).1 = 1) (h1 : 4 ≤ (ip_sh M k).2.1) (h2 : ip_ix i (ip_sh M k).2.2 = true) : ip_wp X 55 60 ls (.int i :: .ref k :: st) M K = ip_wp X 55 61 ls (ip_vr (M.2.2.2 k i.toNatClampNeg) :: st) M K := (wp_aaload ((ip_a55 60).trans (ip_f55_1 (k := 10) rfl))).trans (if_pos ⟨h0, h1, h2⟩)
theorem w55_61 (X : ip_X) (ls : List Value) (M : ip_H) (K : Option Value → ip_H → Prop) (x : Nat) : ip_wp X 55 61 ls [.ref x] M K = K (some (.ref x)) M := wp_aret ((ip_a55 61).trans (ip_f55_1 (k := 11) rfl))
theorem ip_a56 (pc : Nat) : ip_at 56 pc = ip_c56.lookup pc := rfl
theorem w56_0 (X : ip_X) (ls st : List Value) (M : ip_H) (K : Option Value → ip_H → Prop) : ip_wp X 56 0 ls st M K = ip_ka (ip_get ls 0) (fun x => ip_wp X 56 1 ls (x :: st) M K) := wp_aload_n ((ip_a56 0).trans rfl)
theorem w56_1 (X : ip_X) (ls st : List Value) (M : ip_H) (K : Option Value → ip_H → Prop) (k : Nat) (h0 : (ip_sh M k).1 = 0) (h1 : (ip_sh M k).2.1 = 3) : ip_wp X 56 1 ls (.ref k :: st) M K = ip_wp X 56 4 ls (ip_vr (M.2.2.2 k 0) :: st) M K := (wp_getR ((ip_a56 1).trans rfl)).trans (if_pos ⟨h0, h1⟩)
theorem w56_4 (X : ip_X) (ls st : List Value) (M : ip_H) (K : Option Value → ip_H → Prop) : ip_wp X 56 4 ls st M K = ip_ka (ip_get ls 0) (fun x => ip_wp X 56 5 ls (x :: st) M K) := wp_aload_n ((ip_a56 4).trans rfl)
theorem w56_5 (X : ip_X) (ls st : List Value) (M : ip_H) (K : Option Value → ip_H → Prop) (k : Nat) (h0 : st.length ≤ 4) (h1 : (ip_sh M k).1 = 0) (h2 : (ip_sh M k).2.1 = 3) : ip_wp X 56 5 ls (.ref k :: st) M K = ip_wp X 59 0 [.ref k] [] M (fun r M1 => ip_wp X 56 8 ls (r.toList ++ st) M1 K) := (wp_callV1_1 ((ip_a56 5).trans rfl) ⟨h0, by exact Nat.le_of_ble_eq_true rfl, h1, h2⟩)
theorem w56_8 (X : ip_X) (ls st : List Value) (M : ip_H) (K : Option Value → ip_H → Prop) (i : Int32) (k : Nat) (h0 : (ip_sh M k).1 = 1) (h1 : 4 ≤ (ip_sh M k).2.1) (h2 : ip_ix i (ip_sh M k).2.2 = true) : ip_wp X 56 8 ls (.int i :: .ref k :: st) M K = ip_wp X 56 9 ls (ip_vr (M.2.2.2 k i.toNatClampNeg) :: st) M K := (wp_aaload ((ip_a56 8).trans rfl)).trans (if_pos ⟨h0, h1, h2⟩)
theorem w56_9 (X : ip_X) (ls : List Value) (M : ip_H) (K : Option Value → ip_H → Prop) (x : Nat) : ip_wp X 56 9 ls [.ref x] M K = K (some (.ref x)) M := wp_aret ((ip_a56 9).trans rfl)
theorem ip_a57 (pc : Nat) : ip_at 57 pc = ip_c57.lookup pc := rfl
theorem w57_0 (X : ip_X) (ls st : List Value) (M : ip_H) (K : Option Value → ip_H → Prop) : ip_wp X 57 0 ls st M K = ip_ka (ip_get ls 0) (fun x => ip_wp X 57 1 ls (x :: st) M K) := wp_aload_n ((ip_a57 0).trans rfl)
theorem w57_1 (X : ip_X) (ls st : List Value) (M : ip_H) (K : Option Value → ip_H → Prop) (k : Nat) (h0 : (ip_sh M k).1 = 0) (h1 : (ip_sh M k).2.1 = 3) : ip_wp X 57 1 ls (.ref k :: st) M K = ip_wp X 57 4 ls (ip_vr (M.2.2.2 k 1) :: st) M K := (wp_getR ((ip_a57 1).trans rfl)).trans (if_pos ⟨h0, h1⟩)
theorem w57_4 (X : ip_X) (ls st : List Value) (M : ip_H) (K : Option Value → ip_H → Prop) : ip_wp X 57 4 ls st M K = ip_ka (ip_get ls 0) (fun x => ip_wp X 57 5 ls (x :: st) M K) := wp_aload_n ((ip_a57 4).trans rfl)
theorem w57_5 (X : ip_X) (ls st : List Value) (M : ip_H) (K : Option Value → ip_H → Prop) (k : Nat) (h0 : st.length ≤ 4) (h1 : (ip_sh M k).1 = 0) (h2 : (ip_sh M k).2.1 = 3) : ip_wp X 57 5 ls (.ref k :: st) M K = ip_wp X 59 0 [.ref k] [] M (fun r M1 => ip_wp X 57 8 ls (r.toList ++ st) M1 K) := (wp_callV1_1 ((ip_a57 5).trans rfl) ⟨h0, by exact Nat.le_of_ble_eq_true rfl, h1, h2⟩)
theorem w57_8 (X : ip_X) (ls st : List Value) (M : ip_H) (K : Option Value → ip_H → Prop) (i : Int32) (k : Nat) (h0 : (ip_sh M k).1 = 1) (h1 : (ip_sh M k).2.1 = 0) (h2 : ip_ix i (ip_sh M k).2.2 = true) : ip_wp X 57 8 ls (.int i :: .ref k :: st) M K = ip_wp X 57 9 ls (.int (M.2.1 k i.toNatClampNeg) :: st) M K := (wp_iaload ((ip_a57 8).trans rfl)).trans (if_pos ⟨h0, h1, h2⟩)
theorem w57_9 (X : ip_X) (ls st : List Value) (M : ip_H) (K : Option Value → ip_H → Prop) (x : Int32) : ip_wp X 57 9 ls (.int x :: st) M K = ip_wp X 57 10 (ip_set1 ls 1 (.int x)) st M K := wp_istore_n ((ip_a57 9).trans rfl)
theorem w57_10 (X : ip_X) (ls st : List Value) (M : ip_H) (K : Option Value → ip_H → Prop) : ip_wp X 57 10 ls st M K = ip_ka (ip_get ls 0) (fun x => ip_wp X 57 11 ls (x :: st) M K) := wp_aload_n ((ip_a57 10).trans rfl)
theorem w57_11 (X : ip_X) (ls st : List Value) (M : ip_H) (K : Option Value → ip_H → Prop) (k : Nat) (h0 : (ip_sh M k).1 = 0) (h1 : (ip_sh M k).2.1 = 3) : ip_wp X 57 11 ls (.ref k :: st) M K = ip_wp X 57 14 ls (.int (M.2.1 k 5) :: st) M K := (wp_getI ((ip_a57 11).trans rfl)).trans (if_pos ⟨h0, h1⟩)
theorem w57_14 (X : ip_X) (ls st : List Value) (M : ip_H) (K : Option Value → ip_H → Prop) (x : Int32) : ip_wp X 57 14 ls (.int x :: st) M K = if 0 < x then ip_wp X 57 17 ls st M K else ip_wp X 57 27 ls st M K := wp_ifCond_le ((ip_a57 14).trans rfl)
theorem w57_17 (X : ip_X) (ls st : List Value) (M : ip_H) (K : Option Value → ip_H → Prop) : ip_wp X 57 17 ls st M K = ip_ka (ip_get ls 0) (fun x => ip_wp X 57 18 ls (x :: st) M K) := wp_aload_n ((ip_a57 17).trans rfl)
theorem w57_18_r (X : ip_X) (ls st : List Value) (M : ip_H) (K : Option Value → ip_H → Prop) (x : Nat) : ip_wp X 57 18 ls (.ref x :: st) M K = ip_wp X 57 19 ls (.ref x :: .ref x :: st) M K := wp_dup_r ((ip_a57 18).trans rfl)
theorem w57_18_i (X : ip_X) (ls st : List Value) (M : ip_H) (K : Option Value → ip_H → Prop) (x : Int32) : ip_wp X 57 18 ls (.int x :: st) M K = ip_wp X 57 19 ls (.int x :: .int x :: st) M K := wp_dup_i ((ip_a57 18).trans rfl)
theorem w57_19 (X : ip_X) (ls st : List Value) (M : ip_H) (K : Option Value → ip_H → Prop) (k : Nat) (h0 : (ip_sh M k).1 = 0) (h1 : (ip_sh M k).2.1 = 3) : ip_wp X 57 19 ls (.ref k :: st) M K = ip_wp X 57 22 ls (.int (M.2.1 k 5) :: st) M K := (wp_getI ((ip_a57 19).trans rfl)).trans (if_pos ⟨h0, h1⟩)
theorem w57_22 (X : ip_X) (ls st : List Value) (M : ip_H) (K : Option Value → ip_H → Prop) : ip_wp X 57 22 ls st M K = ip_wp X 57 23 ls (.int 1 :: st) M K := wp_iconst ((ip_a57 22).trans rfl)
theorem w57_23 (X : ip_X) (ls st : List Value) (M : ip_H) (K : Option Value → ip_H → Prop) (x q : Int32) : ip_wp X 57 23 ls (.int q :: .int x :: st) M K = ip_wp X 57 24 ls (.int (x - q) :: st) M K := wp_isub ((ip_a57 23).trans rfl)
theorem w57_24 (X : ip_X) (ls st : List Value) (M : ip_H) (K : Option Value → ip_H → Prop) (k : Nat) (x : Int32) (h0 : (ip_sh M k).1 = 0) (h1 : (ip_sh M k).2.1 = 3) : ip_wp X 57 24 ls (.int x :: .ref k :: st) M K = ip_wp X 57 27 ls st (ip_uI M k 5 x) K := (wp_putI ((ip_a57 24).trans rfl)).trans (if_pos ⟨h0, h1⟩)
theorem w57_27 (X : ip_X) (ls st : List Value) (M : ip_H) (K : Option Value → ip_H → Prop) : ip_wp X 57 27 ls st M K = ip_ki (ip_get ls 1) (fun x => ip_wp X 57 28 ls (.int x :: st) M K) := wp_iload_n ((ip_a57 27).trans rfl)
theorem w57_28 (X : ip_X) (ls : List Value) (M : ip_H) (K : Option Value → ip_H → Prop) (x : Int32) : ip_wp X 57 28 ls [.int x] M K = K (some (.int x)) M := wp_iret ((ip_a57 28).trans rfl)
theorem ip_a58 (pc : Nat) : ip_at 58 pc = ip_c58.lookup pc := rfl
theorem w58_0 (X : ip_X) (ls st : List Value) (M : ip_H) (K : Option Value → ip_H → Prop) : ip_wp X 58 0 ls st M K = ip_ka (ip_get ls 0) (fun x => ip_wp X 58 1 ls (x :: st) M K) := wp_aload_n ((ip_a58 0).trans rfl)
theorem w58_1 (X : ip_X) (ls st : List Value) (M : ip_H) (K : Option Value → ip_H → Prop) : ip_wp X 58 1 ls st M K = ip_wp X 58 2 ls (.int 0 :: st) M K := wp_iconst ((ip_a58 1).trans rfl)
theorem w58_2 (X : ip_X) (ls st : List Value) (M : ip_H) (K : Option Value → ip_H → Prop) (k : Nat) (x : Int32) (h0 : (ip_sh M k).1 = 0) (h1 : (ip_sh M k).2.1 = 3) : ip_wp X 58 2 ls (.int x :: .ref k :: st) M K = ip_wp X 58 5 ls st (ip_uI M k 5 x) K := (wp_putI ((ip_a58 2).trans rfl)).trans (if_pos ⟨h0, h1⟩)
theorem w58_5 (X : ip_X) (ls : List Value) (M : ip_H) (K : Option Value → ip_H → Prop) : ip_wp X 58 5 ls [] M K = K none M := wp_vret ((ip_a58 5).trans rfl)
theorem ip_a59 (pc : Nat) : ip_at 59 pc = ip_c59.lookup pc := rfl
theorem w59_0 (X : ip_X) (ls st : List Value) (M : ip_H) (K : Option Value → ip_H → Prop) : ip_wp X 59 0 ls st M K = ip_ka (ip_get ls 0) (fun x => ip_wp X 59 1 ls (x :: st) M K) := wp_aload_n ((ip_a59 0).trans rfl)
theorem w59_1 (X : ip_X) (ls st : List Value) (M : ip_H) (K : Option Value → ip_H → Prop) (k : Nat) (h0 : (ip_sh M k).1 = 0) (h1 : (ip_sh M k).2.1 = 3) : ip_wp X 59 1 ls (.ref k :: st) M K = ip_wp X 59 4 ls (.int (M.2.1 k 4) :: st) M K := (wp_getI ((ip_a59 1).trans rfl)).trans (if_pos ⟨h0, h1⟩)
theorem w59_4 (X : ip_X) (ls st : List Value) (M : ip_H) (K : Option Value → ip_H → Prop) : ip_wp X 59 4 ls st M K = ip_ka (ip_get ls 0) (fun x => ip_wp X 59 5 ls (x :: st) M K) := wp_aload_n ((ip_a59 4).trans rfl)
theorem w59_5 (X : ip_X) (ls st : List Value) (M : ip_H) (K : Option Value → ip_H → Prop) (k : Nat) (h0 : (ip_sh M k).1 = 0) (h1 : (ip_sh M k).2.1 = 3) : ip_wp X 59 5 ls (.ref k :: st) M K = ip_wp X 59 8 ls (.int (M.2.1 k 5) :: st) M K := (wp_getI ((ip_a59 5).trans rfl)).trans (if_pos ⟨h0, h1⟩)
theorem w59_8 (X : ip_X) (ls st : List Value) (M : ip_H) (K : Option Value → ip_H → Prop) (x q : Int32) : ip_wp X 59 8 ls (.int q :: .int x :: st) M K = ip_wp X 59 9 ls (.int (x + q) :: st) M K := wp_iadd ((ip_a59 8).trans rfl)
theorem w59_9 (X : ip_X) (ls st : List Value) (M : ip_H) (K : Option Value → ip_H → Prop) : ip_wp X 59 9 ls st M K = ip_wp X 59 10 ls (.int 1 :: st) M K := wp_iconst ((ip_a59 9).trans rfl)
theorem w59_10 (X : ip_X) (ls st : List Value) (M : ip_H) (K : Option Value → ip_H → Prop) (x q : Int32) : ip_wp X 59 10 ls (.int q :: .int x :: st) M K = ip_wp X 59 11 ls (.int (x - q) :: st) M K := wp_isub ((ip_a59 10).trans rfl)
theorem w59_11 (X : ip_X) (ls st : List Value) (M : ip_H) (K : Option Value → ip_H → Prop) : ip_wp X 59 11 ls st M K = ip_wp X 59 13 ls (.int 8 :: st) M K := wp_bipush ((ip_a59 11).trans rfl)
theorem w59_13 (X : ip_X) (ls st : List Value) (M : ip_H) (K : Option Value → ip_H → Prop) (x0 : Int32) (x1 : Int32) (h0 : st.length ≤ 4) : ip_wp X 59 13 ls (.int x1 :: .int x0 :: st) M K = ip_wp X 291 0 [.int x0, .int x1, .retAddr 1] [] M (fun r M1 => ip_wp X 59 16 ls (r.toList ++ st) M1 K) := (wp_callS0_2 ((ip_a59 13).trans rfl) ⟨h0, by exact Nat.le_of_ble_eq_true rfl⟩)
theorem w59_16 (X : ip_X) (ls : List Value) (M : ip_H) (K : Option Value → ip_H → Prop) (x : Int32) : ip_wp X 59 16 ls [.int x] M K = K (some (.int x)) M := wp_iret ((ip_a59 16).trans rfl)
theorem ip_a75 (pc : Nat) : ip_at 75 pc = ip_c75.lookup pc := rfl
theorem ip_s75 : lk_s 0 ip_c75 = true := by decide +kernel
theorem ip_l75_0 : ip_d75_0.length = 24 := rfl
theorem ip_l75_1 : ip_d75_1.length = 24 := rfl
theorem ip_f75_0 {k pc : Nat} {e : ip_E} (h : ip_d75_0[k]? = some (pc, e)) : ip_c75.lookup pc = some e := lk_of ip_s75 (lk_apl h)
theorem ip_f75_1 {k pc : Nat} {e : ip_E} (h : ip_d75_1[k]? = some (pc, e)) : ip_c75.lookup pc = some e := lk_of ip_s75 (lk_app ip_l75_0 (lk_apl h))
theorem ip_f75_2 {k pc : Nat} {e : ip_E} (h : ip_d75_2[k]? = some (pc, e)) : ip_c75.lookup pc = some e := lk_of ip_s75 (lk_app ip_l75_0 (lk_app ip_l75_1 h))
theorem w75_0 (X : ip_X) (ls st : List Value) (M : ip_H) (K : Option Value → ip_H → Prop) : ip_wp X 75 0 ls st M K = ip_ka (ip_get ls 0) (fun x => ip_wp X 75 1 ls (x :: st) M K) := wp_aload_n ((ip_a75 0).trans (ip_f75_0 (k := 0) rfl))
theorem w75_1 (X : ip_X) (ls st : List Value) (M : ip_H) (K : Option Value → ip_H → Prop) : ip_wp X 75 1 ls st M K = ip_ka (ip_get ls 1) (fun x => ip_wp X 75 2 ls (x :: st) M K) := wp_aload_n ((ip_a75 1).trans (ip_f75_0 (k := 1) rfl))
theorem w75_2 (X : ip_X) (ls st : List Value) (M : ip_H) (K : Option Value → ip_H → Prop) (k : Nat) (h0 : (ip_sh M k).1 = 0) (h1 : (ip_sh M k).2.1 = 2) : ip_wp X 75 2 ls (.ref k :: st) M K = ip_wp X 75 5 ls (.int (M.2.1 k 0) :: st) M K := (wp_getI ((ip_a75 2).trans (ip_f75_0 (k := 2) rfl))).trans (if_pos ⟨h0, h1⟩)
theorem w75_5 (X : ip_X) (ls st : List Value) (M : ip_H) (K : Option Value → ip_H → Prop) (k : Nat) (x : Int32) (h0 : (ip_sh M k).1 = 0) (h1 : (ip_sh M k).2.1 = 5) : ip_wp X 75 5 ls (.int x :: .ref k :: st) M K = ip_wp X 75 8 ls st (ip_uI M k 0 x) K := (wp_putI ((ip_a75 5).trans (ip_f75_0 (k := 3) rfl))).trans (if_pos ⟨h0, h1⟩)
theorem w75_8 (X : ip_X) (ls st : List Value) (M : ip_H) (K : Option Value → ip_H → Prop) : ip_wp X 75 8 ls st M K = ip_ka (ip_get ls 0) (fun x => ip_wp X 75 9 ls (x :: st) M K) := wp_aload_n ((ip_a75 8).trans (ip_f75_0 (k := 4) rfl))
theorem w75_9 (X : ip_X) (ls st : List Value) (M : ip_H) (K : Option Value → ip_H → Prop) : ip_wp X 75 9 ls st M K = ip_ka (ip_get ls 1) (fun x => ip_wp X 75 10 ls (x :: st) M K) := wp_aload_n ((ip_a75 9).trans (ip_f75_0 (k := 5) rfl))
theorem w75_10 (X : ip_X) (ls st : List Value) (M : ip_H) (K : Option Value → ip_H → Prop) (k : Nat) (h0 : (ip_sh M k).1 = 0) (h1 : (ip_sh M k).2.1 = 2) : ip_wp X 75 10 ls (.ref k :: st) M K = ip_wp X 75 13 ls (.int (M.2.1 k 1) :: st) M K := (wp_getI ((ip_a75 10).trans (ip_f75_0 (k := 6) rfl))).trans (if_pos ⟨h0, h1⟩)
theorem w75_13 (X : ip_X) (ls st : List Value) (M : ip_H) (K : Option Value → ip_H → Prop) (k : Nat) (x : Int32) (h0 : (ip_sh M k).1 = 0) (h1 : (ip_sh M k).2.1 = 5) : ip_wp X 75 13 ls (.int x :: .ref k :: st) M K = ip_wp X 75 16 ls st (ip_uI M k 1 x) K := (wp_putI ((ip_a75 13).trans (ip_f75_0 (k := 7) rfl))).trans (if_pos ⟨h0, h1⟩)
theorem w75_16 (X : ip_X) (ls st : List Value) (M : ip_H) (K : Option Value → ip_H → Prop) : ip_wp X 75 16 ls st M K = ip_ka (ip_get ls 0) (fun x => ip_wp X 75 17 ls (x :: st) M K) := wp_aload_n ((ip_a75 16).trans (ip_f75_0 (k := 8) rfl))
theorem w75_17 (X : ip_X) (ls st : List Value) (M : ip_H) (K : Option Value → ip_H → Prop) : ip_wp X 75 17 ls st M K = ip_ka (ip_get ls 1) (fun x => ip_wp X 75 18 ls (x :: st) M K) := wp_aload_n ((ip_a75 17).trans (ip_f75_0 (k := 9) rfl))
theorem w75_18 (X : ip_X) (ls st : List Value) (M : ip_H) (K : Option Value → ip_H → Prop) (k : Nat) (h0 : (ip_sh M k).1 = 0) (h1 : (ip_sh M k).2.1 = 2) : ip_wp X 75 18 ls (.ref k :: st) M K = ip_wp X 75 21 ls (.int (M.2.1 k 2) :: st) M K := (wp_getI ((ip_a75 18).trans (ip_f75_0 (k := 10) rfl))).trans (if_pos ⟨h0, h1⟩)
theorem w75_21 (X : ip_X) (ls st : List Value) (M : ip_H) (K : Option Value → ip_H → Prop) (k : Nat) (x : Int32) (h0 : (ip_sh M k).1 = 0) (h1 : (ip_sh M k).2.1 = 5) : ip_wp X 75 21 ls (.int x :: .ref k :: st) M K = ip_wp X 75 24 ls st (ip_uI M k 2 x) K := (wp_putI ((ip_a75 21).trans (ip_f75_0 (k := 11) rfl))).trans (if_pos ⟨h0, h1⟩)
theorem w75_24 (X : ip_X) (ls st : List Value) (M : ip_H) (K : Option Value → ip_H → Prop) : ip_wp X 75 24 ls st M K = ip_wp X 75 25 ls (.int 0 :: st) M K := wp_iconst ((ip_a75 24).trans (ip_f75_0 (k := 12) rfl))
theorem w75_25 (X : ip_X) (ls st : List Value) (M : ip_H) (K : Option Value → ip_H → Prop) (x : Int32) : ip_wp X 75 25 ls (.int x :: st) M K = ip_wp X 75 27 (ip_set1 ls 5 (.int x)) st M K := wp_istore ((ip_a75 25).trans (ip_f75_0 (k := 13) rfl))
theorem w75_27 (X : ip_X) (ls st : List Value) (M : ip_H) (K : Option Value → ip_H → Prop) : ip_wp X 75 27 ls st M K = ip_ki (ip_get ls 5) (fun x => ip_wp X 75 29 ls (.int x :: st) M K) := wp_iload ((ip_a75 27).trans (ip_f75_0 (k := 14) rfl))
theorem w75_29 (X : ip_X) (ls st : List Value) (M : ip_H) (K : Option Value → ip_H → Prop) : ip_wp X 75 29 ls st M K = ip_ka (ip_get ls 2) (fun x => ip_wp X 75 30 ls (x :: st) M K) := wp_aload_n ((ip_a75 29).trans (ip_f75_0 (k := 15) rfl))
theorem w75_30 (X : ip_X) (ls st : List Value) (M : ip_H) (K : Option Value → ip_H → Prop) (k : Nat) (h0 : (ip_sh M k).1 = 1) : ip_wp X 75 30 ls (.ref k :: st) M K = ip_wp X 75 31 ls (.int (Int32.ofNat (ip_sh M k).2.2) :: st) M K := (wp_alen ((ip_a75 30).trans (ip_f75_0 (k := 16) rfl))).trans (if_pos h0)
theorem w75_31 (X : ip_X) (ls st : List Value) (M : ip_H) (K : Option Value → ip_H → Prop) (x q : Int32) : ip_wp X 75 31 ls (.int q :: .int x :: st) M K = if x < q then ip_wp X 75 34 ls st M K else ip_wp X 75 55 ls st M K := wp_if_icmp_ge ((ip_a75 31).trans (ip_f75_0 (k := 17) rfl))
theorem w75_34 (X : ip_X) (ls st : List Value) (M : ip_H) (K : Option Value → ip_H → Prop) : ip_wp X 75 34 ls st M K = ip_ka (ip_get ls 2) (fun x => ip_wp X 75 35 ls (x :: st) M K) := wp_aload_n ((ip_a75 34).trans (ip_f75_0 (k := 18) rfl))
theorem w75_35 (X : ip_X) (ls st : List Value) (M : ip_H) (K : Option Value → ip_H → Prop) : ip_wp X 75 35 ls st M K = ip_ki (ip_get ls 5) (fun x => ip_wp X 75 37 ls (.int x :: st) M K) := wp_iload ((ip_a75 35).trans (ip_f75_0 (k := 19) rfl))
theorem w75_37 (X : ip_X) (ls st : List Value) (M : ip_H) (K : Option Value → ip_H → Prop) (i : Int32) (k : Nat) (h0 : (ip_sh M k).1 = 1) (h1 : 4 ≤ (ip_sh M k).2.1) (h2 : ip_ix i (ip_sh M k).2.2 = true) : ip_wp X 75 37 ls (.int i :: .ref k :: st) M K = ip_wp X 75 38 ls (ip_vr (M.2.2.2 k i.toNatClampNeg) :: st) M K := (wp_aaload ((ip_a75 37).trans (ip_f75_0 (k := 20) rfl))).trans (if_pos ⟨h0, h1, h2⟩)
theorem w75_38 (X : ip_X) (ls st : List Value) (M : ip_H) (K : Option Value → ip_H → Prop) : ip_wp X 75 38 ls st M K = ip_ka (ip_get ls 0) (fun x => ip_wp X 75 39 ls (x :: st) M K) := wp_aload_n ((ip_a75 38).trans (ip_f75_0 (k := 21) rfl))
theorem w75_39 (X : ip_X) (ls st : List Value) (M : ip_H) (K : Option Value → ip_H → Prop) (k : Nat) (h0 : (ip_sh M k).1 = 0) (h1 : (ip_sh M k).2.1 = 5) : ip_wp X 75 39 ls (.ref k :: st) M K = ip_wp X 75 42 ls (ip_vr (M.2.2.2 k 3) :: st) M K := (wp_getR ((ip_a75 39).trans (ip_f75_0 (k := 22) rfl))).trans (if_pos ⟨h0, h1⟩)
theorem w75_42 (X : ip_X) (ls st : List Value) (M : ip_H) (K : Option Value → ip_H → Prop) : ip_wp X 75 42 ls st M K = ip_wp X 75 43 ls (.int 4 :: st) M K := wp_iconst ((ip_a75 42).trans (ip_f75_0 (k := 23) rfl))
theorem w75_43 (X : ip_X) (ls st : List Value) (M : ip_H) (K : Option Value → ip_H → Prop) : ip_wp X 75 43 ls st M K = ip_ki (ip_get ls 5) (fun x => ip_wp X 75 45 ls (.int x :: st) M K) := wp_iload ((ip_a75 43).trans (ip_f75_1 (k := 0) rfl))
theorem w75_45 (X : ip_X) (ls st : List Value) (M : ip_H) (K : Option Value → ip_H → Prop) (x q : Int32) : ip_wp X 75 45 ls (.int q :: .int x :: st) M K = ip_wp X 75 46 ls (.int (x * q) :: st) M K := wp_imul ((ip_a75 45).trans (ip_f75_1 (k := 1) rfl))
theorem w75_46 (X : ip_X) (ls st : List Value) (M : ip_H) (K : Option Value → ip_H → Prop) (k : Nat) (x0 : Nat) (x1 : Int32) (h0 : st.length ≤ 4) (h1 : (ip_sh M k).1 = 0) (h2 : (ip_sh M k).2.1 = 8) : ip_wp X 75 46 ls (.int x1 :: .ref x0 :: .ref k :: st) M K = ip_wp X 97 0 [.ref k, .ref x0, .int x1] [] M (fun r M1 => ip_wp X 75 49 ls (r.toList ++ st) M1 K) := (wp_callV1_3 ((ip_a75 46).trans (ip_f75_1 (k := 2) rfl)) ⟨h0, by exact Nat.le_of_ble_eq_true rfl, h1, h2⟩)
theorem w75_49 (X : ip_X) (ls st : List Value) (M : ip_H) (K : Option Value → ip_H → Prop) : ip_wp X 75 49 ls st M K = ip_ki (ip_get ls 5) (fun x => ip_wp X 75 52 (ip_set1 ls 5 (.int (x + 1))) st M K) := wp_iinc ((ip_a75 49).trans (ip_f75_1 (k := 3) rfl))
theorem w75_52 (X : ip_X) (ls st : List Value) (M : ip_H) (K : Option Value → ip_H → Prop) : ip_wp X 75 52 ls st M K = ip_wp X 75 27 ls st M K := wp_goto ((ip_a75 52).trans (ip_f75_1 (k := 4) rfl))
theorem w75_55 (X : ip_X) (ls st : List Value) (M : ip_H) (K : Option Value → ip_H → Prop) : ip_wp X 75 55 ls st M K = ip_ka (ip_get ls 0) (fun x => ip_wp X 75 56 ls (x :: st) M K) := wp_aload_n ((ip_a75 55).trans (ip_f75_1 (k := 5) rfl))
theorem w75_56 (X : ip_X) (ls st : List Value) (M : ip_H) (K : Option Value → ip_H → Prop) (k : Nat) (h0 : (ip_sh M k).1 = 0) (h1 : (ip_sh M k).2.1 = 5) : ip_wp X 75 56 ls (.ref k :: st) M K = ip_wp X 75 59 ls (ip_vr (M.2.2.2 k 4) :: st) M K := (wp_getR ((ip_a75 56).trans (ip_f75_1 (k := 6) rfl))).trans (if_pos ⟨h0, h1⟩)
theorem w75_59 (X : ip_X) (ls st : List Value) (M : ip_H) (K : Option Value → ip_H → Prop) : ip_wp X 75 59 ls st M K = ip_ka (ip_get ls 3) (fun x => ip_wp X 75 60 ls (x :: st) M K) := wp_aload_n ((ip_a75 59).trans (ip_f75_1 (k := 7) rfl))
theorem w75_60 (X : ip_X) (ls st : List Value) (M : ip_H) (K : Option Value → ip_H → Prop) (k : Nat) (x0 : Nat) (h0 : st.length ≤ 4) (h1 : (ip_sh M k).1 = 0) (h2 : (ip_sh M k).2.1 = 9) : ip_wp X 75 60 ls (.ref x0 :: .ref k :: st) M K = ip_wp X 105 0 [.ref k, .ref x0] [] M (fun r M1 => ip_wp X 75 63 ls (r.toList ++ st) M1 K) := (wp_callV1_2 ((ip_a75 60).trans (ip_f75_1 (k := 8) rfl)) ⟨h0, by exact Nat.le_of_ble_eq_true rfl, h1, h2⟩)
theorem w75_63 (X : ip_X) (ls st : List Value) (M : ip_H) (K : Option Value → ip_H → Prop) : ip_wp X 75 63 ls st M K = ip_ka (ip_get ls 0) (fun x => ip_wp X 75 64 ls (x :: st) M K) := wp_aload_n ((ip_a75 63).trans (ip_f75_1 (k := 9) rfl))
theorem w75_64 (X : ip_X) (ls st : List Value) (M : ip_H) (K : Option Value → ip_H → Prop) : ip_wp X 75 64 ls st M K = ip_ka (ip_get ls 4) (fun x => ip_wp X 75 66 ls (x :: st) M K) := wp_aload ((ip_a75 64).trans (ip_f75_1 (k := 10) rfl))
theorem w75_66 (X : ip_X) (ls st : List Value) (M : ip_H) (K : Option Value → ip_H → Prop) (k : Nat) (h0 : (ip_sh M k).1 = 0) (h1 : (ip_sh M k).2.1 = 1) : ip_wp X 75 66 ls (.ref k :: st) M K = ip_wp X 75 69 ls (.int (M.2.1 k 3) :: st) M K := (wp_getI ((ip_a75 66).trans (ip_f75_1 (k := 11) rfl))).trans (if_pos ⟨h0, h1⟩)
theorem w75_69 (X : ip_X) (ls st : List Value) (M : ip_H) (K : Option Value → ip_H → Prop) (k : Nat) (x : Int32) (h0 : (ip_sh M k).1 = 0) (h1 : (ip_sh M k).2.1 = 5) : ip_wp X 75 69 ls (.int x :: .ref k :: st) M K = ip_wp X 75 72 ls st (ip_uI M k 6 x) K := (wp_putI ((ip_a75 69).trans (ip_f75_1 (k := 12) rfl))).trans (if_pos ⟨h0, h1⟩)
theorem w75_72 (X : ip_X) (ls st : List Value) (M : ip_H) (K : Option Value → ip_H → Prop) : ip_wp X 75 72 ls st M K = ip_ka (ip_get ls 0) (fun x => ip_wp X 75 73 ls (x :: st) M K) := wp_aload_n ((ip_a75 72).trans (ip_f75_1 (k := 13) rfl))
theorem w75_73 (X : ip_X) (ls st : List Value) (M : ip_H) (K : Option Value → ip_H → Prop) : ip_wp X 75 73 ls st M K = ip_ka (ip_get ls 4) (fun x => ip_wp X 75 75 ls (x :: st) M K) := wp_aload ((ip_a75 73).trans (ip_f75_1 (k := 14) rfl))
theorem w75_75 (X : ip_X) (ls st : List Value) (M : ip_H) (K : Option Value → ip_H → Prop) (k : Nat) (h0 : (ip_sh M k).1 = 0) (h1 : (ip_sh M k).2.1 = 1) : ip_wp X 75 75 ls (.ref k :: st) M K = ip_wp X 75 78 ls (.int (M.2.1 k 4) :: st) M K := (wp_getI ((ip_a75 75).trans (ip_f75_1 (k := 15) rfl))).trans (if_pos ⟨h0, h1⟩)
theorem w75_78 (X : ip_X) (ls st : List Value) (M : ip_H) (K : Option Value → ip_H → Prop) (k : Nat) (x : Int32) (h0 : (ip_sh M k).1 = 0) (h1 : (ip_sh M k).2.1 = 5) : ip_wp X 75 78 ls (.int x :: .ref k :: st) M K = ip_wp X 75 81 ls st (ip_uI M k 7 x) K := (wp_putI ((ip_a75 78).trans (ip_f75_1 (k := 16) rfl))).trans (if_pos ⟨h0, h1⟩)
theorem w75_81 (X : ip_X) (ls st : List Value) (M : ip_H) (K : Option Value → ip_H → Prop) : ip_wp X 75 81 ls st M K = ip_ka (ip_get ls 4) (fun x => ip_wp X 75 83 ls (x :: st) M K) := wp_aload ((ip_a75 81).trans (ip_f75_1 (k := 17) rfl))
theorem w75_83 (X : ip_X) (ls st : List Value) (M : ip_H) (K : Option Value → ip_H → Prop) (k : Nat) (h0 : (ip_sh M k).1 = 0) (h1 : (ip_sh M k).2.1 = 1) : ip_wp X 75 83 ls (.ref k :: st) M K = ip_wp X 75 86 ls (ip_vr (M.2.2.2 k 0) :: st) M K := (wp_getR ((ip_a75 83).trans (ip_f75_1 (k := 18) rfl))).trans (if_pos ⟨h0, h1⟩)
theorem w75_86 (X : ip_X) (ls st : List Value) (M : ip_H) (K : Option Value → ip_H → Prop) : ip_wp X 75 86 ls st M K = ip_wp X 75 87 ls (.int 0 :: st) M K := wp_iconst ((ip_a75 86).trans (ip_f75_1 (k := 19) rfl))
theorem w75_87 (X : ip_X) (ls st : List Value) (M : ip_H) (K : Option Value → ip_H → Prop) : ip_wp X 75 87 ls st M K = ip_ka (ip_get ls 0) (fun x => ip_wp X 75 88 ls (x :: st) M K) := wp_aload_n ((ip_a75 87).trans (ip_f75_1 (k := 20) rfl))
theorem w75_88 (X : ip_X) (ls st : List Value) (M : ip_H) (K : Option Value → ip_H → Prop) (k : Nat) (h0 : (ip_sh M k).1 = 0) (h1 : (ip_sh M k).2.1 = 5) : ip_wp X 75 88 ls (.ref k :: st) M K = ip_wp X 75 91 ls (ip_vr (M.2.2.2 k 5) :: st) M K := (wp_getR ((ip_a75 88).trans (ip_f75_1 (k := 21) rfl))).trans (if_pos ⟨h0, h1⟩)
theorem w75_91 (X : ip_X) (ls st : List Value) (M : ip_H) (K : Option Value → ip_H → Prop) : ip_wp X 75 91 ls st M K = ip_wp X 75 92 ls (.int 0 :: st) M K := wp_iconst ((ip_a75 91).trans (ip_f75_1 (k := 22) rfl))
theorem w75_92 (X : ip_X) (ls st : List Value) (M : ip_H) (K : Option Value → ip_H → Prop) : ip_wp X 75 92 ls st M K = ip_wp X 75 93 ls (.int 4 :: st) M K := wp_iconst ((ip_a75 92).trans (ip_f75_1 (k := 23) rfl))
theorem w75_93 (X : ip_X) (ls st : List Value) (M : ip_H) (K : Option Value → ip_H → Prop) (n dp sp : Int32) (k0 k1 : Nat) (h0 : st.length ≤ 4) (h1 : (ip_sh M k0).1 = 1 ∧ (ip_sh M k1).1 = 1 ∧ (ip_sh M k0).2.1 = (ip_sh M k1).2.1 ∧ (ip_sh M k0).2.1 < 3) (h2 : ¬ sp < 0 ∧ ¬ dp < 0 ∧ ¬ n < 0 ∧ sp.toNatClampNeg + n.toNatClampNeg ≤ (ip_sh M k0).2.2 ∧ dp.toNatClampNeg + n.toNatClampNeg ≤ (ip_sh M k1).2.2) (h3 : (ip_sh M k0).2.1 < 2 ∨ ∀ i, i < n.toNatClampNeg → fits .byte (.int (M.2.1 k0 (sp.toNatClampNeg + i))) = true) : ip_wp X 75 93 ls (.int n :: .int dp :: .ref k1 :: .int sp :: .ref k0 :: st) M K = ip_wp X 75 96 ls st (if (ip_sh M k0).2.1 = 1 then ip_cpL M k0 k1 sp.toNatClampNeg dp.toNatClampNeg n.toNatClampNeg else ip_cpI M k0 k1 sp.toNatClampNeg dp.toNatClampNeg n.toNatClampNeg) K := wp_copy ((ip_a75 93).trans (ip_f75_2 (k := 0) rfl)) h0 h1 h2 h3
theorem w75_96 (X : ip_X) (ls st : List Value) (M : ip_H) (K : Option Value → ip_H → Prop) : ip_wp X 75 96 ls st M K = ip_ka (ip_get ls 4) (fun x => ip_wp X 75 98 ls (x :: st) M K) := wp_aload ((ip_a75 96).trans (ip_f75_2 (k := 1) rfl))
theorem w75_98 (X : ip_X) (ls st : List Value) (M : ip_H) (K : Option Value → ip_H → Prop) (k : Nat) (h0 : (ip_sh M k).1 = 0) (h1 : (ip_sh M k).2.1 = 1) : ip_wp X 75 98 ls (.ref k :: st) M K = ip_wp X 75 101 ls (ip_vr (M.2.2.2 k 0) :: st) M K := (wp_getR ((ip_a75 98).trans (ip_f75_2 (k := 2) rfl))).trans (if_pos ⟨h0, h1⟩)
theorem w75_101 (X : ip_X) (ls st : List Value) (M : ip_H) (K : Option Value → ip_H → Prop) : ip_wp X 75 101 ls st M K = ip_wp X 75 102 ls (.int 5 :: st) M K := wp_iconst ((ip_a75 101).trans (ip_f75_2 (k := 3) rfl))
theorem w75_102 (X : ip_X) (ls st : List Value) (M : ip_H) (K : Option Value → ip_H → Prop) : ip_wp X 75 102 ls st M K = ip_ka (ip_get ls 0) (fun x => ip_wp X 75 103 ls (x :: st) M K) := wp_aload_n ((ip_a75 102).trans (ip_f75_2 (k := 4) rfl))
theorem w75_103 (X : ip_X) (ls st : List Value) (M : ip_H) (K : Option Value → ip_H → Prop) (k : Nat) (h0 : (ip_sh M k).1 = 0) (h1 : (ip_sh M k).2.1 = 5) : ip_wp X 75 103 ls (.ref k :: st) M K = ip_wp X 75 106 ls (ip_vr (M.2.2.2 k 5) :: st) M K := (wp_getR ((ip_a75 103).trans (ip_f75_2 (k := 5) rfl))).trans (if_pos ⟨h0, h1⟩)
theorem w75_106 (X : ip_X) (ls st : List Value) (M : ip_H) (K : Option Value → ip_H → Prop) : ip_wp X 75 106 ls st M K = ip_wp X 75 107 ls (.int 4 :: st) M K := wp_iconst ((ip_a75 106).trans (ip_f75_2 (k := 6) rfl))
theorem w75_107 (X : ip_X) (ls st : List Value) (M : ip_H) (K : Option Value → ip_H → Prop) : ip_wp X 75 107 ls st M K = ip_wp X 75 108 ls (.int 4 :: st) M K := wp_iconst ((ip_a75 107).trans (ip_f75_2 (k := 7) rfl))
theorem w75_108 (X : ip_X) (ls st : List Value) (M : ip_H) (K : Option Value → ip_H → Prop) (n dp sp : Int32) (k0 k1 : Nat) (h0 : st.length ≤ 4) (h1 : (ip_sh M k0).1 = 1 ∧ (ip_sh M k1).1 = 1 ∧ (ip_sh M k0).2.1 = (ip_sh M k1).2.1 ∧ (ip_sh M k0).2.1 < 3) (h2 : ¬ sp < 0 ∧ ¬ dp < 0 ∧ ¬ n < 0 ∧ sp.toNatClampNeg + n.toNatClampNeg ≤ (ip_sh M k0).2.2 ∧ dp.toNatClampNeg + n.toNatClampNeg ≤ (ip_sh M k1).2.2) (h3 : (ip_sh M k0).2.1 < 2 ∨ ∀ i, i < n.toNatClampNeg → fits .byte (.int (M.2.1 k0 (sp.toNatClampNeg + i))) = true) : ip_wp X 75 108 ls (.int n :: .int dp :: .ref k1 :: .int sp :: .ref k0 :: st) M K = ip_wp X 75 111 ls st (if (ip_sh M k0).2.1 = 1 then ip_cpL M k0 k1 sp.toNatClampNeg dp.toNatClampNeg n.toNatClampNeg else ip_cpI M k0 k1 sp.toNatClampNeg dp.toNatClampNeg n.toNatClampNeg) K := wp_copy ((ip_a75 108).trans (ip_f75_2 (k := 8) rfl)) h0 h1 h2 h3
theorem w75_111 (X : ip_X) (ls : List Value) (M : ip_H) (K : Option Value → ip_H → Prop) : ip_wp X 75 111 ls [] M K = K none M := wp_vret ((ip_a75 111).trans (ip_f75_2 (k := 9) rfl))
end
noncomputable section
-- PART c13yg02.past
-- STANDS of the class: the ring, what is taken
/-- the words of a stand copied -/
theorem by_fit {M : ip_H} {k : Nat} (h : ∀ j, ai_TT ai_Tb k j = (-128, 127)) (hI : ai_inv ai_Tb M) (j : Nat) : fits .byte (.int (M.2.1 k j)) = true := by
  have b := hI k j
  rw [h j] at b
  exact ai_byte b.1 b.2

set_option maxHeartbeats 40000000 in
set_option maxRecDepth 100000 in
theorem s_291_0 (X : ip_X) (M : ip_H) (K : Option Value → ip_H → Prop) : ip_wp X 291 0 [.int 0, .int 8, .retAddr 1] [] M K = K (some (.int 0)) M := by
  have e : (0 : Int32) ^^^ 8 = 8 := by decide +kernel
  simp (config := { maxSteps := 10000000, maxDischargeDepth := 30, decide := true }) only [w291_0, w291_1, w291_2, w291_3, w291_4, w291_5, w291_6, w291_7, w291_18, w291_19, ↓ip_ki0, ↓ip_ki1, ↓ip_ki2, ip_set1, ip_clr_s, List.set_cons_zero, List.set_cons_succ, ↓reduceIte, not_false_eq_true, Int32.reduceSub, Int32.reduceMul, Int32.reduceDiv, e]

set_option maxHeartbeats 40000000 in
set_option maxRecDepth 100000 in
theorem s_291_1 (X : ip_X) (M : ip_H) (K : Option Value → ip_H → Prop) : ip_wp X 291 0 [.int 1, .int 8, .retAddr 1] [] M K = K (some (.int 1)) M := by
  have e : (1 : Int32) ^^^ 8 = 9 := by decide +kernel
  simp (config := { maxSteps := 10000000, maxDischargeDepth := 30, decide := true }) only [w291_0, w291_1, w291_2, w291_3, w291_4, w291_5, w291_6, w291_7, w291_18, w291_19, ↓ip_ki0, ↓ip_ki1, ↓ip_ki2, ip_set1, ip_clr_s, List.set_cons_zero, List.set_cons_succ, ↓reduceIte, not_false_eq_true, Int32.reduceSub, Int32.reduceMul, Int32.reduceDiv, e]

set_option maxHeartbeats 40000000 in
set_option maxRecDepth 100000 in
theorem s_291_2 (X : ip_X) (M : ip_H) (K : Option Value → ip_H → Prop) : ip_wp X 291 0 [.int 2, .int 8, .retAddr 1] [] M K = K (some (.int 2)) M := by
  have e : (2 : Int32) ^^^ 8 = 10 := by decide +kernel
  simp (config := { maxSteps := 10000000, maxDischargeDepth := 30, decide := true }) only [w291_0, w291_1, w291_2, w291_3, w291_4, w291_5, w291_6, w291_7, w291_18, w291_19, ↓ip_ki0, ↓ip_ki1, ↓ip_ki2, ip_set1, ip_clr_s, List.set_cons_zero, List.set_cons_succ, ↓reduceIte, not_false_eq_true, Int32.reduceSub, Int32.reduceMul, Int32.reduceDiv, e]

set_option maxHeartbeats 40000000 in
set_option maxRecDepth 100000 in
theorem s_291_3 (X : ip_X) (M : ip_H) (K : Option Value → ip_H → Prop) : ip_wp X 291 0 [.int 3, .int 8, .retAddr 1] [] M K = K (some (.int 3)) M := by
  have e : (3 : Int32) ^^^ 8 = 11 := by decide +kernel
  simp (config := { maxSteps := 10000000, maxDischargeDepth := 30, decide := true }) only [w291_0, w291_1, w291_2, w291_3, w291_4, w291_5, w291_6, w291_7, w291_18, w291_19, ↓ip_ki0, ↓ip_ki1, ↓ip_ki2, ip_set1, ip_clr_s, List.set_cons_zero, List.set_cons_succ, ↓reduceIte, not_false_eq_true, Int32.reduceSub, Int32.reduceMul, Int32.reduceDiv, e]

set_option maxHeartbeats 40000000 in
set_option maxRecDepth 100000 in
theorem s_291_4 (X : ip_X) (M : ip_H) (K : Option Value → ip_H → Prop) : ip_wp X 291 0 [.int 4, .int 8, .retAddr 1] [] M K = K (some (.int 4)) M := by
  have e : (4 : Int32) ^^^ 8 = 12 := by decide +kernel
  simp (config := { maxSteps := 10000000, maxDischargeDepth := 30, decide := true }) only [w291_0, w291_1, w291_2, w291_3, w291_4, w291_5, w291_6, w291_7, w291_18, w291_19, ↓ip_ki0, ↓ip_ki1, ↓ip_ki2, ip_set1, ip_clr_s, List.set_cons_zero, List.set_cons_succ, ↓reduceIte, not_false_eq_true, Int32.reduceSub, Int32.reduceMul, Int32.reduceDiv, e]

set_option maxHeartbeats 40000000 in
set_option maxRecDepth 100000 in
theorem s_291_5 (X : ip_X) (M : ip_H) (K : Option Value → ip_H → Prop) : ip_wp X 291 0 [.int 5, .int 8, .retAddr 1] [] M K = K (some (.int 5)) M := by
  have e : (5 : Int32) ^^^ 8 = 13 := by decide +kernel
  simp (config := { maxSteps := 10000000, maxDischargeDepth := 30, decide := true }) only [w291_0, w291_1, w291_2, w291_3, w291_4, w291_5, w291_6, w291_7, w291_18, w291_19, ↓ip_ki0, ↓ip_ki1, ↓ip_ki2, ip_set1, ip_clr_s, List.set_cons_zero, List.set_cons_succ, ↓reduceIte, not_false_eq_true, Int32.reduceSub, Int32.reduceMul, Int32.reduceDiv, e]

set_option maxHeartbeats 40000000 in
set_option maxRecDepth 100000 in
theorem s_291_6 (X : ip_X) (M : ip_H) (K : Option Value → ip_H → Prop) : ip_wp X 291 0 [.int 6, .int 8, .retAddr 1] [] M K = K (some (.int 6)) M := by
  have e : (6 : Int32) ^^^ 8 = 14 := by decide +kernel
  simp (config := { maxSteps := 10000000, maxDischargeDepth := 30, decide := true }) only [w291_0, w291_1, w291_2, w291_3, w291_4, w291_5, w291_6, w291_7, w291_18, w291_19, ↓ip_ki0, ↓ip_ki1, ↓ip_ki2, ip_set1, ip_clr_s, List.set_cons_zero, List.set_cons_succ, ↓reduceIte, not_false_eq_true, Int32.reduceSub, Int32.reduceMul, Int32.reduceDiv, e]

set_option maxHeartbeats 40000000 in
set_option maxRecDepth 100000 in
theorem s_291_7 (X : ip_X) (M : ip_H) (K : Option Value → ip_H → Prop) : ip_wp X 291 0 [.int 7, .int 8, .retAddr 1] [] M K = K (some (.int 7)) M := by
  have e : (7 : Int32) ^^^ 8 = 15 := by decide +kernel
  simp (config := { maxSteps := 10000000, maxDischargeDepth := 30, decide := true }) only [w291_0, w291_1, w291_2, w291_3, w291_4, w291_5, w291_6, w291_7, w291_18, w291_19, ↓ip_ki0, ↓ip_ki1, ↓ip_ki2, ip_set1, ip_clr_s, List.set_cons_zero, List.set_cons_succ, ↓reduceIte, not_false_eq_true, Int32.reduceSub, Int32.reduceMul, Int32.reduceDiv, e]

set_option maxHeartbeats 40000000 in
set_option maxRecDepth 100000 in
theorem s_291_8 (X : ip_X) (M : ip_H) (K : Option Value → ip_H → Prop) : ip_wp X 291 0 [.int 8, .int 8, .retAddr 1] [] M K = K (some (.int 0)) M := by
  have e : (8 : Int32) ^^^ 8 = 0 := by decide +kernel
  simp (config := { maxSteps := 10000000, maxDischargeDepth := 30, decide := true }) only [w291_0, w291_1, w291_2, w291_3, w291_4, w291_5, w291_6, w291_7, w291_18, w291_19, ↓ip_ki0, ↓ip_ki1, ↓ip_ki2, ip_set1, ip_clr_s, List.set_cons_zero, List.set_cons_succ, ↓reduceIte, not_false_eq_true, Int32.reduceSub, Int32.reduceMul, Int32.reduceDiv, e]

set_option maxHeartbeats 40000000 in
set_option maxRecDepth 100000 in
theorem s_291_9 (X : ip_X) (M : ip_H) (K : Option Value → ip_H → Prop) : ip_wp X 291 0 [.int 9, .int 8, .retAddr 1] [] M K = K (some (.int 1)) M := by
  have e : (9 : Int32) ^^^ 8 = 1 := by decide +kernel
  simp (config := { maxSteps := 10000000, maxDischargeDepth := 30, decide := true }) only [w291_0, w291_1, w291_2, w291_3, w291_4, w291_5, w291_6, w291_7, w291_18, w291_19, ↓ip_ki0, ↓ip_ki1, ↓ip_ki2, ip_set1, ip_clr_s, List.set_cons_zero, List.set_cons_succ, ↓reduceIte, not_false_eq_true, Int32.reduceSub, Int32.reduceMul, Int32.reduceDiv, e]

set_option maxHeartbeats 40000000 in
set_option maxRecDepth 100000 in
theorem s_291_10 (X : ip_X) (M : ip_H) (K : Option Value → ip_H → Prop) : ip_wp X 291 0 [.int 10, .int 8, .retAddr 1] [] M K = K (some (.int 2)) M := by
  have e : (10 : Int32) ^^^ 8 = 2 := by decide +kernel
  simp (config := { maxSteps := 10000000, maxDischargeDepth := 30, decide := true }) only [w291_0, w291_1, w291_2, w291_3, w291_4, w291_5, w291_6, w291_7, w291_18, w291_19, ↓ip_ki0, ↓ip_ki1, ↓ip_ki2, ip_set1, ip_clr_s, List.set_cons_zero, List.set_cons_succ, ↓reduceIte, not_false_eq_true, Int32.reduceSub, Int32.reduceMul, Int32.reduceDiv, e]

set_option maxHeartbeats 40000000 in
set_option maxRecDepth 100000 in
theorem s_291_11 (X : ip_X) (M : ip_H) (K : Option Value → ip_H → Prop) : ip_wp X 291 0 [.int 11, .int 8, .retAddr 1] [] M K = K (some (.int 3)) M := by
  have e : (11 : Int32) ^^^ 8 = 3 := by decide +kernel
  simp (config := { maxSteps := 10000000, maxDischargeDepth := 30, decide := true }) only [w291_0, w291_1, w291_2, w291_3, w291_4, w291_5, w291_6, w291_7, w291_18, w291_19, ↓ip_ki0, ↓ip_ki1, ↓ip_ki2, ip_set1, ip_clr_s, List.set_cons_zero, List.set_cons_succ, ↓reduceIte, not_false_eq_true, Int32.reduceSub, Int32.reduceMul, Int32.reduceDiv, e]

set_option maxHeartbeats 40000000 in
set_option maxRecDepth 100000 in
theorem s_291_12 (X : ip_X) (M : ip_H) (K : Option Value → ip_H → Prop) : ip_wp X 291 0 [.int 12, .int 8, .retAddr 1] [] M K = K (some (.int 4)) M := by
  have e : (12 : Int32) ^^^ 8 = 4 := by decide +kernel
  simp (config := { maxSteps := 10000000, maxDischargeDepth := 30, decide := true }) only [w291_0, w291_1, w291_2, w291_3, w291_4, w291_5, w291_6, w291_7, w291_18, w291_19, ↓ip_ki0, ↓ip_ki1, ↓ip_ki2, ip_set1, ip_clr_s, List.set_cons_zero, List.set_cons_succ, ↓reduceIte, not_false_eq_true, Int32.reduceSub, Int32.reduceMul, Int32.reduceDiv, e]

set_option maxHeartbeats 40000000 in
set_option maxRecDepth 100000 in
theorem s_291_13 (X : ip_X) (M : ip_H) (K : Option Value → ip_H → Prop) : ip_wp X 291 0 [.int 13, .int 8, .retAddr 1] [] M K = K (some (.int 5)) M := by
  have e : (13 : Int32) ^^^ 8 = 5 := by decide +kernel
  simp (config := { maxSteps := 10000000, maxDischargeDepth := 30, decide := true }) only [w291_0, w291_1, w291_2, w291_3, w291_4, w291_5, w291_6, w291_7, w291_18, w291_19, ↓ip_ki0, ↓ip_ki1, ↓ip_ki2, ip_set1, ip_clr_s, List.set_cons_zero, List.set_cons_succ, ↓reduceIte, not_false_eq_true, Int32.reduceSub, Int32.reduceMul, Int32.reduceDiv, e]

set_option maxHeartbeats 40000000 in
set_option maxRecDepth 100000 in
theorem s_291_14 (X : ip_X) (M : ip_H) (K : Option Value → ip_H → Prop) : ip_wp X 291 0 [.int 14, .int 8, .retAddr 1] [] M K = K (some (.int 6)) M := by
  have e : (14 : Int32) ^^^ 8 = 6 := by decide +kernel
  simp (config := { maxSteps := 10000000, maxDischargeDepth := 30, decide := true }) only [w291_0, w291_1, w291_2, w291_3, w291_4, w291_5, w291_6, w291_7, w291_18, w291_19, ↓ip_ki0, ↓ip_ki1, ↓ip_ki2, ip_set1, ip_clr_s, List.set_cons_zero, List.set_cons_succ, ↓reduceIte, not_false_eq_true, Int32.reduceSub, Int32.reduceMul, Int32.reduceDiv, e]

theorem s_291 (X : ip_X) (M : ip_H) (K : Option Value → ip_H → Prop) (x : Nat) (hx : x < 15) : ip_wp X 291 0 [.int (Int32.ofNat x), .int 8, .retAddr 1] [] M K = K (some (.int (Int32.ofNat (x % 8)))) M := by
  have hc : x = 0 ∨ x = 1 ∨ x = 2 ∨ x = 3 ∨ x = 4 ∨ x = 5 ∨ x = 6 ∨ x = 7 ∨ x = 8 ∨ x = 9 ∨ x = 10 ∨ x = 11 ∨ x = 12 ∨ x = 13 ∨ x = 14 := by omega
  rcases hc with rfl | rfl | rfl | rfl | rfl | rfl | rfl | rfl | rfl | rfl | rfl | rfl | rfl | rfl | rfl
  · exact s_291_0 X M K
  · exact s_291_1 X M K
  · exact s_291_2 X M K
  · exact s_291_3 X M K
  · exact s_291_4 X M K
  · exact s_291_5 X M K
  · exact s_291_6 X M K
  · exact s_291_7 X M K
  · exact s_291_8 X M K
  · exact s_291_9 X M K
  · exact s_291_10 X M K
  · exact s_291_11 X M K
  · exact s_291_12 X M K
  · exact s_291_13 X M K
  · exact s_291_14 X M K
set_option maxHeartbeats 40000000 in
set_option maxRecDepth 100000 in
theorem s_59 (X : ip_X) (M : ip_H) (K : Option Value → ip_H → Prop) (o c : Nat) (ho : o < 8) (hc : 1 ≤ c ∧ c ≤ 8) (h4 : M.2.1 23 4 = Int32.ofNat o) (h5 : M.2.1 23 5 = Int32.ofNat c) (hG : ip_G M) : ip_wp X 59 0 [.ref 23] [] M K = K (some (.int (Int32.ofNat ((o + c - 1) % 8)))) M := by
  have e1 : Int32.ofNat o + Int32.ofNat c = Int32.ofNat (o + c) := ip_oa o c
  have e2 : Int32.ofNat (o + c) - 1 = Int32.ofNat (o + c - 1) := by
    apply Int32.toInt_inj.mp
    rw [Int32.toInt_sub, ip_nt _ (by omega), ip_nt _ (by omega), show (1 : Int32).toInt = 1 from rfl, Int.bmod_eq_of_le_mul_two (by omega) (by omega)]
    omega
  have t := fun K => s_291 X M K (o + c - 1) (by omega)
  simp (config := { maxSteps := 10000000, maxDischargeDepth := 30, decide := true }) only [w59_0, w59_1, w59_4, w59_5, w59_8, w59_9, w59_10, w59_11, w59_13, w59_16, ↓ip_ka0, Option.toList_some, List.nil_append, List.cons_append, List.length_nil, Nat.zero_le, gS_23 hG, h4, h5, e1, e2, t]

/-- the k-th stand -/
def sdn (k : Nat) : Nat := 28 + 5 * k
theorem gR_24 {M : ip_H} (h : ip_G M) {k : Nat} (hk : k < 8) : M.2.2.2 24 k = some (sdn k) := by
  have hc : k = 0 ∨ k = 1 ∨ k = 2 ∨ k = 3 ∨ k = 4 ∨ k = 5 ∨ k = 6 ∨ k = 7 := by omega
  rcases hc with rfl | rfl | rfl | rfl | rfl | rfl | rfl | rfl
  · exact gR_24_0 h
  · exact gR_24_1 h
  · exact gR_24_2 h
  · exact gR_24_3 h
  · exact gR_24_4 h
  · exact gR_24_5 h
  · exact gR_24_6 h
  · exact gR_24_7 h
set_option maxHeartbeats 40000000 in
set_option maxRecDepth 100000 in
theorem s_55r (X : ip_X) (M : ip_H) (K : Option Value → ip_H → Prop) (o c : Nat) (a : Int32) (ho : o < 8) (hc : c < 8) (h4 : M.2.1 23 4 = Int32.ofNat o) (h5 : M.2.1 23 5 = Int32.ofNat c) (hG : ip_G M) : ip_wp X 55 0 [.ref 23, .int a] [] M K = K (some (.ref (sdn ((o + c) % 8)))) (ip_uI (ip_uI M 23 5 (Int32.ofNat (c + 1))) 25 ((o + c) % 8) a) := by
  have g : (Int32.ofNat c < 8) = True := by rw [show (8 : Int32) = Int32.ofNat 8 from rfl, ip_nlt _ _ (by omega) (by decide)]; exact eq_true hc
  have ec : Int32.ofNat c + 1 = Int32.ofNat (c + 1) := ip_oa c 1
  have hG1 : ip_G (ip_uI M 23 5 (Int32.ofNat (c + 1))) := hG
  have p4 : (ip_uI M 23 5 (Int32.ofNat (c + 1))).2.1 23 4 = Int32.ofNat o := h4
  have p5 : (ip_uI M 23 5 (Int32.ofNat (c + 1))).2.1 23 5 = Int32.ofNat (c + 1) := rfl
  have t := fun K => s_59 X (ip_uI M 23 5 (Int32.ofNat (c + 1))) K o (c + 1) ho (by omega) p4 p5 hG1
  have ep : o + (c + 1) - 1 = o + c := by omega
  rw [ep] at t
  obtain ⟨p, hp⟩ : ∃ p, p = (o + c) % 8 := ⟨_, rfl⟩
  rw [← hp] at t ⊢
  have hp8 : p < 8 := by rw [hp]; exact Nat.mod_lt _ (by decide)
  have hG2 : ip_G (ip_uI (ip_uI M 23 5 (Int32.ofNat (c + 1))) 25 p a) := hG
  have q4 : (ip_uI (ip_uI M 23 5 (Int32.ofNat (c + 1))) 25 p a).2.1 23 4 = Int32.ofNat o := h4
  have q5 : (ip_uI (ip_uI M 23 5 (Int32.ofNat (c + 1))) 25 p a).2.1 23 5 = Int32.ofNat (c + 1) := rfl
  have t2 := fun K => s_59 X (ip_uI (ip_uI M 23 5 (Int32.ofNat (c + 1))) 25 p a) K o (c + 1) ho (by omega) q4 q5 hG2
  rw [ep, ← hp] at t2
  have n0 := eq_false (ip_nn p (by omega))
  have c0 := ip_nc p (by omega)
  have l0 : (p < 8) = True := eq_true hp8
  have gp := gR_24 hG hp8
  clear hp ep
  simp (config := { maxSteps := 10000000, maxDischargeDepth := 30, decide := true }) only [w55_0, w55_1, w55_4, w55_6, w55_32, w55_33_r, w55_34, w55_37, w55_38, w55_39, w55_42, w55_43, w55_46, w55_47, w55_50, w55_51, w55_52, w55_53, w55_56, w55_57, w55_60, w55_61, ↓ip_ka0, ↓ip_ki1, ip_uI_R, ip_uI_sh, ip_vr_some, Option.toList_some, List.nil_append, List.cons_append, List.length_nil, List.length_cons, ↓reduceIte, Nat.reduceLeDiff, Nat.zero_add, and_self, not_false_eq_true, ip_ix_eq, gS_23 hG, gS_24 hG, gS_25 hG, gR_23_0 hG, gR_23_1 hG, h5, g, ec, t, t2, n0, c0, l0, gp]

set_option maxHeartbeats 40000000 in
set_option maxRecDepth 100000 in
theorem s_55f_0 (X : ip_X) (M : ip_H) (K : Option Value → ip_H → Prop) (a : Int32) (h4 : M.2.1 23 4 = 0) (h5 : M.2.1 23 5 = 8) (hG : ip_G M) : ip_wp X 55 0 [.ref 23, .int a] [] M K = K (some (.ref (sdn 0))) (ip_uI (ip_uI (ip_uI M 23 4 1) 23 5 8) 25 0 a) := by
  have hG1 : ip_G (ip_uI (ip_uI M 23 4 1) 23 5 8) := hG
  have hG2 : ip_G (ip_uI (ip_uI (ip_uI M 23 4 1) 23 5 8) 25 0 a) := gG_uI _ _ _ _ (gG_uI _ _ _ _ (gG_uI _ _ _ _ hG))
  have t := fun K => s_59 X (ip_uI (ip_uI M 23 4 1) 23 5 8) K 1 8 (by decide) (by decide) rfl rfl hG1
  have t2 := fun K => s_59 X (ip_uI (ip_uI (ip_uI M 23 4 1) 23 5 8) 25 0 a) K 1 8 (by decide) (by decide) rfl rfl hG2
  have ep : (1 + 8 - 1) % 8 = 0 := by decide
  rw [ep] at t t2
  have gp := gR_24 hG (show 0 < 8 by decide)
  simp (config := { maxSteps := 10000000, maxDischargeDepth := 30, decide := true }) only [w55_0, w55_1, w55_4, w55_6, w55_9, w55_10, w55_11, w55_14, w55_15, w55_16, w55_18, w55_19, w55_22, w55_23_r, w55_23_i, w55_24, w55_27, w55_28, w55_29, w55_32, w55_33_r, w55_33_i, w55_34, w55_37, w55_38, w55_39, w55_42, w55_43, w55_46, w55_47, w55_50, w55_51, w55_52, w55_53, w55_56, w55_57, w55_60, w55_61, ↓ip_ka0, ↓ip_ki1, ip_uI_I, ip_uI_R, ip_uI_sh, ip_vr_some, Option.toList_some, List.nil_append, List.cons_append, List.length_nil, List.length_cons, ↓reduceIte, Nat.reduceLeDiff, Nat.zero_add, not_false_eq_true, Int32.reduceSub, Int32.reduceAdd, Int32.reduceMul, Int32.reduceToNatClampNeg, ip_ix_eq, Int32.reduceDiv, Int32.reduceOfNat, gS_23 hG, gS_24 hG, gS_25 hG, gR_23_0 hG, gR_23_1 hG, h4, h5, t, t2, gp, ip_uI_uI]

set_option maxHeartbeats 40000000 in
set_option maxRecDepth 100000 in
theorem s_55f_1 (X : ip_X) (M : ip_H) (K : Option Value → ip_H → Prop) (a : Int32) (h4 : M.2.1 23 4 = 1) (h5 : M.2.1 23 5 = 8) (hG : ip_G M) : ip_wp X 55 0 [.ref 23, .int a] [] M K = K (some (.ref (sdn 1))) (ip_uI (ip_uI (ip_uI M 23 4 2) 23 5 8) 25 1 a) := by
  have hG1 : ip_G (ip_uI (ip_uI M 23 4 2) 23 5 8) := hG
  have hG2 : ip_G (ip_uI (ip_uI (ip_uI M 23 4 2) 23 5 8) 25 1 a) := gG_uI _ _ _ _ (gG_uI _ _ _ _ (gG_uI _ _ _ _ hG))
  have t := fun K => s_59 X (ip_uI (ip_uI M 23 4 2) 23 5 8) K 2 8 (by decide) (by decide) rfl rfl hG1
  have t2 := fun K => s_59 X (ip_uI (ip_uI (ip_uI M 23 4 2) 23 5 8) 25 1 a) K 2 8 (by decide) (by decide) rfl rfl hG2
  have ep : (2 + 8 - 1) % 8 = 1 := by decide
  rw [ep] at t t2
  have gp := gR_24 hG (show 1 < 8 by decide)
  simp (config := { maxSteps := 10000000, maxDischargeDepth := 30, decide := true }) only [w55_0, w55_1, w55_4, w55_6, w55_9, w55_10, w55_11, w55_14, w55_15, w55_16, w55_18, w55_19, w55_22, w55_23_r, w55_23_i, w55_24, w55_27, w55_28, w55_29, w55_32, w55_33_r, w55_33_i, w55_34, w55_37, w55_38, w55_39, w55_42, w55_43, w55_46, w55_47, w55_50, w55_51, w55_52, w55_53, w55_56, w55_57, w55_60, w55_61, ↓ip_ka0, ↓ip_ki1, ip_uI_I, ip_uI_R, ip_uI_sh, ip_vr_some, Option.toList_some, List.nil_append, List.cons_append, List.length_nil, List.length_cons, ↓reduceIte, Nat.reduceLeDiff, Nat.zero_add, not_false_eq_true, Int32.reduceSub, Int32.reduceAdd, Int32.reduceMul, Int32.reduceToNatClampNeg, ip_ix_eq, Int32.reduceDiv, Int32.reduceOfNat, gS_23 hG, gS_24 hG, gS_25 hG, gR_23_0 hG, gR_23_1 hG, h4, h5, t, t2, gp, ip_uI_uI]

set_option maxHeartbeats 40000000 in
set_option maxRecDepth 100000 in
theorem s_55f_2 (X : ip_X) (M : ip_H) (K : Option Value → ip_H → Prop) (a : Int32) (h4 : M.2.1 23 4 = 2) (h5 : M.2.1 23 5 = 8) (hG : ip_G M) : ip_wp X 55 0 [.ref 23, .int a] [] M K = K (some (.ref (sdn 2))) (ip_uI (ip_uI (ip_uI M 23 4 3) 23 5 8) 25 2 a) := by
  have hG1 : ip_G (ip_uI (ip_uI M 23 4 3) 23 5 8) := hG
  have hG2 : ip_G (ip_uI (ip_uI (ip_uI M 23 4 3) 23 5 8) 25 2 a) := gG_uI _ _ _ _ (gG_uI _ _ _ _ (gG_uI _ _ _ _ hG))
  have t := fun K => s_59 X (ip_uI (ip_uI M 23 4 3) 23 5 8) K 3 8 (by decide) (by decide) rfl rfl hG1
  have t2 := fun K => s_59 X (ip_uI (ip_uI (ip_uI M 23 4 3) 23 5 8) 25 2 a) K 3 8 (by decide) (by decide) rfl rfl hG2
  have ep : (3 + 8 - 1) % 8 = 2 := by decide
  rw [ep] at t t2
  have gp := gR_24 hG (show 2 < 8 by decide)
  simp (config := { maxSteps := 10000000, maxDischargeDepth := 30, decide := true }) only [w55_0, w55_1, w55_4, w55_6, w55_9, w55_10, w55_11, w55_14, w55_15, w55_16, w55_18, w55_19, w55_22, w55_23_r, w55_23_i, w55_24, w55_27, w55_28, w55_29, w55_32, w55_33_r, w55_33_i, w55_34, w55_37, w55_38, w55_39, w55_42, w55_43, w55_46, w55_47, w55_50, w55_51, w55_52, w55_53, w55_56, w55_57, w55_60, w55_61, ↓ip_ka0, ↓ip_ki1, ip_uI_I, ip_uI_R, ip_uI_sh, ip_vr_some, Option.toList_some, List.nil_append, List.cons_append, List.length_nil, List.length_cons, ↓reduceIte, Nat.reduceLeDiff, Nat.zero_add, not_false_eq_true, Int32.reduceSub, Int32.reduceAdd, Int32.reduceMul, Int32.reduceToNatClampNeg, ip_ix_eq, Int32.reduceDiv, Int32.reduceOfNat, gS_23 hG, gS_24 hG, gS_25 hG, gR_23_0 hG, gR_23_1 hG, h4, h5, t, t2, gp, ip_uI_uI]

set_option maxHeartbeats 40000000 in
set_option maxRecDepth 100000 in
theorem s_55f_3 (X : ip_X) (M : ip_H) (K : Option Value → ip_H → Prop) (a : Int32) (h4 : M.2.1 23 4 = 3) (h5 : M.2.1 23 5 = 8) (hG : ip_G M) : ip_wp X 55 0 [.ref 23, .int a] [] M K = K (some (.ref (sdn 3))) (ip_uI (ip_uI (ip_uI M 23 4 4) 23 5 8) 25 3 a) := by
  have hG1 : ip_G (ip_uI (ip_uI M 23 4 4) 23 5 8) := hG
  have hG2 : ip_G (ip_uI (ip_uI (ip_uI M 23 4 4) 23 5 8) 25 3 a) := gG_uI _ _ _ _ (gG_uI _ _ _ _ (gG_uI _ _ _ _ hG))
  have t := fun K => s_59 X (ip_uI (ip_uI M 23 4 4) 23 5 8) K 4 8 (by decide) (by decide) rfl rfl hG1
  have t2 := fun K => s_59 X (ip_uI (ip_uI (ip_uI M 23 4 4) 23 5 8) 25 3 a) K 4 8 (by decide) (by decide) rfl rfl hG2
  have ep : (4 + 8 - 1) % 8 = 3 := by decide
  rw [ep] at t t2
  have gp := gR_24 hG (show 3 < 8 by decide)
  simp (config := { maxSteps := 10000000, maxDischargeDepth := 30, decide := true }) only [w55_0, w55_1, w55_4, w55_6, w55_9, w55_10, w55_11, w55_14, w55_15, w55_16, w55_18, w55_19, w55_22, w55_23_r, w55_23_i, w55_24, w55_27, w55_28, w55_29, w55_32, w55_33_r, w55_33_i, w55_34, w55_37, w55_38, w55_39, w55_42, w55_43, w55_46, w55_47, w55_50, w55_51, w55_52, w55_53, w55_56, w55_57, w55_60, w55_61, ↓ip_ka0, ↓ip_ki1, ip_uI_I, ip_uI_R, ip_uI_sh, ip_vr_some, Option.toList_some, List.nil_append, List.cons_append, List.length_nil, List.length_cons, ↓reduceIte, Nat.reduceLeDiff, Nat.zero_add, not_false_eq_true, Int32.reduceSub, Int32.reduceAdd, Int32.reduceMul, Int32.reduceToNatClampNeg, ip_ix_eq, Int32.reduceDiv, Int32.reduceOfNat, gS_23 hG, gS_24 hG, gS_25 hG, gR_23_0 hG, gR_23_1 hG, h4, h5, t, t2, gp, ip_uI_uI]

set_option maxHeartbeats 40000000 in
set_option maxRecDepth 100000 in
theorem s_55f_4 (X : ip_X) (M : ip_H) (K : Option Value → ip_H → Prop) (a : Int32) (h4 : M.2.1 23 4 = 4) (h5 : M.2.1 23 5 = 8) (hG : ip_G M) : ip_wp X 55 0 [.ref 23, .int a] [] M K = K (some (.ref (sdn 4))) (ip_uI (ip_uI (ip_uI M 23 4 5) 23 5 8) 25 4 a) := by
  have hG1 : ip_G (ip_uI (ip_uI M 23 4 5) 23 5 8) := hG
  have hG2 : ip_G (ip_uI (ip_uI (ip_uI M 23 4 5) 23 5 8) 25 4 a) := gG_uI _ _ _ _ (gG_uI _ _ _ _ (gG_uI _ _ _ _ hG))
  have t := fun K => s_59 X (ip_uI (ip_uI M 23 4 5) 23 5 8) K 5 8 (by decide) (by decide) rfl rfl hG1
  have t2 := fun K => s_59 X (ip_uI (ip_uI (ip_uI M 23 4 5) 23 5 8) 25 4 a) K 5 8 (by decide) (by decide) rfl rfl hG2
  have ep : (5 + 8 - 1) % 8 = 4 := by decide
  rw [ep] at t t2
  have gp := gR_24 hG (show 4 < 8 by decide)
  simp (config := { maxSteps := 10000000, maxDischargeDepth := 30, decide := true }) only [w55_0, w55_1, w55_4, w55_6, w55_9, w55_10, w55_11, w55_14, w55_15, w55_16, w55_18, w55_19, w55_22, w55_23_r, w55_23_i, w55_24, w55_27, w55_28, w55_29, w55_32, w55_33_r, w55_33_i, w55_34, w55_37, w55_38, w55_39, w55_42, w55_43, w55_46, w55_47, w55_50, w55_51, w55_52, w55_53, w55_56, w55_57, w55_60, w55_61, ↓ip_ka0, ↓ip_ki1, ip_uI_I, ip_uI_R, ip_uI_sh, ip_vr_some, Option.toList_some, List.nil_append, List.cons_append, List.length_nil, List.length_cons, ↓reduceIte, Nat.reduceLeDiff, Nat.zero_add, not_false_eq_true, Int32.reduceSub, Int32.reduceAdd, Int32.reduceMul, Int32.reduceToNatClampNeg, ip_ix_eq, Int32.reduceDiv, Int32.reduceOfNat, gS_23 hG, gS_24 hG, gS_25 hG, gR_23_0 hG, gR_23_1 hG, h4, h5, t, t2, gp, ip_uI_uI]

set_option maxHeartbeats 40000000 in
set_option maxRecDepth 100000 in
theorem s_55f_5 (X : ip_X) (M : ip_H) (K : Option Value → ip_H → Prop) (a : Int32) (h4 : M.2.1 23 4 = 5) (h5 : M.2.1 23 5 = 8) (hG : ip_G M) : ip_wp X 55 0 [.ref 23, .int a] [] M K = K (some (.ref (sdn 5))) (ip_uI (ip_uI (ip_uI M 23 4 6) 23 5 8) 25 5 a) := by
  have hG1 : ip_G (ip_uI (ip_uI M 23 4 6) 23 5 8) := hG
  have hG2 : ip_G (ip_uI (ip_uI (ip_uI M 23 4 6) 23 5 8) 25 5 a) := gG_uI _ _ _ _ (gG_uI _ _ _ _ (gG_uI _ _ _ _ hG))
  have t := fun K => s_59 X (ip_uI (ip_uI M 23 4 6) 23 5 8) K 6 8 (by decide) (by decide) rfl rfl hG1
  have t2 := fun K => s_59 X (ip_uI (ip_uI (ip_uI M 23 4 6) 23 5 8) 25 5 a) K 6 8 (by decide) (by decide) rfl rfl hG2
  have ep : (6 + 8 - 1) % 8 = 5 := by decide
  rw [ep] at t t2
  have gp := gR_24 hG (show 5 < 8 by decide)
  simp (config := { maxSteps := 10000000, maxDischargeDepth := 30, decide := true }) only [w55_0, w55_1, w55_4, w55_6, w55_9, w55_10, w55_11, w55_14, w55_15, w55_16, w55_18, w55_19, w55_22, w55_23_r, w55_23_i, w55_24, w55_27, w55_28, w55_29, w55_32, w55_33_r, w55_33_i, w55_34, w55_37, w55_38, w55_39, w55_42, w55_43, w55_46, w55_47, w55_50, w55_51, w55_52, w55_53, w55_56, w55_57, w55_60, w55_61, ↓ip_ka0, ↓ip_ki1, ip_uI_I, ip_uI_R, ip_uI_sh, ip_vr_some, Option.toList_some, List.nil_append, List.cons_append, List.length_nil, List.length_cons, ↓reduceIte, Nat.reduceLeDiff, Nat.zero_add, not_false_eq_true, Int32.reduceSub, Int32.reduceAdd, Int32.reduceMul, Int32.reduceToNatClampNeg, ip_ix_eq, Int32.reduceDiv, Int32.reduceOfNat, gS_23 hG, gS_24 hG, gS_25 hG, gR_23_0 hG, gR_23_1 hG, h4, h5, t, t2, gp, ip_uI_uI]

set_option maxHeartbeats 40000000 in
set_option maxRecDepth 100000 in
theorem s_55f_6 (X : ip_X) (M : ip_H) (K : Option Value → ip_H → Prop) (a : Int32) (h4 : M.2.1 23 4 = 6) (h5 : M.2.1 23 5 = 8) (hG : ip_G M) : ip_wp X 55 0 [.ref 23, .int a] [] M K = K (some (.ref (sdn 6))) (ip_uI (ip_uI (ip_uI M 23 4 7) 23 5 8) 25 6 a) := by
  have hG1 : ip_G (ip_uI (ip_uI M 23 4 7) 23 5 8) := hG
  have hG2 : ip_G (ip_uI (ip_uI (ip_uI M 23 4 7) 23 5 8) 25 6 a) := gG_uI _ _ _ _ (gG_uI _ _ _ _ (gG_uI _ _ _ _ hG))
  have t := fun K => s_59 X (ip_uI (ip_uI M 23 4 7) 23 5 8) K 7 8 (by decide) (by decide) rfl rfl hG1
  have t2 := fun K => s_59 X (ip_uI (ip_uI (ip_uI M 23 4 7) 23 5 8) 25 6 a) K 7 8 (by decide) (by decide) rfl rfl hG2
  have ep : (7 + 8 - 1) % 8 = 6 := by decide
  rw [ep] at t t2
  have gp := gR_24 hG (show 6 < 8 by decide)
  simp (config := { maxSteps := 10000000, maxDischargeDepth := 30, decide := true }) only [w55_0, w55_1, w55_4, w55_6, w55_9, w55_10, w55_11, w55_14, w55_15, w55_16, w55_18, w55_19, w55_22, w55_23_r, w55_23_i, w55_24, w55_27, w55_28, w55_29, w55_32, w55_33_r, w55_33_i, w55_34, w55_37, w55_38, w55_39, w55_42, w55_43, w55_46, w55_47, w55_50, w55_51, w55_52, w55_53, w55_56, w55_57, w55_60, w55_61, ↓ip_ka0, ↓ip_ki1, ip_uI_I, ip_uI_R, ip_uI_sh, ip_vr_some, Option.toList_some, List.nil_append, List.cons_append, List.length_nil, List.length_cons, ↓reduceIte, Nat.reduceLeDiff, Nat.zero_add, not_false_eq_true, Int32.reduceSub, Int32.reduceAdd, Int32.reduceMul, Int32.reduceToNatClampNeg, ip_ix_eq, Int32.reduceDiv, Int32.reduceOfNat, gS_23 hG, gS_24 hG, gS_25 hG, gR_23_0 hG, gR_23_1 hG, h4, h5, t, t2, gp, ip_uI_uI]

set_option maxHeartbeats 40000000 in
set_option maxRecDepth 100000 in
theorem s_55f_7 (X : ip_X) (M : ip_H) (K : Option Value → ip_H → Prop) (a : Int32) (h4 : M.2.1 23 4 = 7) (h5 : M.2.1 23 5 = 8) (hG : ip_G M) : ip_wp X 55 0 [.ref 23, .int a] [] M K = K (some (.ref (sdn 7))) (ip_uI (ip_uI (ip_uI M 23 4 0) 23 5 8) 25 7 a) := by
  have hG1 : ip_G (ip_uI (ip_uI M 23 4 0) 23 5 8) := hG
  have hG2 : ip_G (ip_uI (ip_uI (ip_uI M 23 4 0) 23 5 8) 25 7 a) := gG_uI _ _ _ _ (gG_uI _ _ _ _ (gG_uI _ _ _ _ hG))
  have t := fun K => s_59 X (ip_uI (ip_uI M 23 4 0) 23 5 8) K 0 8 (by decide) (by decide) rfl rfl hG1
  have t2 := fun K => s_59 X (ip_uI (ip_uI (ip_uI M 23 4 0) 23 5 8) 25 7 a) K 0 8 (by decide) (by decide) rfl rfl hG2
  have ep : (0 + 8 - 1) % 8 = 7 := by decide
  rw [ep] at t t2
  have gp := gR_24 hG (show 7 < 8 by decide)
  simp (config := { maxSteps := 10000000, maxDischargeDepth := 30, decide := true }) only [w55_0, w55_1, w55_4, w55_6, w55_9, w55_10, w55_11, w55_14, w55_15, w55_16, w55_18, w55_19, w55_22, w55_23_r, w55_23_i, w55_24, w55_27, w55_28, w55_29, w55_32, w55_33_r, w55_33_i, w55_34, w55_37, w55_38, w55_39, w55_42, w55_43, w55_46, w55_47, w55_50, w55_51, w55_52, w55_53, w55_56, w55_57, w55_60, w55_61, ↓ip_ka0, ↓ip_ki1, ip_uI_I, ip_uI_R, ip_uI_sh, ip_vr_some, Option.toList_some, List.nil_append, List.cons_append, List.length_nil, List.length_cons, ↓reduceIte, Nat.reduceLeDiff, Nat.zero_add, not_false_eq_true, Int32.reduceSub, Int32.reduceAdd, Int32.reduceMul, Int32.reduceToNatClampNeg, ip_ix_eq, Int32.reduceDiv, Int32.reduceOfNat, gS_23 hG, gS_24 hG, gS_25 hG, gR_23_0 hG, gR_23_1 hG, h4, h5, t, t2, gp, ip_uI_uI]

theorem s_55f (X : ip_X) (M : ip_H) (K : Option Value → ip_H → Prop) (o : Nat) (a : Int32) (ho : o < 8) (h4 : M.2.1 23 4 = Int32.ofNat o) (h5 : M.2.1 23 5 = 8) (hG : ip_G M) : ip_wp X 55 0 [.ref 23, .int a] [] M K = K (some (.ref (sdn o))) (ip_uI (ip_uI (ip_uI M 23 4 (Int32.ofNat ((o + 1) % 8))) 23 5 8) 25 o a) := by
  have hc : o = 0 ∨ o = 1 ∨ o = 2 ∨ o = 3 ∨ o = 4 ∨ o = 5 ∨ o = 6 ∨ o = 7 := by omega
  rcases hc with rfl | rfl | rfl | rfl | rfl | rfl | rfl | rfl
  · exact s_55f_0 X M K a h4 h5 hG
  · exact s_55f_1 X M K a h4 h5 hG
  · exact s_55f_2 X M K a h4 h5 hG
  · exact s_55f_3 X M K a h4 h5 hG
  · exact s_55f_4 X M K a h4 h5 hG
  · exact s_55f_5 X M K a h4 h5 hG
  · exact s_55f_6 X M K a h4 h5 hG
  · exact s_55f_7 X M K a h4 h5 hG
set_option maxHeartbeats 40000000 in
set_option maxRecDepth 100000 in
theorem s_105 (X : ip_X) (M : ip_H) (K : Option Value → ip_H → Prop) (v pv w pw : Nat) (hv : ip_sh M v = (0, 9, 2)) (rv : M.2.2.2 v 0 = some pv) (sv : ip_sh M pv = (1, 2, 120)) (hw : ip_sh M w = (0, 9, 2)) (rw' : M.2.2.2 w 0 = some pw) (sw : ip_sh M pw = (1, 2, 120)) (hn : (w = pv) = False) (hb : ∀ j, fits .byte (.int (M.2.1 pw j)) = true) : ip_wp X 105 0 [.ref v, .ref w] [] M K = K none (ip_uI (ip_cpI M pw pv 0 0 120) v 1 (M.2.1 w 1)) := by
  have t : ip_wp X 105 0 [.ref v, .ref w] [] M K = ip_wp X 105 15 [.ref v, .ref w] [.int 120, .int 0, .ref pv, .int 0, .ref pw] M K := by
    simp (config := { maxSteps := 10000000, maxDischargeDepth := 30, decide := true }) only [w105_0, w105_1, w105_4, w105_5, w105_6, w105_9, w105_10, w105_11, w105_14, ↓ip_ka0, ↓ip_ka1, ip_vr_some, Int32.reduceOfNat, hv, rv, sv, hw, rw', sw]
  have t2 := w105_15 X [.ref v, .ref w] [] M K 120 0 0 pw pv (by decide) (by rw [sv, sw]; decide) (by rw [sv, sw]; decide) (Or.inr (fun i _ => hb _))
  rw [if_neg (by rw [sw]; decide)] at t2
  rw [t, t2]
  simp (config := { maxSteps := 10000000, maxDischargeDepth := 30, decide := true }) only [w105_18, w105_19, w105_20, w105_23, w105_26, ↓ip_ka0, ↓ip_ka1, ↓reduceIte, Int32.reduceToNatClampNeg, ip_cpI_I, ip_cpI_sh, hv, hw, hn]
end
noncomputable section
-- PART c13yg03.rwalk2
-- equations of the instructions, by program counter
theorem ip_a76 (pc : Nat) : ip_at 76 pc = ip_c76.lookup pc := rfl
theorem ip_s76 : lk_s 0 ip_c76 = true := by decide +kernel
theorem ip_l76_0 : ip_d76_0.length = 24 := rfl
theorem ip_f76_0 {k pc : Nat} {e : ip_E} (h : ip_d76_0[k]? = some (pc, e)) : ip_c76.lookup pc = some e := lk_of ip_s76 (lk_apl h)
theorem ip_f76_1 {k pc : Nat} {e : ip_E} (h : ip_d76_1[k]? = some (pc, e)) : ip_c76.lookup pc = some e := lk_of ip_s76 (lk_app ip_l76_0 h)
theorem w76_0 (X : ip_X) (ls st : List Value) (M : ip_H) (K : Option Value → ip_H → Prop) : ip_wp X 76 0 ls st M K = ip_ka (ip_get ls 1) (fun x => ip_wp X 76 1 ls (x :: st) M K) := wp_aload_n ((ip_a76 0).trans (ip_f76_0 (k := 0) rfl))
theorem w76_1 (X : ip_X) (ls st : List Value) (M : ip_H) (K : Option Value → ip_H → Prop) : ip_wp X 76 1 ls st M K = ip_ka (ip_get ls 0) (fun x => ip_wp X 76 2 ls (x :: st) M K) := wp_aload_n ((ip_a76 1).trans (ip_f76_0 (k := 1) rfl))
theorem w76_2 (X : ip_X) (ls st : List Value) (M : ip_H) (K : Option Value → ip_H → Prop) (k : Nat) (h0 : (ip_sh M k).1 = 0) (h1 : (ip_sh M k).2.1 = 5) : ip_wp X 76 2 ls (.ref k :: st) M K = ip_wp X 76 5 ls (.int (M.2.1 k 0) :: st) M K := (wp_getI ((ip_a76 2).trans (ip_f76_0 (k := 2) rfl))).trans (if_pos ⟨h0, h1⟩)
theorem w76_5 (X : ip_X) (ls st : List Value) (M : ip_H) (K : Option Value → ip_H → Prop) : ip_wp X 76 5 ls st M K = ip_ka (ip_get ls 0) (fun x => ip_wp X 76 6 ls (x :: st) M K) := wp_aload_n ((ip_a76 5).trans (ip_f76_0 (k := 3) rfl))
theorem w76_6 (X : ip_X) (ls st : List Value) (M : ip_H) (K : Option Value → ip_H → Prop) (k : Nat) (h0 : (ip_sh M k).1 = 0) (h1 : (ip_sh M k).2.1 = 5) : ip_wp X 76 6 ls (.ref k :: st) M K = ip_wp X 76 9 ls (.int (M.2.1 k 1) :: st) M K := (wp_getI ((ip_a76 6).trans (ip_f76_0 (k := 4) rfl))).trans (if_pos ⟨h0, h1⟩)
theorem w76_9 (X : ip_X) (ls st : List Value) (M : ip_H) (K : Option Value → ip_H → Prop) : ip_wp X 76 9 ls st M K = ip_ka (ip_get ls 0) (fun x => ip_wp X 76 10 ls (x :: st) M K) := wp_aload_n ((ip_a76 9).trans (ip_f76_0 (k := 5) rfl))
theorem w76_10 (X : ip_X) (ls st : List Value) (M : ip_H) (K : Option Value → ip_H → Prop) (k : Nat) (h0 : (ip_sh M k).1 = 0) (h1 : (ip_sh M k).2.1 = 5) : ip_wp X 76 10 ls (.ref k :: st) M K = ip_wp X 76 13 ls (.int (M.2.1 k 2) :: st) M K := (wp_getI ((ip_a76 10).trans (ip_f76_0 (k := 6) rfl))).trans (if_pos ⟨h0, h1⟩)
theorem w76_13 (X : ip_X) (ls st : List Value) (M : ip_H) (K : Option Value → ip_H → Prop) (k : Nat) (x0 : Int32) (x1 : Int32) (x2 : Int32) (h0 : st.length ≤ 4) (h1 : (ip_sh M k).1 = 0) (h2 : (ip_sh M k).2.1 = 2) : ip_wp X 76 13 ls (.int x2 :: .int x1 :: .int x0 :: .ref k :: st) M K = ip_wp X 42 0 [.ref k, .int x0, .int x1, .int x2] [] M (fun r M1 => ip_wp X 76 16 ls (r.toList ++ st) M1 K) := (wp_callV1_4 ((ip_a76 13).trans (ip_f76_0 (k := 7) rfl)) ⟨h0, by exact Nat.le_of_ble_eq_true rfl, h1, h2⟩)
theorem w76_16 (X : ip_X) (ls st : List Value) (M : ip_H) (K : Option Value → ip_H → Prop) : ip_wp X 76 16 ls st M K = ip_wp X 76 17 ls (.int 0 :: st) M K := wp_iconst ((ip_a76 16).trans (ip_f76_0 (k := 8) rfl))
theorem w76_17 (X : ip_X) (ls st : List Value) (M : ip_H) (K : Option Value → ip_H → Prop) (x : Int32) : ip_wp X 76 17 ls (.int x :: st) M K = ip_wp X 76 19 (ip_set1 ls 5 (.int x)) st M K := wp_istore ((ip_a76 17).trans (ip_f76_0 (k := 9) rfl))
theorem w76_19 (X : ip_X) (ls st : List Value) (M : ip_H) (K : Option Value → ip_H → Prop) : ip_wp X 76 19 ls st M K = ip_ki (ip_get ls 5) (fun x => ip_wp X 76 21 ls (.int x :: st) M K) := wp_iload ((ip_a76 19).trans (ip_f76_0 (k := 10) rfl))
theorem w76_21 (X : ip_X) (ls st : List Value) (M : ip_H) (K : Option Value → ip_H → Prop) : ip_wp X 76 21 ls st M K = ip_ka (ip_get ls 2) (fun x => ip_wp X 76 22 ls (x :: st) M K) := wp_aload_n ((ip_a76 21).trans (ip_f76_0 (k := 11) rfl))
theorem w76_22 (X : ip_X) (ls st : List Value) (M : ip_H) (K : Option Value → ip_H → Prop) (k : Nat) (h0 : (ip_sh M k).1 = 1) : ip_wp X 76 22 ls (.ref k :: st) M K = ip_wp X 76 23 ls (.int (Int32.ofNat (ip_sh M k).2.2) :: st) M K := (wp_alen ((ip_a76 22).trans (ip_f76_0 (k := 12) rfl))).trans (if_pos h0)
theorem w76_23 (X : ip_X) (ls st : List Value) (M : ip_H) (K : Option Value → ip_H → Prop) (x q : Int32) : ip_wp X 76 23 ls (.int q :: .int x :: st) M K = if x < q then ip_wp X 76 26 ls st M K else ip_wp X 76 47 ls st M K := wp_if_icmp_ge ((ip_a76 23).trans (ip_f76_0 (k := 13) rfl))
theorem w76_26 (X : ip_X) (ls st : List Value) (M : ip_H) (K : Option Value → ip_H → Prop) : ip_wp X 76 26 ls st M K = ip_ka (ip_get ls 2) (fun x => ip_wp X 76 27 ls (x :: st) M K) := wp_aload_n ((ip_a76 26).trans (ip_f76_0 (k := 14) rfl))
theorem w76_27 (X : ip_X) (ls st : List Value) (M : ip_H) (K : Option Value → ip_H → Prop) : ip_wp X 76 27 ls st M K = ip_ki (ip_get ls 5) (fun x => ip_wp X 76 29 ls (.int x :: st) M K) := wp_iload ((ip_a76 27).trans (ip_f76_0 (k := 15) rfl))
theorem w76_29 (X : ip_X) (ls st : List Value) (M : ip_H) (K : Option Value → ip_H → Prop) (i : Int32) (k : Nat) (h0 : (ip_sh M k).1 = 1) (h1 : 4 ≤ (ip_sh M k).2.1) (h2 : ip_ix i (ip_sh M k).2.2 = true) : ip_wp X 76 29 ls (.int i :: .ref k :: st) M K = ip_wp X 76 30 ls (ip_vr (M.2.2.2 k i.toNatClampNeg) :: st) M K := (wp_aaload ((ip_a76 29).trans (ip_f76_0 (k := 16) rfl))).trans (if_pos ⟨h0, h1, h2⟩)
theorem w76_30 (X : ip_X) (ls st : List Value) (M : ip_H) (K : Option Value → ip_H → Prop) : ip_wp X 76 30 ls st M K = ip_ka (ip_get ls 0) (fun x => ip_wp X 76 31 ls (x :: st) M K) := wp_aload_n ((ip_a76 30).trans (ip_f76_0 (k := 17) rfl))
theorem w76_31 (X : ip_X) (ls st : List Value) (M : ip_H) (K : Option Value → ip_H → Prop) (k : Nat) (h0 : (ip_sh M k).1 = 0) (h1 : (ip_sh M k).2.1 = 5) : ip_wp X 76 31 ls (.ref k :: st) M K = ip_wp X 76 34 ls (ip_vr (M.2.2.2 k 3) :: st) M K := (wp_getR ((ip_a76 31).trans (ip_f76_0 (k := 18) rfl))).trans (if_pos ⟨h0, h1⟩)
theorem w76_34 (X : ip_X) (ls st : List Value) (M : ip_H) (K : Option Value → ip_H → Prop) : ip_wp X 76 34 ls st M K = ip_wp X 76 35 ls (.int 4 :: st) M K := wp_iconst ((ip_a76 34).trans (ip_f76_0 (k := 19) rfl))
theorem w76_35 (X : ip_X) (ls st : List Value) (M : ip_H) (K : Option Value → ip_H → Prop) : ip_wp X 76 35 ls st M K = ip_ki (ip_get ls 5) (fun x => ip_wp X 76 37 ls (.int x :: st) M K) := wp_iload ((ip_a76 35).trans (ip_f76_0 (k := 20) rfl))
theorem w76_37 (X : ip_X) (ls st : List Value) (M : ip_H) (K : Option Value → ip_H → Prop) (x q : Int32) : ip_wp X 76 37 ls (.int q :: .int x :: st) M K = ip_wp X 76 38 ls (.int (x * q) :: st) M K := wp_imul ((ip_a76 37).trans (ip_f76_0 (k := 21) rfl))
theorem w76_38 (X : ip_X) (ls st : List Value) (M : ip_H) (K : Option Value → ip_H → Prop) (k : Nat) (x0 : Nat) (x1 : Int32) (h0 : st.length ≤ 4) (h1 : (ip_sh M k).1 = 0) (h2 : (ip_sh M k).2.1 = 8) : ip_wp X 76 38 ls (.int x1 :: .ref x0 :: .ref k :: st) M K = ip_wp X 96 0 [.ref k, .ref x0, .int x1] [] M (fun r M1 => ip_wp X 76 41 ls (r.toList ++ st) M1 K) := (wp_callV1_3 ((ip_a76 38).trans (ip_f76_0 (k := 22) rfl)) ⟨h0, by exact Nat.le_of_ble_eq_true rfl, h1, h2⟩)
theorem w76_41 (X : ip_X) (ls st : List Value) (M : ip_H) (K : Option Value → ip_H → Prop) : ip_wp X 76 41 ls st M K = ip_ki (ip_get ls 5) (fun x => ip_wp X 76 44 (ip_set1 ls 5 (.int (x + 1))) st M K) := wp_iinc ((ip_a76 41).trans (ip_f76_0 (k := 23) rfl))
theorem w76_44 (X : ip_X) (ls st : List Value) (M : ip_H) (K : Option Value → ip_H → Prop) : ip_wp X 76 44 ls st M K = ip_wp X 76 19 ls st M K := wp_goto ((ip_a76 44).trans (ip_f76_1 (k := 0) rfl))
theorem w76_47 (X : ip_X) (ls st : List Value) (M : ip_H) (K : Option Value → ip_H → Prop) : ip_wp X 76 47 ls st M K = ip_ka (ip_get ls 3) (fun x => ip_wp X 76 48 ls (x :: st) M K) := wp_aload_n ((ip_a76 47).trans (ip_f76_1 (k := 1) rfl))
theorem w76_48 (X : ip_X) (ls st : List Value) (M : ip_H) (K : Option Value → ip_H → Prop) : ip_wp X 76 48 ls st M K = ip_ka (ip_get ls 0) (fun x => ip_wp X 76 49 ls (x :: st) M K) := wp_aload_n ((ip_a76 48).trans (ip_f76_1 (k := 2) rfl))
theorem w76_49 (X : ip_X) (ls st : List Value) (M : ip_H) (K : Option Value → ip_H → Prop) (k : Nat) (h0 : (ip_sh M k).1 = 0) (h1 : (ip_sh M k).2.1 = 5) : ip_wp X 76 49 ls (.ref k :: st) M K = ip_wp X 76 52 ls (ip_vr (M.2.2.2 k 4) :: st) M K := (wp_getR ((ip_a76 49).trans (ip_f76_1 (k := 3) rfl))).trans (if_pos ⟨h0, h1⟩)
theorem w76_52 (X : ip_X) (ls st : List Value) (M : ip_H) (K : Option Value → ip_H → Prop) (k : Nat) (x0 : Nat) (h0 : st.length ≤ 4) (h1 : (ip_sh M k).1 = 0) (h2 : (ip_sh M k).2.1 = 9) : ip_wp X 76 52 ls (.ref x0 :: .ref k :: st) M K = ip_wp X 105 0 [.ref k, .ref x0] [] M (fun r M1 => ip_wp X 76 55 ls (r.toList ++ st) M1 K) := (wp_callV1_2 ((ip_a76 52).trans (ip_f76_1 (k := 4) rfl)) ⟨h0, by exact Nat.le_of_ble_eq_true rfl, h1, h2⟩)
theorem w76_55 (X : ip_X) (ls st : List Value) (M : ip_H) (K : Option Value → ip_H → Prop) : ip_wp X 76 55 ls st M K = ip_ka (ip_get ls 4) (fun x => ip_wp X 76 57 ls (x :: st) M K) := wp_aload ((ip_a76 55).trans (ip_f76_1 (k := 5) rfl))
theorem w76_57 (X : ip_X) (ls st : List Value) (M : ip_H) (K : Option Value → ip_H → Prop) (k : Nat) (h0 : st.length ≤ 4) (h1 : (ip_sh M k).1 = 0) (h2 : (ip_sh M k).2.1 = 1) : ip_wp X 76 57 ls (.ref k :: st) M K = ip_wp X 21 0 [.ref k] [] M (fun r M1 => ip_wp X 76 60 ls (r.toList ++ st) M1 K) := (wp_callV1_1 ((ip_a76 57).trans (ip_f76_1 (k := 6) rfl)) ⟨h0, by exact Nat.le_of_ble_eq_true rfl, h1, h2⟩)
theorem w76_60 (X : ip_X) (ls st : List Value) (M : ip_H) (K : Option Value → ip_H → Prop) : ip_wp X 76 60 ls st M K = ip_ka (ip_get ls 0) (fun x => ip_wp X 76 61 ls (x :: st) M K) := wp_aload_n ((ip_a76 60).trans (ip_f76_1 (k := 7) rfl))
theorem w76_61 (X : ip_X) (ls st : List Value) (M : ip_H) (K : Option Value → ip_H → Prop) (k : Nat) (h0 : (ip_sh M k).1 = 0) (h1 : (ip_sh M k).2.1 = 5) : ip_wp X 76 61 ls (.ref k :: st) M K = ip_wp X 76 64 ls (.int (M.2.1 k 6) :: st) M K := (wp_getI ((ip_a76 61).trans (ip_f76_1 (k := 8) rfl))).trans (if_pos ⟨h0, h1⟩)
theorem w76_64 (X : ip_X) (ls st : List Value) (M : ip_H) (K : Option Value → ip_H → Prop) : ip_wp X 76 64 ls st M K = ip_wp X 76 65 ls (.int (-1) :: st) M K := wp_iconst ((ip_a76 64).trans (ip_f76_1 (k := 9) rfl))
theorem w76_65 (X : ip_X) (ls st : List Value) (M : ip_H) (K : Option Value → ip_H → Prop) (x q : Int32) : ip_wp X 76 65 ls (.int q :: .int x :: st) M K = if x = q then ip_wp X 76 86 ls st M K else ip_wp X 76 68 ls st M K := wp_if_icmp_eq ((ip_a76 65).trans (ip_f76_1 (k := 10) rfl))
theorem w76_68 (X : ip_X) (ls st : List Value) (M : ip_H) (K : Option Value → ip_H → Prop) : ip_wp X 76 68 ls st M K = ip_ka (ip_get ls 4) (fun x => ip_wp X 76 70 ls (x :: st) M K) := wp_aload ((ip_a76 68).trans (ip_f76_1 (k := 11) rfl))
theorem w76_70 (X : ip_X) (ls st : List Value) (M : ip_H) (K : Option Value → ip_H → Prop) : ip_wp X 76 70 ls st M K = ip_ka (ip_get ls 1) (fun x => ip_wp X 76 71 ls (x :: st) M K) := wp_aload_n ((ip_a76 70).trans (ip_f76_1 (k := 12) rfl))
theorem w76_71 (X : ip_X) (ls st : List Value) (M : ip_H) (K : Option Value → ip_H → Prop) : ip_wp X 76 71 ls st M K = ip_ka (ip_get ls 0) (fun x => ip_wp X 76 72 ls (x :: st) M K) := wp_aload_n ((ip_a76 71).trans (ip_f76_1 (k := 13) rfl))
theorem w76_72 (X : ip_X) (ls st : List Value) (M : ip_H) (K : Option Value → ip_H → Prop) (k : Nat) (h0 : (ip_sh M k).1 = 0) (h1 : (ip_sh M k).2.1 = 5) : ip_wp X 76 72 ls (.ref k :: st) M K = ip_wp X 76 75 ls (ip_vr (M.2.2.2 k 5) :: st) M K := (wp_getR ((ip_a76 72).trans (ip_f76_1 (k := 14) rfl))).trans (if_pos ⟨h0, h1⟩)
theorem w76_75 (X : ip_X) (ls st : List Value) (M : ip_H) (K : Option Value → ip_H → Prop) : ip_wp X 76 75 ls st M K = ip_ka (ip_get ls 0) (fun x => ip_wp X 76 76 ls (x :: st) M K) := wp_aload_n ((ip_a76 75).trans (ip_f76_1 (k := 15) rfl))
theorem w76_76 (X : ip_X) (ls st : List Value) (M : ip_H) (K : Option Value → ip_H → Prop) (k : Nat) (h0 : (ip_sh M k).1 = 0) (h1 : (ip_sh M k).2.1 = 5) : ip_wp X 76 76 ls (.ref k :: st) M K = ip_wp X 76 79 ls (.int (M.2.1 k 6) :: st) M K := (wp_getI ((ip_a76 76).trans (ip_f76_1 (k := 16) rfl))).trans (if_pos ⟨h0, h1⟩)
theorem w76_79 (X : ip_X) (ls st : List Value) (M : ip_H) (K : Option Value → ip_H → Prop) : ip_wp X 76 79 ls st M K = ip_ka (ip_get ls 0) (fun x => ip_wp X 76 80 ls (x :: st) M K) := wp_aload_n ((ip_a76 79).trans (ip_f76_1 (k := 17) rfl))
theorem w76_80 (X : ip_X) (ls st : List Value) (M : ip_H) (K : Option Value → ip_H → Prop) (k : Nat) (h0 : (ip_sh M k).1 = 0) (h1 : (ip_sh M k).2.1 = 5) : ip_wp X 76 80 ls (.ref k :: st) M K = ip_wp X 76 83 ls (.int (M.2.1 k 7) :: st) M K := (wp_getI ((ip_a76 80).trans (ip_f76_1 (k := 18) rfl))).trans (if_pos ⟨h0, h1⟩)
theorem w76_83 (X : ip_X) (ls st : List Value) (M : ip_H) (K : Option Value → ip_H → Prop) (k : Nat) (x0 : Nat) (x1 : Nat) (x2 : Int32) (x3 : Int32) (h0 : st.length ≤ 4) (h1 : (ip_sh M k).1 = 0) (h2 : (ip_sh M k).2.1 = 1) : ip_wp X 76 83 ls (.int x3 :: .int x2 :: .ref x1 :: .ref x0 :: .ref k :: st) M K = ip_wp X 22 0 [.ref k, .ref x0, .ref x1, .int x2, .int x3, .retAddr 1] [] M (fun r M1 => ip_wp X 76 86 ls (r.toList ++ st) M1 K) := (wp_callV1_5 ((ip_a76 83).trans (ip_f76_1 (k := 19) rfl)) ⟨h0, by exact Nat.le_of_ble_eq_true rfl, h1, h2⟩)
theorem w76_86 (X : ip_X) (ls : List Value) (M : ip_H) (K : Option Value → ip_H → Prop) : ip_wp X 76 86 ls [] M K = K none M := wp_vret ((ip_a76 86).trans (ip_f76_1 (k := 20) rfl))
end
noncomputable section
-- PART c13yg04.reop
-- A COURSE OPENED AGAIN, over a row
theorem q_st_of {N : Nat → Int32} {P : Nat → Int64} (g : rw_ok N) (q : q_ok N P) (h3 : ¬ N 3 = 0) {j : Nat} (hj : j ≤ r_k N) : q_st N j := by
  have c := g.2.1 h3
  have n := g.2.2.2.2.2.2 h3 j hj
  have l := (q.2 h3).2.2.2.2 j hj
  exact ⟨(c.2.2 j hj).1, (c.2.2 j hj).2, n.1, n.2, l.1, l.2⟩
theorem q_n_of {N : Nat → Int32} {j : Nat} (h : q_s N j) : q_n N j = true := by
  obtain ⟨h1, h2, h3, h4, h5, h6, h7, h8, h9⟩ := h
  rw [h2, h3] at h9
  unfold q_n
  rw [h7, h8, h9]
  rfl
theorem q_P_ge {N : Nat → Int32} {P : Nat → Int64} (g : rw_ok N) (q : q_ok N P) (h3 : ¬ N 3 = 0) {j : Nat} (hj : j ≤ r_k N) : ∀ x, x < 9 → 0 ≤ (q_P N j x).toInt := q_P_nn j (fun i hi => by
  have s := (q.2 h3).2.1 i (by omega)
  have st := q_st_of g q h3 (j := i) (by omega)
  rw [s.2.1, s.2.2.1]
  exact ⟨q_fl_nn g.1 st.1 st.2.2.1, q_fl_nn g.1 st.2.1 st.2.2.2.1⟩)

set_option maxHeartbeats 40000000 in
set_option maxRecDepth 100000 in
theorem j_reop_l (X : ip_X) (K : Option Value → ip_H → Prop) (N : Nat → Int32) (P : Nat → Int64) (A : Nat) (w : Int32) (g : rw_ok N) (q : q_ok N P) (h3 : ¬ N 3 = 0) : ∀ (n k : Nat) (M : ip_H), k + n = r_k N → ip_G M → coj6 M N k → (∀ x, x < 3 → M.2.1 1 x = N x) → (∀ M2, tf 6 M M2 → coj6 M2 N (r_k N) → K none M2) → ip_wp X 22 35 [.ref 6, .ref 1, .ref A, .int w, .int (Int32.ofNat (r_k N)), .int (Int32.ofNat k)] [] M K := by
  have r60 : r_k N ≤ 60 := (g.2.1 h3).2.1
  intro n
  induction n with
  | zero =>
    intro k M hk hG hc hp h
    have e : k = r_k N := by omega
    have l0 : (Int32.ofNat k < Int32.ofNat (r_k N)) = False := by rw [ip_nlt _ _ (by omega) (by omega)]; exact eq_false (by omega)
    have hh := h M (tf_r 6 M) (e ▸ hc)
    simp (config := { maxSteps := 10000000, maxDischargeDepth := 30, decide := true }) only [w22_35, w22_37, w22_39, w22_67, ↓ip_ki4, ↓ip_ki5, ↓reduceIte, l0]
    exact hh
  | succ n ih =>
    intro k M hk hG hc hp h
    have l0 : (Int32.ofNat k < Int32.ofNat (r_k N)) = True := by rw [ip_nlt _ _ (by omega) (by omega)]; exact eq_true (by omega)
    have l1 : (Int32.ofNat k < 60) = True := by rw [show (60 : Int32) = Int32.ofNat 60 from rfl, ip_nlt _ _ (by omega) (by decide)]; exact eq_true (by omega)
    have e1 : Int32.ofNat k + 1 = Int32.ofNat (k + 1) := ip_oa k 1
    have sk := (q.2 h3).2.1 k (by omega)
    have st := q_st_of g q h3 (j := k) (by omega)
    simp (config := { maxSteps := 10000000, maxDischargeDepth := 30, decide := true }) only [w22_35, w22_37, w22_39, w22_42, w22_44, w22_46, w22_49, w22_50, w22_51, ↓ip_ka0, ↓ip_ka1, ↓ip_ki4, ↓ip_ki5, List.length_nil, ↓reduceIte, Nat.zero_le, gS_6 hG, l0, l1]
    refine j_prep6 X M _ N k (by omega) hG hc hp g.1 (q.2 h3).1 st (q_P_ge g q h3 (by omega)) (fun e => absurd (sk.1.symm.trans e) (by decide)) (fun _ e => by omega) (fun _ _ e => absurd ((q_n_of sk).symm.trans e) (by decide)) ?_
    intro _ _ _ M1 p1 cu cw d12 d13 d14 d9
    have hG1 := pf_G p1 hG
    simp (config := { maxSteps := 10000000, maxDischargeDepth := 30, decide := true }) only [w22_54, w22_57, w22_58, ↓ip_ka0, Option.toList_some, List.nil_append, List.cons_append, List.length_nil, ↓reduceIte, Nat.zero_le, gS_6 hG1]
    refine j_take6 X M M1 _ N k (by omega) hG hc p1 g.1 st sk cu cw d12 d13 d14 d9 ?_
    intro M2 t2 c2
    have hG2 := tf_G t2 hG
    simp (config := { maxSteps := 10000000, maxDischargeDepth := 30, decide := true }) only [w22_61, w22_64, ↓ip_ki5, ip_get_0, ip_get_s, ip_set1, ip_clr_s, ip_cat_i, List.set_cons_zero, List.set_cons_succ, Option.toList_none, List.nil_append, ↓reduceIte, Nat.reduceEqDiff, e1]
    exact ih (k + 1) M2 (by omega) hG2 c2 (fun x hx => (t2.2.2.1 1 x (by omega) (by omega) (by omega)).trans (hp x hx)) (fun M3 t3 c3 => h M3 (tf_t t2 t3) c3)

set_option maxHeartbeats 40000000 in
set_option maxRecDepth 100000 in
theorem j_reop (X : ip_X) (M : ip_H) (K : Option Value → ip_H → Prop) (N : Nat → Int32) (P : Nat → Int64) (A : Nat) (w s : Int32) (g : rw_ok N) (q : q_ok N P) (h3 : ¬ N 3 = 0) (sA : ip_sh M A = (1, 0, 8)) (hA : ∀ x, x < 8 → M.2.1 A x = N (153 + x)) (hp : ∀ x, x < 3 → M.2.1 1 x = N x) (hw : w = N 4) (hs : s = N 5) (hG : ip_G M) (h : ∀ M2, tf 6 M M2 → coj6 M2 N (r_k N) → K none M2) : ip_wp X 22 0 [.ref 6, .ref 1, .ref A, .int w, .int s, .retAddr 1] [] M K := by
  have c := g.2.1 h3
  have st := q_st_of g q h3 (j := 0) (by omega)
  rw [hs, c.1]
  have e1 : qi (M.2.1 A) 0 = qi N 153 := qi_of (fun x hx => by rw [Nat.zero_add]; exact hA x (by omega))
  have e2 : qi (M.2.1 A) 4 = qi N 157 := qi_of (fun x hx => (hA (4 + x) (by omega)).trans (congrArg N (by omega)))
  have t1 := fun K => s_96 X M K 15 A 8 0 (gS_15 hG) sA (by decide) (by decide)
  have hM1 : ip_G (k_v M 15 (qi (M.2.1 A) 0)) := gG_kv _ _ _ hG
  have t2 := fun K => s_96 X (k_v M 15 (qi (M.2.1 A) 0)) K 16 A 8 4 (gS_16 hM1) sA (by decide) (by decide)
  have x0 : Int32.ofNat 0 = 0 := rfl
  have x4 : Int32.ofNat 4 = 4 := rfl
  rw [x0] at t1
  rw [x4] at t2
  have sA2 : ip_sh (k_v M 15 (qi (M.2.1 A) 0)) A = (1, 0, 8) := sA
  simp (config := { maxSteps := 10000000, maxDischargeDepth := 30, decide := true }) only [w22_0, w22_1, w22_4, w22_5, w22_6, w22_9, w22_10, w22_13, w22_14, w22_15, w22_18, w22_19, w22_20, w22_21, w22_24, w22_25, w22_28, w22_29, ↓ip_ka0, ↓ip_ka1, ↓ip_ka2, ↓ip_ki3, ip_vr_some, Option.toList_none, List.nil_append, List.length_nil, Nat.zero_le, t1, t2, gS_6 hG, gS_15 hG, gS_16 hG, gR_6_10 hG, gR_6_11 hG, sA, k_v_1, k_v_I, k_v_R, k_v_sh, gG_kv]
  have vz : z4 N 153 (qi N 153) := ⟨(Int32.ofInt_toInt _).symm, (Int32.ofInt_toInt _).symm, (Int32.ofInt_toInt _).symm, (Int32.ofInt_toInt _).symm⟩
  have vy : z4 N 157 (qi N 157) := ⟨(Int32.ofInt_toInt _).symm, (Int32.ofInt_toInt _).symm, (Int32.ofInt_toInt _).symm, (Int32.ofInt_toInt _).symm⟩
  have wz : c_v4 (qi N 153) := st.1
  have wy : c_v4 (qi N 157) := st.2.1
  have hMG : ip_G (k_v (k_v M 15 (qi (M.2.1 A) 0)) 16 (qi (M.2.1 A) 4)) := gG_kv _ _ _ (gG_kv _ _ _ hG)
  have hp2 : ∀ x, x < 3 → (k_v (k_v M 15 (qi (M.2.1 A) 0)) 16 (qi (M.2.1 A) 4)).2.1 1 x = N x := hp
  have cz : cv (k_v (k_v M 15 (qi (M.2.1 A) 0)) 16 (qi (M.2.1 A) 4)) 15 (qi N 153) := cv_kv_ne (by decide) (by rw [e1]; exact cv_kv _ _ _)
  have cy : cv (k_v (k_v M 15 (qi (M.2.1 A) 0)) 16 (qi (M.2.1 A) 4)) 16 (qi N 157) := by rw [← e2]; exact cv_kv _ _ _
  have tf0 : tf 6 M (k_v (k_v M 15 (qi (M.2.1 A) 0)) 16 (qi (M.2.1 A) 4)) := tf_kv (tf_kv (tf_r 6 M) (by omega)) (by omega)
  refine j_opens6 X _ _ w (qi N 153) (qi N 157) cz cy N hp2 vz vy wz wy hw hMG ?_
  intro M2 t0 c0
  have hG2 := tf_G t0 hMG
  simp (config := { maxSteps := 10000000, maxDischargeDepth := 30, decide := true }) only [w22_32, w22_33, ip_get_0, ip_get_s, ip_set1, ip_clr_s, ip_cat_i, List.set_cons_zero, List.set_cons_succ, Option.toList_none, List.nil_append, ↓reduceIte, Nat.reduceEqDiff]
  exact j_reop_l X K N P A w g q h3 (r_k N) 0 M2 (by omega) hG2 c0 (fun x hx => (t0.2.2.1 1 x (by omega) (by omega) (by omega)).trans (hp2 x hx)) (fun M3 t3 c3 => h M3 (tf_t tf0 (tf_t t0 t3)) c3)
end
noncomputable section
-- PART c13yg05.rest
-- HOW ALL STANDS: taken, brought back (any stand)
/-- a stand's cells -/
def sds (M : ip_H) (b : Nat) : Prop := ip_sh M b = (0, 5, 8) ∧ ip_sh M (b + 1) = (1, 0, 24) ∧ ip_sh M (b + 2) = (0, 9, 2) ∧ ip_sh M (b + 3) = (1, 2, 120) ∧ ip_sh M (b + 4) = (1, 0, 8) ∧ M.2.2.2 b 3 = some (b + 1) ∧ M.2.2.2 b 4 = some (b + 2) ∧ M.2.2.2 b 5 = some (b + 4) ∧ M.2.2.2 (b + 2) 0 = some (b + 3)
theorem sds_G {M : ip_H} (hG : ip_G M) {k : Nat} (hk : k < 10) : sds M (sdn k) := by
  have hc : k = 0 ∨ k = 1 ∨ k = 2 ∨ k = 3 ∨ k = 4 ∨ k = 5 ∨ k = 6 ∨ k = 7 ∨ k = 8 ∨ k = 9 := by omega
  rcases hc with rfl | rfl | rfl | rfl | rfl | rfl | rfl | rfl | rfl | rfl
  · exact ⟨gS_28 hG, gS_29 hG, gS_30 hG, gS_31 hG, gS_32 hG, gR_28_3 hG, gR_28_4 hG, gR_28_5 hG, gR_30_0 hG⟩
  · exact ⟨gS_33 hG, gS_34 hG, gS_35 hG, gS_36 hG, gS_37 hG, gR_33_3 hG, gR_33_4 hG, gR_33_5 hG, gR_35_0 hG⟩
  · exact ⟨gS_38 hG, gS_39 hG, gS_40 hG, gS_41 hG, gS_42 hG, gR_38_3 hG, gR_38_4 hG, gR_38_5 hG, gR_40_0 hG⟩
  · exact ⟨gS_43 hG, gS_44 hG, gS_45 hG, gS_46 hG, gS_47 hG, gR_43_3 hG, gR_43_4 hG, gR_43_5 hG, gR_45_0 hG⟩
  · exact ⟨gS_48 hG, gS_49 hG, gS_50 hG, gS_51 hG, gS_52 hG, gR_48_3 hG, gR_48_4 hG, gR_48_5 hG, gR_50_0 hG⟩
  · exact ⟨gS_53 hG, gS_54 hG, gS_55 hG, gS_56 hG, gS_57 hG, gR_53_3 hG, gR_53_4 hG, gR_53_5 hG, gR_55_0 hG⟩
  · exact ⟨gS_58 hG, gS_59 hG, gS_60 hG, gS_61 hG, gS_62 hG, gR_58_3 hG, gR_58_4 hG, gR_58_5 hG, gR_60_0 hG⟩
  · exact ⟨gS_63 hG, gS_64 hG, gS_65 hG, gS_66 hG, gS_67 hG, gR_63_3 hG, gR_63_4 hG, gR_63_5 hG, gR_65_0 hG⟩
  · exact ⟨gS_68 hG, gS_69 hG, gS_70 hG, gS_71 hG, gS_72 hG, gR_68_3 hG, gR_68_4 hG, gR_68_5 hG, gR_70_0 hG⟩
  · exact ⟨gS_73 hG, gS_74 hG, gS_75 hG, gS_76 hG, gS_77 hG, gR_73_3 hG, gR_73_4 hG, gR_73_5 hG, gR_75_0 hG⟩
theorem sdn_b {k : Nat} (hk : k < 10) : 28 ≤ sdn k ∧ sdn k < 78 := by unfold sdn; omega

theorem nb_1_0 {b : Nat} (hb : 28 ≤ b ∧ b < 78) : (1 = b) = False := eq_false (by omega)
theorem nc_1_0 {b : Nat} (hb : 28 ≤ b ∧ b < 78) : (b = 1) = False := eq_false (by omega)
theorem nb_6_0 {b : Nat} (hb : 28 ≤ b ∧ b < 78) : (6 = b) = False := eq_false (by omega)
theorem nb_17_3 {b : Nat} (hb : 28 ≤ b ∧ b < 78) : (17 = b + 3) = False := eq_false (by omega)
theorem nc_18_2 {b : Nat} (hb : 28 ≤ b ∧ b < 78) : (b + 2 = 18) = False := eq_false (by omega)
/-- one cell's ints alone are other -/
def ofr (k : Nat) (M E : ip_H) : Prop := E.1 = M.1 ∧ E.2.2.2 = M.2.2.2 ∧ E.2.2.1 = M.2.2.1 ∧ ∀ a, ¬ a = k → E.2.1 a = M.2.1 a
theorem of_r (k : Nat) (M : ip_H) : ofr k M M := ⟨rfl, rfl, rfl, fun _ _ => rfl⟩
theorem of_t {k : Nat} {M M1 M2 : ip_H} (h : ofr k M M1) (g : ofr k M1 M2) : ofr k M M2 := ⟨g.1.trans h.1, g.2.1.trans h.2.1, g.2.2.1.trans h.2.2.1, fun a q => (g.2.2.2 a q).trans (h.2.2.2 a q)⟩
theorem of_G {k : Nat} {M E : ip_H} (h : ofr k M E) (hG : ip_G M) : ip_G E := ⟨h.1.trans hG.1, fun k j a b => by rw [h.2.1]; exact hG.2 k j a b⟩
theorem of_sv (M : ip_H) (A j : Nat) (z : Int × Int × Int × Int) : ofr A M (k_sv M A j z) := ⟨rfl, rfl, rfl, fun a ha => k_sv_o M A j z a ha⟩
theorem sds_of {M E : ip_H} {b : Nat} (e1 : E.1 = M.1) (e2 : E.2.2.2 = M.2.2.2) (h : sds M b) : sds E b := by
  unfold sds
  rw [sh_of e1, sh_of e1, sh_of e1, sh_of e1, sh_of e1, e2]
  exact h
set_option maxHeartbeats 40000000 in
set_option maxRecDepth 100000 in
theorem o_75l (X : ip_X) (K : Option Value → ip_H → Prop) (b : Nat) (Z : Nat → Int × Int × Int × Int) (hb : 28 ≤ b ∧ b < 78) : ∀ (n i : Nat) (M : ip_H), i + n = 6 → ip_G M → sds M b → (∀ k, k < 6 → cv M (102 + k) (Z k)) → (∀ E, ofr (b + 1) M E → (∀ k, i ≤ k → k < 6 → z4 (E.2.1 (b + 1)) (4 * k) (Z k)) → (∀ x, x < 4 * i → E.2.1 (b + 1) x = M.2.1 (b + 1) x) → ip_wp X 75 55 [.ref b, .ref 1, .ref 5, .ref 17, .ref 6, .int 6] [] E K) → ip_wp X 75 27 [.ref b, .ref 1, .ref 5, .ref 17, .ref 6, .int (Int32.ofNat i)] [] M K := by
  intro n
  induction n with
  | zero =>
    intro i M hi hG hS hz h
    have e : i = 6 := by omega
    subst e
    have g : (Int32.ofNat 6 < 6) = False := by decide
    have hh := h M (of_r _ _) (fun k h1 h2 => by omega) (fun _ _ => rfl)
    simp (config := { maxSteps := 10000000, maxDischargeDepth := 30, decide := true }) only [w75_27, w75_29, w75_30, w75_31, ↓ip_ka2, ↓ip_ki5, ↓reduceIte, Int32.reduceOfNat, gS_5 hG]
    exact hh
  | succ n ih =>
    intro i M hi' hG hS hz h
    have hi : i < 6 := by omega
    have g : (Int32.ofNat i < 6) = True := by rw [show (6 : Int32) = Int32.ofNat 6 from rfl, ip_nlt _ _ (by omega) (by decide)]; exact eq_true hi
    have n0 := eq_false (ip_nn i (by omega))
    have c0 := ip_nc i (by omega)
    have l0 : (i < 6) = True := eq_true hi
    have gst := gR_st hG hi
    have gsk := gS_st hG hi
    have em : 4 * Int32.ofNat i = Int32.ofNat (4 * i) := by rw [show (4 : Int32) = Int32.ofNat 4 from rfl, ip_om]
    have ek : Int32.ofNat i + 1 = Int32.ofNat (i + 1) := ip_oa i 1
    have hS' := hS
    obtain ⟨q1, q2, q3, q4, q5, q6, q7, q8, q9⟩ := hS'
    simp (config := { maxSteps := 10000000, maxDischargeDepth := 30, decide := true }) only [w75_27, w75_29, w75_30, w75_31, w75_34, w75_35, w75_37, w75_38, w75_39, w75_42, w75_43, w75_45, w75_46, ↓ip_ka0, ↓ip_ka2, ↓ip_ki5, ip_vr_some, List.length_nil, ↓reduceIte, Nat.reduceLeDiff, Nat.zero_le, and_self, not_false_eq_true, ip_ix_eq, Int32.reduceOfNat, g, n0, c0, l0, gst, gsk, em, q1, q2, q6, gS_5 hG]
    rw [s_97 X M _ (102 + i) (b + 1) 24 (4 * i) gsk q2 (by decide) (by omega) (Z i) (hz i hi)]
    have f := of_sv M (b + 1) (4 * i) (Z i)
    have hG1 := of_G f hG
    simp (config := { maxSteps := 10000000, maxDischargeDepth := 30, decide := true }) only [w75_49, w75_52, ↓ip_ki5, ip_get_0, ip_get_s, ip_set1, ip_clr_s, ip_cat_r, List.set_cons_zero, List.set_cons_succ, Option.toList_none, List.nil_append, ↓reduceIte, Nat.reduceEqDiff, ek]
    refine ih (i + 1) _ (by omega) hG1 (sds_of f.1 f.2.1 hS) hz (fun E f2 z2 x2 => h E (of_t f f2) (fun k k1 k2 => ?_) (fun x hx => ?_))
    · by_cases e : k = i
      · subst e
        refine ⟨?_, ?_, ?_, ?_⟩
        · rw [x2 _ (by omega), k_sv_I, if_neg (by omega), if_neg (by omega), if_neg (by omega), if_pos ⟨rfl, rfl⟩]
        · rw [x2 _ (by omega), k_sv_I, if_neg (by omega), if_neg (by omega), if_pos ⟨rfl, rfl⟩]
        · rw [x2 _ (by omega), k_sv_I, if_neg (by omega), if_pos ⟨rfl, rfl⟩]
        · rw [x2 _ (by omega), k_sv_I, if_pos ⟨rfl, rfl⟩]
      · exact z2 k (by omega) k2
    · rw [x2 x (by omega), k_sv_I, if_neg (by omega), if_neg (by omega), if_neg (by omega), if_neg (by omega)]

set_option maxHeartbeats 40000000 in
set_option maxRecDepth 100000 in
theorem o_75 (X : ip_X) (M : ip_H) (K : Option Value → ip_H → Prop) (b : Nat) (Z : Nat → Int × Int × Int × Int) (hb : 28 ≤ b ∧ b < 78) (hS : sds M b) (hG : ip_G M) (hf : ∀ j, fits .byte (.int (M.2.1 18 j)) = true) (hz : ∀ k, k < 6 → cv M (102 + k) (Z k))
  (h : ∀ E, E.1 = M.1 → E.2.2.2 = M.2.2.2 → E.2.2.1 = M.2.2.1 → (∀ a, ¬ (b ≤ a ∧ a ≤ b + 4) → E.2.1 a = M.2.1 a) → E.2.1 b 0 = M.2.1 1 0 → E.2.1 b 1 = M.2.1 1 1 → E.2.1 b 2 = M.2.1 1 2 → (∀ k, k < 6 → z4 (E.2.1 (b + 1)) (4 * k) (Z k)) → E.2.1 (b + 2) 1 = M.2.1 17 1 → (∀ x, x < 120 → E.2.1 (b + 3) x = M.2.1 18 x) → E.2.1 b 6 = M.2.1 6 3 → E.2.1 b 7 = M.2.1 6 4 → (∀ x, x < 4 → E.2.1 (b + 4) x = M.2.1 7 x) → (∀ x, x < 4 → E.2.1 (b + 4) (4 + x) = M.2.1 7 (5 + x)) → K none E) : ip_wp X 75 0 [.ref b, .ref 1, .ref 5, .ref 17, .ref 6, .retAddr 1] [] M K := by
  have hS0 := hS
  obtain ⟨q1, q2, q3, q4, q5, q6, q7, q8, q9⟩ := hS0
  have n1 := nb_1_0 hb
  simp (config := { maxSteps := 10000000, maxDischargeDepth := 30, decide := true }) only [w75_0, w75_1, w75_2, w75_5, w75_8, w75_9, w75_10, w75_13, w75_16, w75_17, w75_18, w75_21, w75_24, w75_25, ↓ip_ka0, ↓ip_ka1, ip_get_0, ip_get_s, ip_set1, ip_clr_s, ip_cat_r, List.set_cons_zero, List.set_cons_succ, ip_uI_I, ip_uI_sh, ↓reduceIte, Nat.reduceEqDiff, and_self, q1, n1, gS_1 hG]
  have hGa : ip_G (ip_uI (ip_uI (ip_uI M b 0 (M.2.1 1 0)) b 1 (M.2.1 1 1)) b 2 (M.2.1 1 2)) := gG_uI _ _ _ _ (gG_uI _ _ _ _ (gG_uI _ _ _ _ hG))
  have ea : ∀ a, ¬ a = b → (ip_uI (ip_uI (ip_uI M b 0 (M.2.1 1 0)) b 1 (M.2.1 1 1)) b 2 (M.2.1 1 2)).2.1 a = M.2.1 a := fun a ha => by
    funext j
    rw [ip_uI_I, if_neg (fun q => ha q.1), ip_uI_I, if_neg (fun q => ha q.1), ip_uI_I, if_neg (fun q => ha q.1)]
  have b0 : (ip_uI (ip_uI (ip_uI M b 0 (M.2.1 1 0)) b 1 (M.2.1 1 1)) b 2 (M.2.1 1 2)).2.1 b 0 = M.2.1 1 0 := by rw [ip_uI_I, if_neg (by omega), ip_uI_I, if_neg (by omega), ip_uI_I, if_pos ⟨rfl, rfl⟩]
  have b1' : (ip_uI (ip_uI (ip_uI M b 0 (M.2.1 1 0)) b 1 (M.2.1 1 1)) b 2 (M.2.1 1 2)).2.1 b 1 = M.2.1 1 1 := by rw [ip_uI_I, if_neg (by omega), ip_uI_I, if_pos ⟨rfl, rfl⟩]
  have b2 : (ip_uI (ip_uI (ip_uI M b 0 (M.2.1 1 0)) b 1 (M.2.1 1 1)) b 2 (M.2.1 1 2)).2.1 b 2 = M.2.1 1 2 := by rw [ip_uI_I, if_pos ⟨rfl, rfl⟩]
  have a1 : (ip_uI (ip_uI (ip_uI M b 0 (M.2.1 1 0)) b 1 (M.2.1 1 1)) b 2 (M.2.1 1 2)).1 = M.1 := rfl
  have a2 : (ip_uI (ip_uI (ip_uI M b 0 (M.2.1 1 0)) b 1 (M.2.1 1 1)) b 2 (M.2.1 1 2)).2.2.2 = M.2.2.2 := rfl
  have a3 : (ip_uI (ip_uI (ip_uI M b 0 (M.2.1 1 0)) b 1 (M.2.1 1 1)) b 2 (M.2.1 1 2)).2.2.1 = M.2.2.1 := rfl
  generalize (ip_uI (ip_uI (ip_uI M b 0 (M.2.1 1 0)) b 1 (M.2.1 1 1)) b 2 (M.2.1 1 2)) = A0 at *
  have hSa := sds_of a1 a2 hS
  have i0 : Int32.ofNat 0 = 0 := rfl
  have key := o_75l X K b Z hb 6 0 A0 rfl hGa hSa (fun k hk => by unfold cv; rw [a3]; exact hz k hk)
  rw [i0] at key
  refine key (fun B0 fB zB _ => ?_)
  clear key
  have hGb := of_G fB hGa
  have hfb : ∀ j, fits .byte (.int (B0.2.1 18 j)) = true := fun j => by rw [fB.2.2.2 18 (by omega), ea 18 (by omega)]; exact hf j
  have hSb := sds_of fB.1 fB.2.1 hSa
  obtain ⟨r1, r2, r3, r4, r5, r6, r7, r8, r9⟩ := hSb
  simp (config := { maxSteps := 10000000, maxDischargeDepth := 30, decide := true }) only [w75_55, w75_56, w75_59, w75_60, ↓ip_ka0, ↓ip_ka3, ip_vr_some, List.length_nil, Nat.zero_le, r1, r3, r7, gS_17 hGb, hGb]
  rw [s_105 X B0 _ (b + 2) (b + 3) 17 18 r3 r9 r4 (gS_17 hGb) (gR_17_0 hGb) (gS_18 hGb) (nb_17_3 hb) hfb]
  have c1 : (ip_uI (ip_cpI B0 18 (b + 3) 0 0 120) (b + 2) 1 (B0.2.1 17 1)).1 = B0.1 := rfl
  have c2 : (ip_uI (ip_cpI B0 18 (b + 3) 0 0 120) (b + 2) 1 (B0.2.1 17 1)).2.2.2 = B0.2.2.2 := rfl
  have c3 : (ip_uI (ip_cpI B0 18 (b + 3) 0 0 120) (b + 2) 1 (B0.2.1 17 1)).2.2.1 = B0.2.2.1 := rfl
  have ec : ∀ a, ¬ a = b + 2 → ¬ a = b + 3 → (ip_uI (ip_cpI B0 18 (b + 3) 0 0 120) (b + 2) 1 (B0.2.1 17 1)).2.1 a = B0.2.1 a := fun a h2 h3 => by
    funext j
    rw [ip_uI_I, if_neg (fun q => h2 q.1), ip_cpI_I, if_neg h3]
  have w2 : (ip_uI (ip_cpI B0 18 (b + 3) 0 0 120) (b + 2) 1 (B0.2.1 17 1)).2.1 (b + 2) 1 = B0.2.1 17 1 := by rw [ip_uI_I, if_pos ⟨rfl, rfl⟩]
  have w3 : ∀ x, x < 120 → (ip_uI (ip_cpI B0 18 (b + 3) 0 0 120) (b + 2) 1 (B0.2.1 17 1)).2.1 (b + 3) x = B0.2.1 18 x := fun x hx => by
    rw [ip_uI_I, if_neg (by omega), ip_cpI_I, if_pos rfl]
    unfold va_cpy
    rw [if_pos (by omega)]
    exact congrArg (B0.2.1 18) (by omega)
  generalize ip_uI (ip_cpI B0 18 (b + 3) 0 0 120) (b + 2) 1 (B0.2.1 17 1) = C0 at *
  have hGc : ip_G C0 := ⟨c1.trans hGb.1, fun k j a b => by rw [c2]; exact hGb.2 k j a b⟩
  have s1 : ip_sh C0 b = (0, 5, 8) := (sh_of c1 b).trans r1
  have s5 : ip_sh C0 (b + 4) = (1, 0, 8) := (sh_of c1 _).trans r5
  have s8 : C0.2.2.2 b 5 = some (b + 4) := by rw [c2]; exact r8
  have n6 := nb_6_0 hb
  simp (config := { maxSteps := 10000000, maxDischargeDepth := 30, decide := true }) only [w75_63, w75_64, w75_66, w75_69, w75_72, w75_73, w75_75, w75_78, ↓ip_ka0, ↓ip_ka4, ip_uI_I, ip_uI_sh, Option.toList_none, List.nil_append, ↓reduceIte, and_self, s1, n6, gS_6 hGc, hGc]
  have ed : ∀ a, ¬ a = b → (ip_uI (ip_uI C0 b 6 (C0.2.1 6 3)) b 7 (C0.2.1 6 4)).2.1 a = C0.2.1 a := fun a ha => by
    funext j
    rw [ip_uI_I, if_neg (fun q => ha q.1), ip_uI_I, if_neg (fun q => ha q.1)]
  have d6 : (ip_uI (ip_uI C0 b 6 (C0.2.1 6 3)) b 7 (C0.2.1 6 4)).2.1 b 6 = C0.2.1 6 3 := by rw [ip_uI_I, if_neg (by omega), ip_uI_I, if_pos ⟨rfl, rfl⟩]
  have d7 : (ip_uI (ip_uI C0 b 6 (C0.2.1 6 3)) b 7 (C0.2.1 6 4)).2.1 b 7 = C0.2.1 6 4 := by rw [ip_uI_I, if_pos ⟨rfl, rfl⟩]
  have do' : ∀ j, ¬ j = 6 → ¬ j = 7 → (ip_uI (ip_uI C0 b 6 (C0.2.1 6 3)) b 7 (C0.2.1 6 4)).2.1 b j = C0.2.1 b j := fun j h6 h7 => by rw [ip_uI_I, if_neg (fun q => h7 q.2), ip_uI_I, if_neg (fun q => h6 q.2)]
  have d1 : (ip_uI (ip_uI C0 b 6 (C0.2.1 6 3)) b 7 (C0.2.1 6 4)).1 = C0.1 := rfl
  have d2 : (ip_uI (ip_uI C0 b 6 (C0.2.1 6 3)) b 7 (C0.2.1 6 4)).2.2.2 = C0.2.2.2 := rfl
  have d3 : (ip_uI (ip_uI C0 b 6 (C0.2.1 6 3)) b 7 (C0.2.1 6 4)).2.2.1 = C0.2.2.1 := rfl
  generalize ip_uI (ip_uI C0 b 6 (C0.2.1 6 3)) b 7 (C0.2.1 6 4) = D0 at *
  have hGd : ip_G D0 := ⟨d1.trans hGc.1, fun k j a b => by rw [d2]; exact hGc.2 k j a b⟩
  have t1 : ip_sh D0 b = (0, 5, 8) := (sh_of d1 b).trans s1
  have t5 : ip_sh D0 (b + 4) = (1, 0, 8) := (sh_of d1 _).trans s5
  have t8 : D0.2.2.2 b 5 = some (b + 4) := by rw [d2]; exact s8
  simp (config := { maxSteps := 10000000, maxDischargeDepth := 30, decide := true }) only [w75_81, w75_83, w75_86, w75_87, w75_88, w75_91, w75_92, w75_93, w75_96, w75_98, w75_101, w75_102, w75_103, w75_106, w75_107, w75_108, w75_111, ↓ip_ka0, ↓ip_ka4, ip_vr_some, List.length_nil, ↓reduceIte, Nat.reduceAdd, Nat.reduceLeDiff, Nat.reduceEqDiff, Nat.reduceLT, Nat.zero_add, Nat.zero_le, true_or, and_self, not_false_eq_true, Int32.reduceLT, Int32.reduceToNatClampNeg, ip_cpI_I, ip_cpI_R, ip_cpI_sh, t1, t5, t8, gS_6 hGd, gS_7 hGd, gR_6_0 hGd, ip_cpI_sh, ip_cpI_R, true_or, hGd]
  have chain : ∀ a, ¬ a = b → ¬ a = b + 1 → ¬ a = b + 2 → ¬ a = b + 3 → D0.2.1 a = M.2.1 a := fun a h0 h1 h2 h3 => by rw [ed a h0, ec a h2 h3, fB.2.2.2 a h1, ea a h0]
  refine h _ (d1.trans (c1.trans (fB.1.trans a1))) (d2.trans (c2.trans (fB.2.1.trans a2))) (d3.trans (c3.trans (fB.2.2.1.trans a3))) (fun a ha => ?_) ?_ ?_ ?_ (fun k hk => ?_) ?_ (fun x hx => ?_) ?_ ?_ (fun x hx => ?_) (fun x hx => ?_)
  · funext j
    rw [ip_cpI_I, if_neg (by omega), ip_cpI_I, if_neg (by omega), chain a (by omega) (by omega) (by omega) (by omega)]
  · rw [ip_cpI_I, if_neg (by omega), ip_cpI_I, if_neg (by omega), do' 0 (by decide) (by decide), ec b (by omega) (by omega), fB.2.2.2 b (by omega), b0]
  · rw [ip_cpI_I, if_neg (by omega), ip_cpI_I, if_neg (by omega), do' 1 (by decide) (by decide), ec b (by omega) (by omega), fB.2.2.2 b (by omega), b1']
  · rw [ip_cpI_I, if_neg (by omega), ip_cpI_I, if_neg (by omega), do' 2 (by decide) (by decide), ec b (by omega) (by omega), fB.2.2.2 b (by omega), b2]
  · obtain ⟨z0, z1, z2, z3⟩ := zB k (Nat.zero_le _) hk
    have er : ∀ x, (ip_cpI (ip_cpI D0 7 (b + 4) 0 0 4) 7 (b + 4) 5 4 4).2.1 (b + 1) x = B0.2.1 (b + 1) x := fun x => by
      rw [ip_cpI_I, if_neg (by omega), ip_cpI_I, if_neg (by omega), ed (b + 1) (by omega), ec (b + 1) (by omega) (by omega)]
    exact ⟨(er _).trans z0, (er _).trans z1, (er _).trans z2, (er _).trans z3⟩
  · rw [ip_cpI_I, if_neg (by omega), ip_cpI_I, if_neg (by omega), ed (b + 2) (by omega), w2, fB.2.2.2 17 (by omega), ea 17 (by omega)]
  · rw [ip_cpI_I, if_neg (by omega), ip_cpI_I, if_neg (by omega), ed (b + 3) (by omega), w3 x hx, fB.2.2.2 18 (by omega), ea 18 (by omega)]
  · rw [ip_cpI_I, if_neg (by omega), ip_cpI_I, if_neg (by omega), d6, ec 6 (by omega) (by omega), fB.2.2.2 6 (by omega), ea 6 (by omega)]
  · rw [ip_cpI_I, if_neg (by omega), ip_cpI_I, if_neg (by omega), d7, ec 6 (by omega) (by omega), fB.2.2.2 6 (by omega), ea 6 (by omega)]
  · rw [ip_cpI_I, if_pos rfl]
    unfold va_cpy
    rw [if_neg (by omega), ip_cpI_I, if_pos rfl]
    unfold va_cpy
    rw [if_pos (by omega), chain 7 (by omega) (by omega) (by omega) (by omega)]
    exact congrArg (M.2.1 7) (by omega)
  · rw [ip_cpI_I, if_pos rfl]
    unfold va_cpy
    have e7 : (ip_cpI D0 7 (b + 4) 0 0 4).2.1 7 = M.2.1 7 := by
      funext j
      rw [ip_cpI_I, if_neg (by omega), chain 7 (by omega) (by omega) (by omega) (by omega)]
    rw [if_pos (by omega), e7]
    exact congrArg (M.2.1 7) (by omega)

set_option maxHeartbeats 40000000 in
set_option maxRecDepth 100000 in
theorem o_76l (X : ip_X) (K : Option Value → ip_H → Prop) (b : Nat) (hb : 28 ≤ b ∧ b < 78) : ∀ (n i : Nat) (M : ip_H), i + n = 6 → ip_G M → sds M b → (∀ E, E.1 = M.1 → E.2.2.2 = M.2.2.2 → E.2.1 = M.2.1 → (∀ a, ¬ (102 + i ≤ a ∧ a < 108) → E.2.2.1 a = M.2.2.1 a) → (∀ k, i ≤ k → k < 6 → cv E (102 + k) (qi (M.2.1 (b + 1)) (4 * k))) → ip_wp X 76 47 [.ref b, .ref 1, .ref 5, .ref 17, .ref 6, .int 6] [] E K) → ip_wp X 76 19 [.ref b, .ref 1, .ref 5, .ref 17, .ref 6, .int (Int32.ofNat i)] [] M K := by
  intro n
  induction n with
  | zero =>
    intro i M hi hG hS h
    have e : i = 6 := by omega
    subst e
    have g : (Int32.ofNat 6 < 6) = False := by decide
    have hh := h M rfl rfl rfl (fun _ _ => rfl) (fun k h1 h2 => by omega)
    simp (config := { maxSteps := 10000000, maxDischargeDepth := 30, decide := true }) only [w76_19, w76_21, w76_22, w76_23, ↓ip_ka2, ↓ip_ki5, ↓reduceIte, Int32.reduceOfNat, gS_5 hG]
    exact hh
  | succ n ih =>
    intro i M hi' hG hS h
    have hi : i < 6 := by omega
    have g : (Int32.ofNat i < 6) = True := by rw [show (6 : Int32) = Int32.ofNat 6 from rfl, ip_nlt _ _ (by omega) (by decide)]; exact eq_true hi
    have n0 := eq_false (ip_nn i (by omega))
    have c0 := ip_nc i (by omega)
    have l0 : (i < 6) = True := eq_true hi
    have gst := gR_st hG hi
    have gsk := gS_st hG hi
    have em : 4 * Int32.ofNat i = Int32.ofNat (4 * i) := by rw [show (4 : Int32) = Int32.ofNat 4 from rfl, ip_om]
    have ek : Int32.ofNat i + 1 = Int32.ofNat (i + 1) := ip_oa i 1
    have hS' := hS
    obtain ⟨q1, q2, q3, q4, q5, q6, q7, q8, q9⟩ := hS'
    simp (config := { maxSteps := 10000000, maxDischargeDepth := 30, decide := true }) only [w76_19, w76_21, w76_22, w76_23, w76_26, w76_27, w76_29, w76_30, w76_31, w76_34, w76_35, w76_37, w76_38, ↓ip_ka0, ↓ip_ka2, ↓ip_ki5, ip_vr_some, List.length_nil, ↓reduceIte, Nat.reduceLeDiff, Nat.zero_le, and_self, not_false_eq_true, ip_ix_eq, Int32.reduceOfNat, g, n0, c0, l0, gst, gsk, em, q1, q2, q6, gS_5 hG]
    rw [s_96 X M _ (102 + i) (b + 1) 24 (4 * i) gsk q2 (by decide) (by omega)]
    have hG1 : ip_G (k_v M (102 + i) (qi (M.2.1 (b + 1)) (4 * i))) := gG_kv _ _ _ hG
    simp (config := { maxSteps := 10000000, maxDischargeDepth := 30, decide := true }) only [w76_41, w76_44, ↓ip_ki5, ip_get_0, ip_get_s, ip_set1, ip_clr_s, ip_cat_r, List.set_cons_zero, List.set_cons_succ, Option.toList_none, List.nil_append, ↓reduceIte, Nat.reduceEqDiff, ek]
    refine ih (i + 1) _ (by omega) hG1 (sds_of rfl rfl hS) (fun E e1 e2 e3 e4 e5 => h E e1 e2 e3 (fun a ha => ?_) (fun k k1 k2 => ?_))
    · rw [e4 a (by omega)]
      funext x
      rw [k_v_L, if_neg (by omega), if_neg (by omega), if_neg (by omega), if_neg (by omega)]
    · by_cases e : k = i
      · subst e
        unfold cv
        rw [e4 (102 + k) (by omega)]
        exact cv_kv _ _ _
      · exact e5 k (by omega) k2

set_option maxHeartbeats 40000000 in
set_option maxRecDepth 100000 in
theorem o_76p (X : ip_X) (M : ip_H) (K : Option Value → ip_H → Prop) (b : Nat) (hb : 28 ≤ b ∧ b < 78) (hS : sds M b) (hG : ip_G M) (hf : ∀ j, fits .byte (.int (M.2.1 (b + 3) j)) = true)
  (h : ∀ E, E.1 = M.1 → E.2.2.2 = M.2.2.2 → (∀ a, ¬ (a = 1 ∨ a = 6 ∨ a = 17 ∨ a = 18) → E.2.1 a = M.2.1 a) → (∀ a, ¬ (102 ≤ a ∧ a < 108) → E.2.2.1 a = M.2.2.1 a) → E.2.1 1 0 = M.2.1 b 0 → E.2.1 1 1 = M.2.1 b 1 → E.2.1 1 2 = M.2.1 b 2 → (∀ k, k < 6 → cv E (102 + k) (qi (M.2.1 (b + 1)) (4 * k))) → E.2.1 17 1 = M.2.1 (b + 2) 1 → (∀ x, x < 120 → E.2.1 18 x = M.2.1 (b + 3) x) → E.2.1 6 3 = -1 → ip_wp X 76 60 [.ref b, .ref 1, .ref 5, .ref 17, .ref 6, .int 6] [] E K) : ip_wp X 76 0 [.ref b, .ref 1, .ref 5, .ref 17, .ref 6, .retAddr 1] [] M K := by
  have hS0 := hS
  obtain ⟨q1, q2, q3, q4, q5, q6, q7, q8, q9⟩ := hS0
  have n1 := nc_1_0 hb
  simp (config := { maxSteps := 10000000, maxDischargeDepth := 30, decide := true }) only [w76_0, w76_1, w76_2, w76_5, w76_6, w76_9, w76_10, w76_13, w76_16, w76_17, w42_0, w42_1, w42_2, w42_5, w42_6, w42_7, w42_10, w42_11, w42_12, w42_15, ↓ip_ka0, ↓ip_ki1, ↓ip_ka1, ↓ip_ki2, ↓ip_ki3, ip_get_0, ip_get_s, ip_set1, ip_clr_s, ip_cat_r, List.set_cons_zero, List.set_cons_succ, ip_uI_sh, Option.toList_none, List.nil_append, List.length_nil, ↓reduceIte, Nat.reduceEqDiff, Nat.zero_le, q1, gS_1 hG]
  have hGa : ip_G (ip_uI (ip_uI (ip_uI M 1 0 (M.2.1 b 0)) 1 1 (M.2.1 b 1)) 1 2 (M.2.1 b 2)) := gG_uI _ _ _ _ (gG_uI _ _ _ _ (gG_uI _ _ _ _ hG))
  have ea : ∀ a, ¬ a = 1 → (ip_uI (ip_uI (ip_uI M 1 0 (M.2.1 b 0)) 1 1 (M.2.1 b 1)) 1 2 (M.2.1 b 2)).2.1 a = M.2.1 a := fun a ha => by
    funext j
    rw [ip_uI_I, if_neg (fun q => ha q.1), ip_uI_I, if_neg (fun q => ha q.1), ip_uI_I, if_neg (fun q => ha q.1)]
  have b0 : (ip_uI (ip_uI (ip_uI M 1 0 (M.2.1 b 0)) 1 1 (M.2.1 b 1)) 1 2 (M.2.1 b 2)).2.1 1 0 = M.2.1 b 0 := by rw [ip_uI_I, if_neg (by omega), ip_uI_I, if_neg (by omega), ip_uI_I, if_pos ⟨rfl, rfl⟩]
  have b1' : (ip_uI (ip_uI (ip_uI M 1 0 (M.2.1 b 0)) 1 1 (M.2.1 b 1)) 1 2 (M.2.1 b 2)).2.1 1 1 = M.2.1 b 1 := by rw [ip_uI_I, if_neg (by omega), ip_uI_I, if_pos ⟨rfl, rfl⟩]
  have b2 : (ip_uI (ip_uI (ip_uI M 1 0 (M.2.1 b 0)) 1 1 (M.2.1 b 1)) 1 2 (M.2.1 b 2)).2.1 1 2 = M.2.1 b 2 := by rw [ip_uI_I, if_pos ⟨rfl, rfl⟩]
  have a1 : (ip_uI (ip_uI (ip_uI M 1 0 (M.2.1 b 0)) 1 1 (M.2.1 b 1)) 1 2 (M.2.1 b 2)).1 = M.1 := rfl
  have a2 : (ip_uI (ip_uI (ip_uI M 1 0 (M.2.1 b 0)) 1 1 (M.2.1 b 1)) 1 2 (M.2.1 b 2)).2.2.2 = M.2.2.2 := rfl
  have a3 : (ip_uI (ip_uI (ip_uI M 1 0 (M.2.1 b 0)) 1 1 (M.2.1 b 1)) 1 2 (M.2.1 b 2)).2.2.1 = M.2.2.1 := rfl
  generalize (ip_uI (ip_uI (ip_uI M 1 0 (M.2.1 b 0)) 1 1 (M.2.1 b 1)) 1 2 (M.2.1 b 2)) = A0 at *
  have hSa := sds_of a1 a2 hS
  have i0 : Int32.ofNat 0 = 0 := rfl
  have key := o_76l X K b hb 6 0 A0 rfl hGa hSa
  rw [i0] at key
  refine key (fun B0 f1 f2 f3 f4 f5 => ?_)
  clear key
  have hGb : ip_G B0 := ⟨f1.trans hGa.1, fun k j a b => by rw [f2]; exact hGa.2 k j a b⟩
  have hfb : ∀ j, fits .byte (.int (B0.2.1 (b + 3) j)) = true := fun j => by rw [f3, ea (b + 3) (by omega)]; exact hf j
  have hSb := sds_of f1 f2 hSa
  obtain ⟨r1, r2, r3, r4, r5, r6, r7, r8, r9⟩ := hSb
  simp (config := { maxSteps := 10000000, maxDischargeDepth := 30, decide := true }) only [w76_47, w76_48, w76_49, w76_52, ↓ip_ka0, ↓ip_ka3, ip_vr_some, List.length_nil, Nat.zero_le, r1, r3, r7, gS_17 hGb, hGb]
  rw [s_105 X B0 _ 17 18 (b + 2) (b + 3) (gS_17 hGb) (gR_17_0 hGb) (gS_18 hGb) r3 r9 r4 (nc_18_2 hb) hfb]
  have c1 : (ip_uI (ip_cpI B0 (b + 3) 18 0 0 120) 17 1 (B0.2.1 (b + 2) 1)).1 = B0.1 := rfl
  have c2 : (ip_uI (ip_cpI B0 (b + 3) 18 0 0 120) 17 1 (B0.2.1 (b + 2) 1)).2.2.2 = B0.2.2.2 := rfl
  have c3 : (ip_uI (ip_cpI B0 (b + 3) 18 0 0 120) 17 1 (B0.2.1 (b + 2) 1)).2.2.1 = B0.2.2.1 := rfl
  have ec : ∀ a, ¬ a = 17 → ¬ a = 18 → (ip_uI (ip_cpI B0 (b + 3) 18 0 0 120) 17 1 (B0.2.1 (b + 2) 1)).2.1 a = B0.2.1 a := fun a h2 h3 => by
    funext j
    rw [ip_uI_I, if_neg (fun q => h2 q.1), ip_cpI_I, if_neg h3]
  have w2 : (ip_uI (ip_cpI B0 (b + 3) 18 0 0 120) 17 1 (B0.2.1 (b + 2) 1)).2.1 17 1 = B0.2.1 (b + 2) 1 := by rw [ip_uI_I, if_pos ⟨rfl, rfl⟩]
  have w3 : ∀ x, x < 120 → (ip_uI (ip_cpI B0 (b + 3) 18 0 0 120) 17 1 (B0.2.1 (b + 2) 1)).2.1 18 x = B0.2.1 (b + 3) x := fun x hx => by
    rw [ip_uI_I, if_neg (by omega), ip_cpI_I, if_pos rfl]
    unfold va_cpy
    rw [if_pos (by omega)]
    exact congrArg (B0.2.1 (b + 3)) (by omega)
  generalize (ip_uI (ip_cpI B0 (b + 3) 18 0 0 120) 17 1 (B0.2.1 (b + 2) 1)) = C0 at *
  have hGc : ip_G C0 := ⟨c1.trans hGb.1, fun k j a b => by rw [c2]; exact hGb.2 k j a b⟩
  simp (config := { maxSteps := 10000000, maxDischargeDepth := 30, decide := true }) only [w76_55, w76_57, w21_0, w21_1, w21_2, w21_5, w21_6, w21_7, w21_10, w21_11, w21_12, w21_15, w21_16, w21_17, w21_20, ↓ip_ka0, ↓ip_ka4, ip_uI_sh, Option.toList_none, List.nil_append, List.length_nil, Nat.zero_le, gS_6 hGc, hGc]
  have ed : ∀ a, ¬ a = 6 → (ip_uI (ip_uI (ip_uI (ip_uI C0 6 3 (-1)) 6 4 0) 6 5 (-1)) 6 6 (-1)).2.1 a = C0.2.1 a := fun a ha => by
    funext j
    rw [ip_uI_I, if_neg (fun q => ha q.1), ip_uI_I, if_neg (fun q => ha q.1), ip_uI_I, if_neg (fun q => ha q.1), ip_uI_I, if_neg (fun q => ha q.1)]
  have d63 : (ip_uI (ip_uI (ip_uI (ip_uI C0 6 3 (-1)) 6 4 0) 6 5 (-1)) 6 6 (-1)).2.1 6 3 = -1 := by rw [ip_uI_I, if_neg (by omega), ip_uI_I, if_neg (by omega), ip_uI_I, if_neg (by omega), ip_uI_I, if_pos ⟨rfl, rfl⟩]
  refine h _ (c1.trans (f1.trans a1)) (c2.trans (f2.trans a2)) (fun a ha => ?_) (fun a ha => ?_) ?_ ?_ ?_ (fun k hk => ?_) ?_ (fun x hx => ?_) d63
  · rw [ed a (by omega), ec a (by omega) (by omega), f3, ea a (by omega)]
  · exact (congrFun c3 a).trans ((f4 a (by omega)).trans (congrFun a3 a))
  · rw [ed 1 (by decide), ec 1 (by decide) (by decide), f3, b0]
  · rw [ed 1 (by decide), ec 1 (by decide) (by decide), f3, b1']
  · rw [ed 1 (by decide), ec 1 (by decide) (by decide), f3, b2]
  · have e5 := f5 k (Nat.zero_le _) hk
    rw [ea (b + 1) (by omega)] at e5
    unfold cv at e5 ⊢
    rw [← c3] at e5
    exact e5
  · rw [ed 17 (by decide), w2, f3, ea (b + 2) (by omega)]
  · rw [ed 18 (by decide), w3 x hx, f3, ea (b + 3) (by omega)]
end
