-- CALLS OF THE CLASS THAT ACT, with what they leave of the TAPE
theorem mz_v4 {b : Int64} {U Lo : Int} (e : mz b = some (U, Lo)) : c_v4 (z_mv b U Lo) := by
  have k : zb 150 U ∧ (1 ≤ Lo ∧ Lo ≤ 150) := by
    unfold mz at e
    by_cases c1 : mz_P b = 2047 ∨ (mz_P b = 0 ∧ ¬ mz_D b = 0)
    · rw [if_pos c1] at e
      cases e
    rw [if_neg c1] at e
    by_cases c2 : mz_P b = 0
    · rw [if_pos c2] at e
      cases e
      exact ⟨⟨by decide, by decide⟩, by decide, by decide⟩
    rw [if_neg c2] at e
    have hdp := ip_sp_pos 52 (mz_E b) (mz_W b) (ip_Eb b).1
    generalize ip_sp 52 (mz_E b) (mz_W b) = sp at *
    by_cases c3 : 150 < sp.1 ∨ i_in sp.2 (-7) 7 = false
    · rw [if_pos c3] at e
      cases e
    rw [if_neg c3] at e
    by_cases c4 : 150 < sp.1.toInt * 2 ^ ip_nu sp.2
    · rw [if_pos c4] at e
      cases e
    rw [if_neg c4] at e
    have e2 := Option.some.inj e
    have eU := congrArg Prod.fst e2
    have eL := congrArg Prod.snd e2
    dsimp only at eU eL
    subst eU eL
    have hw : i_in sp.2 (-7) 7 = true := by
      cases q : i_in sp.2 (-7) 7
      · exact absurd (Or.inr q) c3
      · rfl
    obtain ⟨-, -, -, -, hl⟩ := ip_wen sp.2 (ip_15m sp.2 hw)
    have p0 : (0 : Int) ≤ sp.1.toInt * 2 ^ ip_nu sp.2 := Int.mul_nonneg (by omega) (Int.le_of_lt (Int.pow_pos (by decide)))
    have l7 : ∀ n : Nat, n ≤ 7 → (1 : Int) ≤ 2 ^ n ∧ (2 : Int) ^ n ≤ 150 := by decide
    exact ⟨⟨by omega, by omega⟩, l7 _ hl⟩
  obtain ⟨⟨k1, k2⟩, k3, k4⟩ := k
  have b0 : zb 150 (if b < 0 then -U else U) := by
    unfold zb
    split <;> omega
  have b1 : zb 150 0 := ⟨by decide, by decide⟩
  have b2 : zb 150 Lo := ⟨by omega, k4⟩
  obtain ⟨z1, z2, z3, z4⟩ := zl_b (z := ((if b < 0 then -U else U), 0, 0, Lo)) b0 b1 b1 b2
  exact ⟨z1, z2, z3, zl_d (z := ((if b < 0 then -U else U), 0, 0, Lo)) (by dsimp only; omega), z4.2⟩
/-- cells of another number -/
def ai_nq (k : Nat) (V : ai_W) : Bool := (V.1.all fun p => !decide (p.1 = k)) && V.2.all fun x => !decide (x = k)
theorem ai_nq_ok {k : Nat} {V : ai_W} (h : ai_nq k V = true) (j : Nat) : ai_may V k j = false := by
  unfold ai_nq at h
  rw [Bool.and_eq_true] at h
  cases e : ai_may V k j
  · rfl
  · exfalso
    rw [ai_may_e] at e
    rw [Bool.or_eq_true, List.elem_iff, List.elem_iff] at e
    rcases e with e | e
    · have := List.all_eq_true.mp h.1 _ e
      simp at this
    · have := List.all_eq_true.mp h.2 _ e
      simp at this

set_option maxHeartbeats 40000000 in
set_option maxRecDepth 100000 in
theorem xx_field (X : ip_X) (M : ip_H) (K : Option Value → ip_H → Prop) (p : Int32) (q : Int32) (r : Int32) (hG : ip_G M) (hI : ai_inv ai_Tb M) (gi : Ri M) (gq : Rq M) (gj : JJ M) (h : ∀ v M1, ip_G M1 → ai_inv ai_Tb M1 → hig M M1 → M1.2.1 19 2 = M.2.1 19 2 → M1.2.1 19 4 = M.2.1 19 4 → M1.2.1 20 = M.2.1 20 → (((i_in p (-3) 3 && (i_in q (-3) 3 && i_in r (-3) 3)) = false ∧ v = -1 ∧ refd M M1 (-1) 1) ∨ ((i_in p (-3) 3 && (i_in q (-3) 3 && i_in r (-3) 3)) = true ∧ zF p.toInt q.toInt r.toInt = false ∧ v = -4 ∧ refd M M1 (-4) 4) ∨ ((i_in p (-3) 3 && (i_in q (-3) 3 && i_in r (-3) 3)) = true ∧ zF p.toInt q.toInt r.toInt = true ∧ v = ip_D32 p q r ∧ actd M M1 0 (c_clf (M.2.1 109) p q r))) → K (some (.int v)) M1) : ip_wp X 110 0 [.ref 0, .int p, .int q, .int r] [] M K := by
  have hi : ai_hi cx_20.2.2.2.2 = true := by decide +kernel
  have h19 : ai_may cx_20.2.2.2.2 19 2 = false := by decide +kernel
  have h194 : ai_may cx_20.2.2.2.2 19 4 = false := by decide +kernel
  have h20 : ai_nq 20 cx_20.2.2.2.2 = true := by decide +kernel
  refine ip_wp_and (K1 := fun rr M1 => ∃ v : Int32, rr = some (.int v) ∧ ip_G M1 ∧ ai_inv ai_Tb M1 ∧ hig M M1 ∧ M1.2.1 19 2 = M.2.1 19 2 ∧ M1.2.1 19 4 = M.2.1 19 4 ∧ M1.2.1 20 = M.2.1 20) (K2 := fun rr M1 => ∃ v : Int32, rr = some (.int v) ∧ (((i_in p (-3) 3 && (i_in q (-3) 3 && i_in r (-3) 3)) = false ∧ v = -1 ∧ refd M M1 (-1) 1) ∨ ((i_in p (-3) 3 && (i_in q (-3) 3 && i_in r (-3) 3)) = true ∧ zF p.toInt q.toInt r.toInt = false ∧ v = -4 ∧ refd M M1 (-4) 4) ∨ ((i_in p (-3) 3 && (i_in q (-3) 3 && i_in r (-3) 3)) = true ∧ zF p.toInt q.toInt r.toInt = true ∧ v = ip_D32 p q r ∧ actd M M1 0 (c_clf (M.2.1 109) p q r)))) ?_ ?_ ?_
  · refine vx_20 X M [.ref 0, .int p, .int q, .int r] _ (a2_r (a2_i (a2_i (a2_i (a2_n))))) hG hI (fun rr M1 hr hG1 hI1 hf => ?_)
    obtain ⟨q, rfl⟩ := ar_i hr
    exact ⟨q, rfl, hG1, hI1, hig_of hi hf, hf.1 19 2 h19, hf.1 19 4 h194, funext fun j => hf.1 20 j (ai_nq_ok h20 j)⟩
  · exact x0_field X M _ p q r hG hI gi gj (fun c M1 rd => ⟨_, rfl, Or.inl ⟨c, rfl, rd⟩⟩) (fun c z M1 rd => ⟨_, rfl, Or.inr (Or.inl ⟨c, z, rfl, rd⟩)⟩) (fun c z M1 ac => ⟨_, rfl, Or.inr (Or.inr (⟨c, z, rfl, ac⟩))⟩)
  · rintro rr M1 ⟨v, rfl, a1, a2, a3, a4, a5, a6⟩ ⟨w, ew, hx⟩
    cases ew
    exact h v M1 a1 a2 a3 a4 a5 a6 hx

set_option maxHeartbeats 40000000 in
set_option maxRecDepth 100000 in
theorem xx_way (X : ip_X) (M : ip_H) (K : Option Value → ip_H → Prop) (i : Int32) (hG : ip_G M) (hI : ai_inv ai_Tb M) (gi : Ri M) (gq : Rq M) (gj : JJ M) (h : ∀ v M1, ip_G M1 → ai_inv ai_Tb M1 → hig M M1 → M1.2.1 19 2 = M.2.1 19 2 → M1.2.1 19 4 = M.2.1 19 4 → M1.2.1 20 = M.2.1 20 → ((i_in i 0 1 = false ∧ v = -1 ∧ refd M M1 (-1) 1) ∨ (i_in i 0 1 = true ∧ v = M.2.1 108 3 ∧ wayd M M1 i)) → K (some (.int v)) M1) : ip_wp X 111 0 [.ref 0, .int i, .retAddr 1] [] M K := by
  have hi : ai_hi cx_21.2.2.2.2 = true := by decide +kernel
  have h19 : ai_may cx_21.2.2.2.2 19 2 = false := by decide +kernel
  have h194 : ai_may cx_21.2.2.2.2 19 4 = false := by decide +kernel
  have h20 : ai_nq 20 cx_21.2.2.2.2 = true := by decide +kernel
  refine ip_wp_and (K1 := fun rr M1 => ∃ v : Int32, rr = some (.int v) ∧ ip_G M1 ∧ ai_inv ai_Tb M1 ∧ hig M M1 ∧ M1.2.1 19 2 = M.2.1 19 2 ∧ M1.2.1 19 4 = M.2.1 19 4 ∧ M1.2.1 20 = M.2.1 20) (K2 := fun rr M1 => ∃ v : Int32, rr = some (.int v) ∧ ((i_in i 0 1 = false ∧ v = -1 ∧ refd M M1 (-1) 1) ∨ (i_in i 0 1 = true ∧ v = M.2.1 108 3 ∧ wayd M M1 i))) ?_ ?_ ?_
  · refine vx_21 X M [.ref 0, .int i] _ (a2_r (a2_i (a2_n))) hG hI (fun rr M1 hr hG1 hI1 hf => ?_)
    obtain ⟨q, rfl⟩ := ar_i hr
    exact ⟨q, rfl, hG1, hI1, hig_of hi hf, hf.1 19 2 h19, hf.1 19 4 h194, funext fun j => hf.1 20 j (ai_nq_ok h20 j)⟩
  · exact x0_way X M _ hG hI gi gq gj i (fun c M1 rd => ⟨_, rfl, Or.inl ⟨c, rfl, rd⟩⟩) (fun c M1 wd => ⟨_, rfl, Or.inr (⟨c, rfl, wd⟩)⟩)
  · rintro rr M1 ⟨v, rfl, a1, a2, a3, a4, a5, a6⟩ ⟨w, ew, hx⟩
    cases ew
    exact h v M1 a1 a2 a3 a4 a5 a6 hx

set_option maxHeartbeats 40000000 in
set_option maxRecDepth 100000 in
theorem xx_set (X : ip_X) (M : ip_H) (K : Option Value → ip_H → Prop) (i : Int32) (a : Int32) (b : Int32) (c : Int32) (d : Int32) (hG : ip_G M) (hI : ai_inv ai_Tb M) (gi : Ri M) (gq : Rq M) (gj : JJ M) (h : ∀ v M1, ip_G M1 → ai_inv ai_Tb M1 → hig M M1 → M1.2.1 19 2 = M.2.1 19 2 → M1.2.1 19 4 = M.2.1 19 4 → M1.2.1 20 = M.2.1 20 → (((i_in a (-150) 150 && (i_in b (-150) 150 && (i_in c (-150) 150 && (i_in d (-150) 150 && !decide (d = 0))))) = false ∧ v = -1 ∧ refd M M1 (-1) 1) ∨ ((i_in a (-150) 150 && (i_in b (-150) 150 && (i_in c (-150) 150 && (i_in d (-150) 150 && !decide (d = 0))))) = true ∧ i_in i 0 5 = false ∧ v = -2 ∧ refd M M1 (-2) 2) ∨ ((i_in a (-150) 150 && (i_in b (-150) 150 && (i_in c (-150) 150 && (i_in d (-150) 150 && !decide (d = 0))))) = true ∧ ∃ k : Nat, k < 6 ∧ i = Int32.ofNat k ∧ v = c_f4 (r_v (M.2.1 109) 0) (r_v (M.2.1 109) 1) (r_v (M.2.1 109) 2) (zl (a.toInt, b.toInt, c.toInt, d.toInt)) ∧ actd M M1 1 (N_l4 (M.2.1 109) k (zl (a.toInt, b.toInt, c.toInt, d.toInt))))) → K (some (.int v)) M1) : ip_wp X 112 0 [.ref 0, .int i, .int a, .int b, .int c, .int d] [] M K := by
  have hi : ai_hi cx_35.2.2.2.2 = true := by decide +kernel
  have h19 : ai_may cx_35.2.2.2.2 19 2 = false := by decide +kernel
  have h194 : ai_may cx_35.2.2.2.2 19 4 = false := by decide +kernel
  have h20 : ai_nq 20 cx_35.2.2.2.2 = true := by decide +kernel
  refine ip_wp_and (K1 := fun rr M1 => ∃ v : Int32, rr = some (.int v) ∧ ip_G M1 ∧ ai_inv ai_Tb M1 ∧ hig M M1 ∧ M1.2.1 19 2 = M.2.1 19 2 ∧ M1.2.1 19 4 = M.2.1 19 4 ∧ M1.2.1 20 = M.2.1 20) (K2 := fun rr M1 => ∃ v : Int32, rr = some (.int v) ∧ (((i_in a (-150) 150 && (i_in b (-150) 150 && (i_in c (-150) 150 && (i_in d (-150) 150 && !decide (d = 0))))) = false ∧ v = -1 ∧ refd M M1 (-1) 1) ∨ ((i_in a (-150) 150 && (i_in b (-150) 150 && (i_in c (-150) 150 && (i_in d (-150) 150 && !decide (d = 0))))) = true ∧ i_in i 0 5 = false ∧ v = -2 ∧ refd M M1 (-2) 2) ∨ ((i_in a (-150) 150 && (i_in b (-150) 150 && (i_in c (-150) 150 && (i_in d (-150) 150 && !decide (d = 0))))) = true ∧ ∃ k : Nat, k < 6 ∧ i = Int32.ofNat k ∧ v = c_f4 (r_v (M.2.1 109) 0) (r_v (M.2.1 109) 1) (r_v (M.2.1 109) 2) (zl (a.toInt, b.toInt, c.toInt, d.toInt)) ∧ actd M M1 1 (N_l4 (M.2.1 109) k (zl (a.toInt, b.toInt, c.toInt, d.toInt)))))) ?_ ?_ ?_
  · refine vx_35 X M [.ref 0, .int i, .int a, .int b, .int c, .int d] _ (a2_r (a2_i (a2_i (a2_i (a2_i (a2_i (a2_n))))))) hG hI (fun rr M1 hr hG1 hI1 hf => ?_)
    obtain ⟨q, rfl⟩ := ar_i hr
    exact ⟨q, rfl, hG1, hI1, hig_of hi hf, hf.1 19 2 h19, hf.1 19 4 h194, funext fun j => hf.1 20 j (ai_nq_ok h20 j)⟩
  · exact x0_set X M _ i a b c d hG hI gi gj (fun e M1 rd => ⟨_, rfl, Or.inl ⟨e, rfl, rd⟩⟩) (fun e z M1 rd => ⟨_, rfl, Or.inr (Or.inl ⟨e, z, rfl, rd⟩)⟩) (fun e k hk ek M1 ac => ⟨_, rfl, Or.inr (Or.inr (⟨e, k, hk, ek, rfl, ac⟩))⟩)
  · rintro rr M1 ⟨v, rfl, a1, a2, a3, a4, a5, a6⟩ ⟨w, ew, hx⟩
    cases ew
    exact h v M1 a1 a2 a3 a4 a5 a6 hx

set_option maxHeartbeats 40000000 in
set_option maxRecDepth 100000 in
theorem xx_measure (X : ip_X) (M : ip_H) (K : Option Value → ip_H → Prop) (i : Int32) (l : Int64) (hG : ip_G M) (hI : ai_inv ai_Tb M) (gi : Ri M) (gq : Rq M) (gj : JJ M) (h : ∀ v M1, ip_G M1 → ai_inv ai_Tb M1 → hig M M1 → M1.2.1 19 2 = M.2.1 19 2 → M1.2.1 19 4 = M.2.1 19 4 → M1.2.1 20 = M.2.1 20 → ((i_in i 0 5 = false ∧ v = -2 ∧ refd M M1 (-2) 2) ∨ (i_in i 0 5 = true ∧ mz l = none ∧ v = -5 ∧ refd M M1 (-5) 5) ∨ (∃ k : Nat, k < 6 ∧ i = Int32.ofNat k ∧ ∃ U Lo, mz l = some (U, Lo) ∧ v = c_f4 (r_v (M.2.1 109) 0) (r_v (M.2.1 109) 1) (r_v (M.2.1 109) 2) (z_mv l U Lo) ∧ actd M M1 2 (N_l4 (M.2.1 109) k (z_mv l U Lo)))) → K (some (.int v)) M1) : ip_wp X 113 0 [.ref 0, .int i, .long l, .retAddr 1] [] M K := by
  have hi : ai_hi cx_39.2.2.2.2 = true := by decide +kernel
  have h19 : ai_may cx_39.2.2.2.2 19 2 = false := by decide +kernel
  have h194 : ai_may cx_39.2.2.2.2 19 4 = false := by decide +kernel
  have h20 : ai_nq 20 cx_39.2.2.2.2 = true := by decide +kernel
  refine ip_wp_and (K1 := fun rr M1 => ∃ v : Int32, rr = some (.int v) ∧ ip_G M1 ∧ ai_inv ai_Tb M1 ∧ hig M M1 ∧ M1.2.1 19 2 = M.2.1 19 2 ∧ M1.2.1 19 4 = M.2.1 19 4 ∧ M1.2.1 20 = M.2.1 20) (K2 := fun rr M1 => ∃ v : Int32, rr = some (.int v) ∧ ((i_in i 0 5 = false ∧ v = -2 ∧ refd M M1 (-2) 2) ∨ (i_in i 0 5 = true ∧ mz l = none ∧ v = -5 ∧ refd M M1 (-5) 5) ∨ (∃ k : Nat, k < 6 ∧ i = Int32.ofNat k ∧ ∃ U Lo, mz l = some (U, Lo) ∧ v = c_f4 (r_v (M.2.1 109) 0) (r_v (M.2.1 109) 1) (r_v (M.2.1 109) 2) (z_mv l U Lo) ∧ actd M M1 2 (N_l4 (M.2.1 109) k (z_mv l U Lo))))) ?_ ?_ ?_
  · refine vx_39 X M [.ref 0, .int i, .long l] _ (a2_r (a2_i (a2_l (a2_n)))) hG hI (fun rr M1 hr hG1 hI1 hf => ?_)
    obtain ⟨q, rfl⟩ := ar_i hr
    exact ⟨q, rfl, hG1, hI1, hig_of hi hf, hf.1 19 2 h19, hf.1 19 4 h194, funext fun j => hf.1 20 j (ai_nq_ok h20 j)⟩
  · exact x0_measure X M _ i l hG hI gi gj (fun e M1 rd => ⟨_, rfl, Or.inl ⟨e, rfl, rd⟩⟩) (fun e z M1 rd => ⟨_, rfl, Or.inr (Or.inl ⟨e, z, rfl, rd⟩)⟩) (fun k hk ek U Lo em _ M1 ac => ⟨_, rfl, Or.inr (Or.inr (⟨k, hk, ek, U, Lo, em, rfl, ac⟩))⟩) (fun _ _ em => mz_v4 em)
  · rintro rr M1 ⟨v, rfl, a1, a2, a3, a4, a5, a6⟩ ⟨w, ew, hx⟩
    cases ew
    exact h v M1 a1 a2 a3 a4 a5 a6 hx

set_option maxHeartbeats 40000000 in
set_option maxRecDepth 100000 in
theorem xx_combine (X : ip_X) (M : ip_H) (K : Option Value → ip_H → Prop) (how : Int32) (i : Int32) (j : Int32) (k : Int32) (hG : ip_G M) (hI : ai_inv ai_Tb M) (gi : Ri M) (gq : Rq M) (gj : JJ M) (h : ∀ v M1, ip_G M1 → ai_inv ai_Tb M1 → hig M M1 → M1.2.1 19 2 = M.2.1 19 2 → M1.2.1 19 4 = M.2.1 19 4 → M1.2.1 20 = M.2.1 20 → ((cb_c (M.2.1 109) how i j k = 1 ∧ v = -1 ∧ refd M M1 (-1) 1) ∨ (cb_c (M.2.1 109) how i j k = 2 ∧ v = -2 ∧ refd M M1 (-2) 2) ∨ (cb_c (M.2.1 109) how i j k = 4 ∧ v = -4 ∧ refd M M1 (-4) 4) ∨ (cb_c (M.2.1 109) how i j k = 5 ∧ v = -5 ∧ refd M M1 (-5) 5) ∨ (cb_c (M.2.1 109) how i j k = 0 ∧ v = (c_f4 (r_v (M.2.1 109) 0) (r_v (M.2.1 109) 1) (r_v (M.2.1 109) 2) (cb_z (M.2.1 109) how i j)) ∧ actd M M1 3 (N_l4 (M.2.1 109) k.toNatClampNeg (cb_z (M.2.1 109) how i j)))) → K (some (.int v)) M1) : ip_wp X 114 0 [.ref 0, .int how, .int i, .int j, .int k] [] M K := by
  have hi : ai_hi cx_194.2.2.2.2 = true := by decide +kernel
  have h19 : ai_may cx_194.2.2.2.2 19 2 = false := by decide +kernel
  have h194 : ai_may cx_194.2.2.2.2 19 4 = false := by decide +kernel
  have h20 : ai_nq 20 cx_194.2.2.2.2 = true := by decide +kernel
  refine ip_wp_and (K1 := fun rr M1 => ∃ v : Int32, rr = some (.int v) ∧ ip_G M1 ∧ ai_inv ai_Tb M1 ∧ hig M M1 ∧ M1.2.1 19 2 = M.2.1 19 2 ∧ M1.2.1 19 4 = M.2.1 19 4 ∧ M1.2.1 20 = M.2.1 20) (K2 := fun rr M1 => ∃ v : Int32, rr = some (.int v) ∧ ((cb_c (M.2.1 109) how i j k = 1 ∧ v = -1 ∧ refd M M1 (-1) 1) ∨ (cb_c (M.2.1 109) how i j k = 2 ∧ v = -2 ∧ refd M M1 (-2) 2) ∨ (cb_c (M.2.1 109) how i j k = 4 ∧ v = -4 ∧ refd M M1 (-4) 4) ∨ (cb_c (M.2.1 109) how i j k = 5 ∧ v = -5 ∧ refd M M1 (-5) 5) ∨ (cb_c (M.2.1 109) how i j k = 0 ∧ v = (c_f4 (r_v (M.2.1 109) 0) (r_v (M.2.1 109) 1) (r_v (M.2.1 109) 2) (cb_z (M.2.1 109) how i j)) ∧ actd M M1 3 (N_l4 (M.2.1 109) k.toNatClampNeg (cb_z (M.2.1 109) how i j))))) ?_ ?_ ?_
  · refine vx_194 X M [.ref 0, .int how, .int i, .int j, .int k] _ (a2_r (a2_i (a2_i (a2_i (a2_i (a2_n)))))) hG hI (fun rr M1 hr hG1 hI1 hf => ?_)
    obtain ⟨q, rfl⟩ := ar_i hr
    exact ⟨q, rfl, hG1, hI1, hig_of hi hf, hf.1 19 2 h19, hf.1 19 4 h194, funext fun j => hf.1 20 j (ai_nq_ok h20 j)⟩
  · exact x0_combine X M _ how i j k hG hI gi gj (fun c M1 rd => ⟨_, rfl, Or.inl ⟨c, rfl, rd⟩⟩) (fun c M1 rd => ⟨_, rfl, Or.inr (Or.inl ⟨c, rfl, rd⟩)⟩) (fun c M1 rd => ⟨_, rfl, Or.inr (Or.inr (Or.inl ⟨c, rfl, rd⟩))⟩) (fun c M1 rd => ⟨_, rfl, Or.inr (Or.inr (Or.inr (Or.inl ⟨c, rfl, rd⟩)))⟩) (fun c M1 ac => ⟨_, rfl, Or.inr (Or.inr (Or.inr (Or.inr (⟨c, rfl, ac⟩))))⟩)
  · rintro rr M1 ⟨v, rfl, a1, a2, a3, a4, a5, a6⟩ ⟨w, ew, hx⟩
    cases ew
    exact h v M1 a1 a2 a3 a4 a5 a6 hx

set_option maxHeartbeats 40000000 in
set_option maxRecDepth 100000 in
theorem xx_begin (X : ip_X) (M : ip_H) (K : Option Value → ip_H → Prop) (i : Int32) (j : Int32) (hG : ip_G M) (hI : ai_inv ai_Tb M) (gi : Ri M) (gq : Rq M) (gj : JJ M) (h : ∀ v M1, ip_G M1 → ai_inv ai_Tb M1 → hig M M1 → M1.2.1 19 2 = M.2.1 19 2 → M1.2.1 19 4 = M.2.1 19 4 → M1.2.1 20 = M.2.1 20 → (((i_in i 0 5 && i_in j 0 5) = false ∧ v = -2 ∧ refd M M1 (-2) 2) ∨ (∃ k l : Nat, k < 6 ∧ l < 6 ∧ i = Int32.ofNat k ∧ j = Int32.ofNat l ∧ c_cb (M.2.1 109) (M.2.1 109 0).toInt (M.2.1 109 1).toInt (M.2.1 109 2).toInt (9 + 4 * k) (9 + 4 * l) = false ∧ v = -4 ∧ refd M M1 (-4) 4) ∨ (∃ k l : Nat, k < 6 ∧ l < 6 ∧ i = Int32.ofNat k ∧ j = Int32.ofNat l ∧ c_cb (M.2.1 109) (M.2.1 109 0).toInt (M.2.1 109 1).toInt (M.2.1 109 2).toInt (9 + 4 * k) (9 + 4 * l) = true ∧ v = q_fu (N_bg (M.2.1 109) k l (M.2.1 108 3)) 0 ∧ actd M M1 4 (N_bg (M.2.1 109) k l (M.2.1 108 3)))) → K (some (.int v)) M1) : ip_wp X 115 0 [.ref 0, .int i, .int j] [] M K := by
  have hi : ai_hi cx_280.2.2.2.2 = true := by decide +kernel
  have h19 : ai_may cx_280.2.2.2.2 19 2 = false := by decide +kernel
  have h194 : ai_may cx_280.2.2.2.2 19 4 = false := by decide +kernel
  have h20 : ai_nq 20 cx_280.2.2.2.2 = true := by decide +kernel
  refine ip_wp_and (K1 := fun rr M1 => ∃ v : Int32, rr = some (.int v) ∧ ip_G M1 ∧ ai_inv ai_Tb M1 ∧ hig M M1 ∧ M1.2.1 19 2 = M.2.1 19 2 ∧ M1.2.1 19 4 = M.2.1 19 4 ∧ M1.2.1 20 = M.2.1 20) (K2 := fun rr M1 => ∃ v : Int32, rr = some (.int v) ∧ (((i_in i 0 5 && i_in j 0 5) = false ∧ v = -2 ∧ refd M M1 (-2) 2) ∨ (∃ k l : Nat, k < 6 ∧ l < 6 ∧ i = Int32.ofNat k ∧ j = Int32.ofNat l ∧ c_cb (M.2.1 109) (M.2.1 109 0).toInt (M.2.1 109 1).toInt (M.2.1 109 2).toInt (9 + 4 * k) (9 + 4 * l) = false ∧ v = -4 ∧ refd M M1 (-4) 4) ∨ (∃ k l : Nat, k < 6 ∧ l < 6 ∧ i = Int32.ofNat k ∧ j = Int32.ofNat l ∧ c_cb (M.2.1 109) (M.2.1 109 0).toInt (M.2.1 109 1).toInt (M.2.1 109 2).toInt (9 + 4 * k) (9 + 4 * l) = true ∧ v = q_fu (N_bg (M.2.1 109) k l (M.2.1 108 3)) 0 ∧ actd M M1 4 (N_bg (M.2.1 109) k l (M.2.1 108 3))))) ?_ ?_ ?_
  · refine vx_280 X M [.ref 0, .int i, .int j] _ (a2_r (a2_i (a2_i (a2_n)))) hG hI (fun rr M1 hr hG1 hI1 hf => ?_)
    obtain ⟨q, rfl⟩ := ar_i hr
    exact ⟨q, rfl, hG1, hI1, hig_of hi hf, hf.1 19 2 h19, hf.1 19 4 h194, funext fun j => hf.1 20 j (ai_nq_ok h20 j)⟩
  · exact x0_begin X M _ i j hG hI gi gq gj (fun c M1 rd => ⟨_, rfl, Or.inl ⟨c, rfl, rd⟩⟩) (fun k l hk hl ek el cb M1 rd => ⟨_, rfl, Or.inr (Or.inl ⟨k, l, hk, hl, ek, el, cb, rfl, rd⟩)⟩) (fun k l hk hl ek el cb M1 ac => ⟨_, rfl, Or.inr (Or.inr (⟨k, l, hk, hl, ek, el, cb, rfl, ac⟩))⟩)
  · rintro rr M1 ⟨v, rfl, a1, a2, a3, a4, a5, a6⟩ ⟨w, ew, hx⟩
    cases ew
    exact h v M1 a1 a2 a3 a4 a5 a6 hx

set_option maxHeartbeats 40000000 in
set_option maxRecDepth 100000 in
theorem xx_step (X : ip_X) (M : ip_H) (K : Option Value → ip_H → Prop)  (hG : ip_G M) (hI : ai_inv ai_Tb M) (gi : Ri M) (gq : Rq M) (gj : JJ M) (h : ∀ v M1, ip_G M1 → ai_inv ai_Tb M1 → hig M M1 → M1.2.1 19 2 = M.2.1 19 2 → M1.2.1 19 4 = M.2.1 19 4 → M1.2.1 20 = M.2.1 20 → (((M.2.1 109 3 = 0 ∨ q_e (M.2.1 109) (r_k (M.2.1 109)) = true) ∧ v = -3 ∧ refd M M1 (-3) 3) ∨ (¬ M.2.1 109 3 = 0 ∧ q_e (M.2.1 109) (r_k (M.2.1 109)) = false ∧ ((r_k (M.2.1 109)) = 60 ∨ q_n (M.2.1 109) (r_k (M.2.1 109)) = false) ∧ v = -5 ∧ refd M M1 (-5) 5) ∨ (¬ M.2.1 109 3 = 0 ∧ q_e (M.2.1 109) (r_k (M.2.1 109)) = false ∧ (r_k (M.2.1 109)) < 60 ∧ q_n (M.2.1 109) (r_k (M.2.1 109)) = true ∧ v = Int32.ofNat ((r_k (M.2.1 109)) + 1) ∧ actd M M1 5 (stp (M.2.1 109)))) → K (some (.int v)) M1) : ip_wp X 116 0 [.ref 0, .retAddr 1] [] M K := by
  have hi : ai_hi cx_303.2.2.2.2 = true := by decide +kernel
  have h19 : ai_may cx_303.2.2.2.2 19 2 = false := by decide +kernel
  have h194 : ai_may cx_303.2.2.2.2 19 4 = false := by decide +kernel
  have h20 : ai_nq 20 cx_303.2.2.2.2 = true := by decide +kernel
  refine ip_wp_and (K1 := fun rr M1 => ∃ v : Int32, rr = some (.int v) ∧ ip_G M1 ∧ ai_inv ai_Tb M1 ∧ hig M M1 ∧ M1.2.1 19 2 = M.2.1 19 2 ∧ M1.2.1 19 4 = M.2.1 19 4 ∧ M1.2.1 20 = M.2.1 20) (K2 := fun rr M1 => ∃ v : Int32, rr = some (.int v) ∧ (((M.2.1 109 3 = 0 ∨ q_e (M.2.1 109) (r_k (M.2.1 109)) = true) ∧ v = -3 ∧ refd M M1 (-3) 3) ∨ (¬ M.2.1 109 3 = 0 ∧ q_e (M.2.1 109) (r_k (M.2.1 109)) = false ∧ ((r_k (M.2.1 109)) = 60 ∨ q_n (M.2.1 109) (r_k (M.2.1 109)) = false) ∧ v = -5 ∧ refd M M1 (-5) 5) ∨ (¬ M.2.1 109 3 = 0 ∧ q_e (M.2.1 109) (r_k (M.2.1 109)) = false ∧ (r_k (M.2.1 109)) < 60 ∧ q_n (M.2.1 109) (r_k (M.2.1 109)) = true ∧ v = Int32.ofNat ((r_k (M.2.1 109)) + 1) ∧ actd M M1 5 (stp (M.2.1 109))))) ?_ ?_ ?_
  · refine vx_303 X M [.ref 0] _ (a2_r (a2_n)) hG hI (fun rr M1 hr hG1 hI1 hf => ?_)
    obtain ⟨q, rfl⟩ := ar_i hr
    exact ⟨q, rfl, hG1, hI1, hig_of hi hf, hf.1 19 2 h19, hf.1 19 4 h194, funext fun j => hf.1 20 j (ai_nq_ok h20 j)⟩
  · exact x0_step X M _ hG hI gi gq gj (fun c M1 rd => ⟨_, rfl, Or.inl ⟨c, rfl, rd⟩⟩) (fun o e c M1 rd => ⟨_, rfl, Or.inr (Or.inl ⟨o, e, c, rfl, rd⟩)⟩) (fun o e l n M1 ac => ⟨_, rfl, Or.inr (Or.inr (⟨o, e, l, n, rfl, ac⟩))⟩)
  · rintro rr M1 ⟨v, rfl, a1, a2, a3, a4, a5, a6⟩ ⟨w, ew, hx⟩
    cases ew
    exact h v M1 a1 a2 a3 a4 a5 a6 hx

set_option maxHeartbeats 40000000 in
set_option maxRecDepth 100000 in
theorem xx_go (X : ip_X) (M : ip_H) (K : Option Value → ip_H → Prop) (n : Int32) (hG : ip_G M) (hI : ai_inv ai_Tb M) (gi : Ri M) (gq : Rq M) (gj : JJ M) (h : ∀ v M1, ip_G M1 → ai_inv ai_Tb M1 → hig M M1 → M1.2.1 19 2 = M.2.1 19 2 → M1.2.1 19 4 = M.2.1 19 4 → M1.2.1 20 = M.2.1 20 → ((i_in n 1 60 = false ∧ v = -1 ∧ refd M M1 (-1) 1) ∨ (i_in n 1 60 = true ∧ (M.2.1 109 3 = 0 ∨ q_e (M.2.1 109) (r_k (M.2.1 109)) = true) ∧ v = -3 ∧ refd M M1 (-3) 3) ∨ (i_in n 1 60 = true ∧ ¬ M.2.1 109 3 = 0 ∧ q_e (M.2.1 109) (r_k (M.2.1 109)) = false ∧ ((r_k (M.2.1 109)) = 60 ∨ q_n (M.2.1 109) (r_k (M.2.1 109)) = false) ∧ v = -5 ∧ refd M M1 (-5) 5) ∨ (∃ k : Nat, 1 ≤ k ∧ k ≤ 60 ∧ n = Int32.ofNat k ∧ ¬ M.2.1 109 3 = 0 ∧ q_e (M.2.1 109) (r_k (M.2.1 109)) = false ∧ (r_k (M.2.1 109)) < 60 ∧ q_n (M.2.1 109) (r_k (M.2.1 109)) = true ∧ v = Int32.ofNat (gos k (M.2.1 109)).1 ∧ actd M M1 6 (gos k (M.2.1 109)).2)) → K (some (.int v)) M1) : ip_wp X 117 0 [.ref 0, .int n, .retAddr 1, .retAddr 1, .retAddr 1, .retAddr 1] [] M K := by
  have hi : ai_hi cx_304.2.2.2.2 = true := by decide +kernel
  have h19 : ai_may cx_304.2.2.2.2 19 2 = false := by decide +kernel
  have h194 : ai_may cx_304.2.2.2.2 19 4 = false := by decide +kernel
  have h20 : ai_nq 20 cx_304.2.2.2.2 = true := by decide +kernel
  refine ip_wp_and (K1 := fun rr M1 => ∃ v : Int32, rr = some (.int v) ∧ ip_G M1 ∧ ai_inv ai_Tb M1 ∧ hig M M1 ∧ M1.2.1 19 2 = M.2.1 19 2 ∧ M1.2.1 19 4 = M.2.1 19 4 ∧ M1.2.1 20 = M.2.1 20) (K2 := fun rr M1 => ∃ v : Int32, rr = some (.int v) ∧ ((i_in n 1 60 = false ∧ v = -1 ∧ refd M M1 (-1) 1) ∨ (i_in n 1 60 = true ∧ (M.2.1 109 3 = 0 ∨ q_e (M.2.1 109) (r_k (M.2.1 109)) = true) ∧ v = -3 ∧ refd M M1 (-3) 3) ∨ (i_in n 1 60 = true ∧ ¬ M.2.1 109 3 = 0 ∧ q_e (M.2.1 109) (r_k (M.2.1 109)) = false ∧ ((r_k (M.2.1 109)) = 60 ∨ q_n (M.2.1 109) (r_k (M.2.1 109)) = false) ∧ v = -5 ∧ refd M M1 (-5) 5) ∨ (∃ k : Nat, 1 ≤ k ∧ k ≤ 60 ∧ n = Int32.ofNat k ∧ ¬ M.2.1 109 3 = 0 ∧ q_e (M.2.1 109) (r_k (M.2.1 109)) = false ∧ (r_k (M.2.1 109)) < 60 ∧ q_n (M.2.1 109) (r_k (M.2.1 109)) = true ∧ v = Int32.ofNat (gos k (M.2.1 109)).1 ∧ actd M M1 6 (gos k (M.2.1 109)).2))) ?_ ?_ ?_
  · refine vx_304 X M [.ref 0, .int n] _ (a2_r (a2_i (a2_n))) hG hI (fun rr M1 hr hG1 hI1 hf => ?_)
    obtain ⟨q, rfl⟩ := ar_i hr
    exact ⟨q, rfl, hG1, hI1, hig_of hi hf, hf.1 19 2 h19, hf.1 19 4 h194, funext fun j => hf.1 20 j (ai_nq_ok h20 j)⟩
  · exact x0_go X M _ n hG hI gi gq gj (fun c M1 rd => ⟨_, rfl, Or.inl ⟨c, rfl, rd⟩⟩) (fun c o M1 rd => ⟨_, rfl, Or.inr (Or.inl ⟨c, o, rfl, rd⟩)⟩) (fun c o e q M1 rd => ⟨_, rfl, Or.inr (Or.inr (Or.inl ⟨c, o, e, q, rfl, rd⟩))⟩) (fun k h1 h2 ek o e l q M1 ac => ⟨_, rfl, Or.inr (Or.inr (Or.inr (⟨k, h1, h2, ek, o, e, l, q, rfl, ac⟩)))⟩)
  · rintro rr M1 ⟨v, rfl, a1, a2, a3, a4, a5, a6⟩ ⟨w, ew, hx⟩
    cases ew
    exact h v M1 a1 a2 a3 a4 a5 a6 hx

set_option maxHeartbeats 40000000 in
set_option maxRecDepth 100000 in
theorem xx_keep (X : ip_X) (M : ip_H) (K : Option Value → ip_H → Prop) (i : Int32) (j : Int32) (hG : ip_G M) (hI : ai_inv ai_Tb M) (gi : Ri M) (gq : Rq M) (gj : JJ M) (h : ∀ v M1, ip_G M1 → ai_inv ai_Tb M1 → hig M M1 → M1.2.1 19 2 = M.2.1 19 2 → M1.2.1 19 4 = M.2.1 19 4 → M1.2.1 20 = M.2.1 20 → (((i_in i 0 5 && i_in j 0 5) = false ∧ v = -2 ∧ refd M M1 (-2) 2) ∨ ((i_in i 0 5 && i_in j 0 5) = true ∧ M.2.1 109 3 = 0 ∧ v = -3 ∧ refd M M1 (-3) 3) ∨ (∃ k l : Nat, k < 6 ∧ l < 6 ∧ i = Int32.ofNat k ∧ j = Int32.ofNat l ∧ ¬ M.2.1 109 3 = 0 ∧ v = q_fv (M.2.1 109) (r_k (M.2.1 109)) ∧ actd M M1 7 (N_l4 (N_l4 (M.2.1 109) k (qi (M.2.1 109) (153 + 8 * r_k (M.2.1 109)))) l (qi (M.2.1 109) (153 + 8 * r_k (M.2.1 109) + 4))))) → K (some (.int v)) M1) : ip_wp X 118 0 [.ref 0, .int i, .int j] [] M K := by
  have hi : ai_hi cx_305.2.2.2.2 = true := by decide +kernel
  have h19 : ai_may cx_305.2.2.2.2 19 2 = false := by decide +kernel
  have h194 : ai_may cx_305.2.2.2.2 19 4 = false := by decide +kernel
  have h20 : ai_nq 20 cx_305.2.2.2.2 = true := by decide +kernel
  refine ip_wp_and (K1 := fun rr M1 => ∃ v : Int32, rr = some (.int v) ∧ ip_G M1 ∧ ai_inv ai_Tb M1 ∧ hig M M1 ∧ M1.2.1 19 2 = M.2.1 19 2 ∧ M1.2.1 19 4 = M.2.1 19 4 ∧ M1.2.1 20 = M.2.1 20) (K2 := fun rr M1 => ∃ v : Int32, rr = some (.int v) ∧ (((i_in i 0 5 && i_in j 0 5) = false ∧ v = -2 ∧ refd M M1 (-2) 2) ∨ ((i_in i 0 5 && i_in j 0 5) = true ∧ M.2.1 109 3 = 0 ∧ v = -3 ∧ refd M M1 (-3) 3) ∨ (∃ k l : Nat, k < 6 ∧ l < 6 ∧ i = Int32.ofNat k ∧ j = Int32.ofNat l ∧ ¬ M.2.1 109 3 = 0 ∧ v = q_fv (M.2.1 109) (r_k (M.2.1 109)) ∧ actd M M1 7 (N_l4 (N_l4 (M.2.1 109) k (qi (M.2.1 109) (153 + 8 * r_k (M.2.1 109)))) l (qi (M.2.1 109) (153 + 8 * r_k (M.2.1 109) + 4)))))) ?_ ?_ ?_
  · refine vx_305 X M [.ref 0, .int i, .int j] _ (a2_r (a2_i (a2_i (a2_n)))) hG hI (fun rr M1 hr hG1 hI1 hf => ?_)
    obtain ⟨q, rfl⟩ := ar_i hr
    exact ⟨q, rfl, hG1, hI1, hig_of hi hf, hf.1 19 2 h19, hf.1 19 4 h194, funext fun j => hf.1 20 j (ai_nq_ok h20 j)⟩
  · exact x0_keep X M _ i j hG hI gi gq gj (fun c M1 rd => ⟨_, rfl, Or.inl ⟨c, rfl, rd⟩⟩) (fun c o M1 rd => ⟨_, rfl, Or.inr (Or.inl ⟨c, o, rfl, rd⟩)⟩) (fun k l hk hl ek el o M1 ac => ⟨_, rfl, Or.inr (Or.inr (⟨k, l, hk, hl, ek, el, o, rfl, ac⟩))⟩)
  · rintro rr M1 ⟨v, rfl, a1, a2, a3, a4, a5, a6⟩ ⟨w, ew, hx⟩
    cases ew
    exact h v M1 a1 a2 a3 a4 a5 a6 hx

set_option maxHeartbeats 40000000 in
set_option maxRecDepth 100000 in
theorem xx_solve (X : ip_X) (M : ip_H) (K : Option Value → ip_H → Prop)  (hG : ip_G M) (hI : ai_inv ai_Tb M) (gi : Ri M) (gq : Rq M) (gj : JJ M) (m : Nat) (hm40 : m ≤ 40) (hm8 : M.2.1 109 8 = Int32.ofNat m) (hd : dgs (M.2.1 109) 33 m) (h : ∀ v M1, ip_G M1 → ai_inv ai_Tb M1 → hig M M1 → M1.2.1 19 2 = M.2.1 19 2 → M1.2.1 19 4 = M.2.1 19 4 → M1.2.1 20 = M.2.1 20 → ((m = 0 ∧ v = -4 ∧ refd M M1 (-4) 4) ∨ (¬ m = 0 ∧ ¬ so_ok (M.2.1 109) m ∧ v = -5 ∧ refd M M1 (-5) 5) ∨ (¬ m = 0 ∧ so_ok (M.2.1 109) m ∧ v = so_v (M.2.1 109) m ∧ actd M M1 9 (N_so (M.2.1 109) m))) → K (some (.int v)) M1) : ip_wp X 122 0 [.ref 0] [] M K := by
  have hi : ai_hi cx_336.2.2.2.2 = true := by decide +kernel
  have h19 : ai_may cx_336.2.2.2.2 19 2 = false := by decide +kernel
  have h194 : ai_may cx_336.2.2.2.2 19 4 = false := by decide +kernel
  have h20 : ai_nq 20 cx_336.2.2.2.2 = true := by decide +kernel
  refine ip_wp_and (K1 := fun rr M1 => ∃ v : Int32, rr = some (.int v) ∧ ip_G M1 ∧ ai_inv ai_Tb M1 ∧ hig M M1 ∧ M1.2.1 19 2 = M.2.1 19 2 ∧ M1.2.1 19 4 = M.2.1 19 4 ∧ M1.2.1 20 = M.2.1 20) (K2 := fun rr M1 => ∃ v : Int32, rr = some (.int v) ∧ ((m = 0 ∧ v = -4 ∧ refd M M1 (-4) 4) ∨ (¬ m = 0 ∧ ¬ so_ok (M.2.1 109) m ∧ v = -5 ∧ refd M M1 (-5) 5) ∨ (¬ m = 0 ∧ so_ok (M.2.1 109) m ∧ v = so_v (M.2.1 109) m ∧ actd M M1 9 (N_so (M.2.1 109) m)))) ?_ ?_ ?_
  · refine vx_336 X M [.ref 0] _ (a2_r (a2_n)) hG hI (fun rr M1 hr hG1 hI1 hf => ?_)
    obtain ⟨q, rfl⟩ := ar_i hr
    exact ⟨q, rfl, hG1, hI1, hig_of hi hf, hf.1 19 2 h19, hf.1 19 4 h194, funext fun j => hf.1 20 j (ai_nq_ok h20 j)⟩
  · exact x0_solve X M _ hG hI gi gq gj m hm40 hm8 hd (fun c M1 rd => ⟨_, rfl, Or.inl ⟨c, rfl, rd⟩⟩) (fun c n M1 rd => ⟨_, rfl, Or.inr (Or.inl ⟨c, n, rfl, rd⟩)⟩) (fun c o M1 ac => ⟨_, rfl, Or.inr (Or.inr (⟨c, o, rfl, ac⟩))⟩)
  · rintro rr M1 ⟨v, rfl, a1, a2, a3, a4, a5, a6⟩ ⟨w, ew, hx⟩
    cases ew
    exact h v M1 a1 a2 a3 a4 a5 a6 hx

set_option maxHeartbeats 40000000 in
set_option maxRecDepth 100000 in
theorem xx_undo (X : ip_X) (M : ip_H) (K : Option Value → ip_H → Prop)  (hG : ip_G M) (hI : ai_inv ai_Tb M) (gi : Ri M) (gq : Rq M) (gj : JJ M) (h : ∀ v M1, ip_G M1 → ai_inv ai_Tb M1 → hig M M1 → M1.2.1 19 2 = M.2.1 19 2 → M1.2.1 19 4 = M.2.1 19 4 → M1.2.1 20 = M.2.1 20 → ((M.2.1 108 12 = 0 ∧ v = -4 ∧ refd M M1 (-4) 4) ∨ (∃ n : Nat, n ≤ 7 ∧ M.2.1 108 12 = Int32.ofNat (n + 1) ∧ v = M.2.1 113 n ∧ undn M M1 n)) → K (some (.int v)) M1) : ip_wp X 124 0 [.ref 0] [] M K := by
  have hi : ai_hi cx_355.2.2.2.2 = true := by decide +kernel
  have h19 : ai_may cx_355.2.2.2.2 19 2 = false := by decide +kernel
  have h194 : ai_may cx_355.2.2.2.2 19 4 = false := by decide +kernel
  have h20 : ai_nq 20 cx_355.2.2.2.2 = true := by decide +kernel
  refine ip_wp_and (K1 := fun rr M1 => ∃ v : Int32, rr = some (.int v) ∧ ip_G M1 ∧ ai_inv ai_Tb M1 ∧ hig M M1 ∧ M1.2.1 19 2 = M.2.1 19 2 ∧ M1.2.1 19 4 = M.2.1 19 4 ∧ M1.2.1 20 = M.2.1 20) (K2 := fun rr M1 => ∃ v : Int32, rr = some (.int v) ∧ ((M.2.1 108 12 = 0 ∧ v = -4 ∧ refd M M1 (-4) 4) ∨ (∃ n : Nat, n ≤ 7 ∧ M.2.1 108 12 = Int32.ofNat (n + 1) ∧ v = M.2.1 113 n ∧ undn M M1 n))) ?_ ?_ ?_
  · refine vx_355 X M [.ref 0] _ (a2_r (a2_n)) hG hI (fun rr M1 hr hG1 hI1 hf => ?_)
    obtain ⟨q, rfl⟩ := ar_i hr
    exact ⟨q, rfl, hG1, hI1, hig_of hi hf, hf.1 19 2 h19, hf.1 19 4 h194, funext fun j => hf.1 20 j (ai_nq_ok h20 j)⟩
  · exact x0_undo X M _ hG hI gi gq gj (fun c M1 rd => ⟨_, rfl, Or.inl ⟨c, rfl, rd⟩⟩) (fun n hn en M1 u => ⟨_, rfl, Or.inr (⟨n, hn, en, rfl, u⟩)⟩)
  · rintro rr M1 ⟨v, rfl, a1, a2, a3, a4, a5, a6⟩ ⟨w, ew, hx⟩
    cases ew
    exact h v M1 a1 a2 a3 a4 a5 a6 hx

set_option maxHeartbeats 40000000 in
set_option maxRecDepth 100000 in
theorem xx_image (X : ip_X) (M : ip_H) (K : Option Value → ip_H → Prop) (k : Int32) (hG : ip_G M) (hI : ai_inv ai_Tb M) (gi : Ri M) (gq : Rq M) (gj : JJ M) (h : ∀ v M1, ip_G M1 → ai_inv ai_Tb M1 → hig M M1 → M1.2.1 19 2 = M.2.1 19 2 → M1.2.1 19 4 = M.2.1 19 4 → M1.2.1 20 = M.2.1 20 → ((i_in k 0 1 = false ∧ v = -1 ∧ refd M M1 (-1) 1) ∨ (∃ n : Nat, n ≤ 1 ∧ k = Int32.ofNat n ∧ v = c_sn (M.2.1 109) ∧ imgd M M1 n)) → K (some (.int v)) M1) : ip_wp X 125 0 [.ref 0, .int k] [] M K := by
  have hi : ai_hi cx_358.2.2.2.2 = true := by decide +kernel
  have h19 : ai_may cx_358.2.2.2.2 19 2 = false := by decide +kernel
  have h194 : ai_may cx_358.2.2.2.2 19 4 = false := by decide +kernel
  have h20 : ai_nq 20 cx_358.2.2.2.2 = true := by decide +kernel
  refine ip_wp_and (K1 := fun rr M1 => ∃ v : Int32, rr = some (.int v) ∧ ip_G M1 ∧ ai_inv ai_Tb M1 ∧ hig M M1 ∧ M1.2.1 19 2 = M.2.1 19 2 ∧ M1.2.1 19 4 = M.2.1 19 4 ∧ M1.2.1 20 = M.2.1 20) (K2 := fun rr M1 => ∃ v : Int32, rr = some (.int v) ∧ ((i_in k 0 1 = false ∧ v = -1 ∧ refd M M1 (-1) 1) ∨ (∃ n : Nat, n ≤ 1 ∧ k = Int32.ofNat n ∧ v = c_sn (M.2.1 109) ∧ imgd M M1 n))) ?_ ?_ ?_
  · refine vx_358 X M [.ref 0, .int k] _ (a2_r (a2_i (a2_n))) hG hI (fun rr M1 hr hG1 hI1 hf => ?_)
    obtain ⟨q, rfl⟩ := ar_i hr
    exact ⟨q, rfl, hG1, hI1, hig_of hi hf, hf.1 19 2 h19, hf.1 19 4 h194, funext fun j => hf.1 20 j (ai_nq_ok h20 j)⟩
  · exact x0_image X M _ hG hI gi gq gj k (fun c M1 rd => ⟨_, rfl, Or.inl ⟨c, rfl, rd⟩⟩) (fun m hm em M1 u => ⟨_, rfl, Or.inr (⟨m, hm, em, rfl, u⟩)⟩)
  · rintro rr M1 ⟨v, rfl, a1, a2, a3, a4, a5, a6⟩ ⟨w, ew, hx⟩
    cases ew
    exact h v M1 a1 a2 a3 a4 a5 a6 hx

set_option maxHeartbeats 40000000 in
set_option maxRecDepth 100000 in
theorem xx_back (X : ip_X) (M : ip_H) (K : Option Value → ip_H → Prop) (k : Int32) (hG : ip_G M) (hI : ai_inv ai_Tb M) (gi : Ri M) (gq : Rq M) (gj : JJ M) (h : ∀ v M1, ip_G M1 → ai_inv ai_Tb M1 → hig M M1 → M1.2.1 19 2 = M.2.1 19 2 → M1.2.1 19 4 = M.2.1 19 4 → M1.2.1 20 = M.2.1 20 → ((i_in k 0 1 = false ∧ v = -1 ∧ refd M M1 (-1) 1) ∨ (∃ n : Nat, n ≤ 1 ∧ k = Int32.ofNat n ∧ M.2.1 117 n = 0 ∧ v = -2 ∧ refd M M1 (-2) 2) ∨ (∃ n : Nat, n ≤ 1 ∧ k = Int32.ofNat n ∧ ¬ M.2.1 117 n = 0 ∧ v = c_sn (iR M n) ∧ bakd M M1 n)) → K (some (.int v)) M1) : ip_wp X 126 0 [.ref 0, .int k] [] M K := by
  have hi : ai_hi cx_363.2.2.2.2 = true := by decide +kernel
  have h19 : ai_may cx_363.2.2.2.2 19 2 = false := by decide +kernel
  have h194 : ai_may cx_363.2.2.2.2 19 4 = false := by decide +kernel
  have h20 : ai_nq 20 cx_363.2.2.2.2 = true := by decide +kernel
  refine ip_wp_and (K1 := fun rr M1 => ∃ v : Int32, rr = some (.int v) ∧ ip_G M1 ∧ ai_inv ai_Tb M1 ∧ hig M M1 ∧ M1.2.1 19 2 = M.2.1 19 2 ∧ M1.2.1 19 4 = M.2.1 19 4 ∧ M1.2.1 20 = M.2.1 20) (K2 := fun rr M1 => ∃ v : Int32, rr = some (.int v) ∧ ((i_in k 0 1 = false ∧ v = -1 ∧ refd M M1 (-1) 1) ∨ (∃ n : Nat, n ≤ 1 ∧ k = Int32.ofNat n ∧ M.2.1 117 n = 0 ∧ v = -2 ∧ refd M M1 (-2) 2) ∨ (∃ n : Nat, n ≤ 1 ∧ k = Int32.ofNat n ∧ ¬ M.2.1 117 n = 0 ∧ v = c_sn (iR M n) ∧ bakd M M1 n))) ?_ ?_ ?_
  · refine vx_363 X M [.ref 0, .int k] _ (a2_r (a2_i (a2_n))) hG hI (fun rr M1 hr hG1 hI1 hf => ?_)
    obtain ⟨q, rfl⟩ := ar_i hr
    exact ⟨q, rfl, hG1, hI1, hig_of hi hf, hf.1 19 2 h19, hf.1 19 4 h194, funext fun j => hf.1 20 j (ai_nq_ok h20 j)⟩
  · exact x0_back X M _ hG hI gi gq gj k (fun c M1 rd => ⟨_, rfl, Or.inl ⟨c, rfl, rd⟩⟩) (fun m hm em z M1 rd => ⟨_, rfl, Or.inr (Or.inl ⟨m, hm, em, z, rfl, rd⟩)⟩) (fun m hm em z M1 u => ⟨_, rfl, Or.inr (Or.inr (⟨m, hm, em, z, rfl, u⟩))⟩)
  · rintro rr M1 ⟨v, rfl, a1, a2, a3, a4, a5, a6⟩ ⟨w, ew, hx⟩
    cases ew
    exact h v M1 a1 a2 a3 a4 a5 a6 hx

set_option maxHeartbeats 40000000 in
set_option maxRecDepth 100000 in
theorem xx_read (X : ip_X) (M : ip_H) (K : Option Value → ip_H → Prop) (hG : ip_G M) (hI : ai_inv ai_Tb M) (gi : Ri M) (gj : JJ M) (f : Nat) (hf : f ≤ 200) (h2 : M.2.1 19 2 = Int32.ofNat f) (h : ∀ v M1, ip_G M1 → ai_inv ai_Tb M1 → hig M M1 → M1.2.1 19 2 = 0 → M1.2.1 19 4 = z_rdf (kT M) f → M1.2.1 20 = M.2.1 20 → (((z_rd (kT M) f).1 = 0 ∧ v = -6 ∧ refd M M1 (-6) 6) ∨ ((z_rd (kT M) f).1 ≠ 0 ∧ v = Int32.ofNat (z_rd (kT M) f).1 ∧ actd M M1 8 (N_rd (M.2.1 109) (z_rd (kT M) f).2.1 (z_rd (kT M) f).1))) → K (some (.int v)) M1) : ip_wp X 121 0 [.ref 0, .retAddr 1] [] M K := by
  have hi : ai_hi cx_315.2.2.2.2 = true := by decide +kernel
  refine ip_wp_and (K1 := fun rr M1 => ∃ v : Int32, rr = some (.int v) ∧ ip_G M1 ∧ ai_inv ai_Tb M1 ∧ hig M M1) (K2 := fun rr M1 => ∃ v : Int32, rr = some (.int v) ∧ M1.2.1 19 2 = 0 ∧ M1.2.1 19 4 = z_rdf (kT M) f ∧ M1.2.1 20 = M.2.1 20 ∧ (((z_rd (kT M) f).1 = 0 ∧ v = -6 ∧ refd M M1 (-6) 6) ∨ ((z_rd (kT M) f).1 ≠ 0 ∧ v = Int32.ofNat (z_rd (kT M) f).1 ∧ actd M M1 8 (N_rd (M.2.1 109) (z_rd (kT M) f).2.1 (z_rd (kT M) f).1)))) ?_ ?_ ?_
  · refine vx_315 X M [.ref 0] _ (a2_r a2_n) hG hI (fun rr M1 hr hG1 hI1 hf => ?_)
    obtain ⟨q, rfl⟩ := ar_i hr
    exact ⟨q, rfl, hG1, hI1, hig_of hi hf⟩
  · exact x0_read X M _ hG hI gi gj f hf h2 (fun c M1 rd b1 b2 b3 => ⟨_, rfl, b1, b2, b3, Or.inl ⟨c, rfl, rd⟩⟩) (fun c _ M1 ac b1 b2 b3 => ⟨_, rfl, b1, b2, b3, Or.inr ⟨c, rfl, ac⟩⟩)
  · rintro rr M1 ⟨v, rfl, a1, a2, a3⟩ ⟨w, ew, b1, b2, b3, hx⟩
    cases ew
    exact h v M1 a1 a2 a3 b1 b2 b3 hx
