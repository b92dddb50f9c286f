-- CALLS OF THE CLASS between two calls
def ai_hi (V : ai_W) : Bool := (V.1.all fun p => decide (p.1 < 108) || (decide (1000 ≤ p.1) && decide (p.1 < 1108))) && V.2.all fun k => decide (k < 108) || (decide (1000 ≤ k) && decide (k < 1108))
theorem ai_hi_ok {V : ai_W} (h : ai_hi V = true) {a : Nat} (j : Nat) (h1 : 108 ≤ a) (h2 : a < 1000 ∨ (1108 ≤ a)) : ai_may V a j = false := by
  unfold ai_hi at h
  rw [Bool.and_eq_true] at h
  cases e : ai_may V a j
  · rfl
  · exfalso
    rw [ai_may_e] at e
    rw [Bool.or_eq_true, List.elem_iff, List.elem_iff] at e
    rcases e with e | e
    · have := List.all_eq_true.mp h.1 _ e
      simp only [Bool.or_eq_true, Bool.and_eq_true, decide_eq_true_eq] at this
      omega
    · have := List.all_eq_true.mp h.2 _ e
      simp only [Bool.or_eq_true, Bool.and_eq_true, decide_eq_true_eq] at this
      omega
/-- the reference's cells are as they were -/
def hig (M M1 : ip_H) : Prop := ∀ a, 108 ≤ a → a < 1000 → M1.2.1 a = M.2.1 a ∧ M1.2.2.1 a = M.2.2.1 a
theorem hig_of {V : ai_W} {M M1 : ip_H} (h : ai_hi V = true) (f : ai_fr V M M1) : hig M M1 := fun a h1 h2 => ⟨funext fun j => f.1 a j (ai_hi_ok h j h1 (Or.inl h2)), funext fun j => f.2 a j (ai_hi_ok h j (by omega) (Or.inr (by omega)))⟩
theorem Ri_hig {M M1 : ip_H} (h : hig M M1) (g : Ri M) : Ri M1 := by
  unfold Ri Rk at *
  rw [(h 108 (by decide) (by decide)).1, (h 109 (by decide) (by decide)).1, (h 110 (by decide) (by decide)).2, (h 112 (by decide) (by decide)).1, (h 114 (by decide) (by decide)).1, (h 115 (by decide) (by decide)).2, (h 116 (by decide) (by decide)).2, (h 117 (by decide) (by decide)).1]
  exact g
theorem a2_n : ai_two2 ai_sat [] [] := trivial
theorem a2_r {k : Nat} {ps : List ai_P} {vs : List Value} (h : ai_two2 ai_sat ps vs) : ai_two2 ai_sat (.r k :: ps) (.ref k :: vs) := ⟨rfl, h⟩
theorem a2_i {x : Int32} {ps : List ai_P} {vs : List Value} (h : ai_two2 ai_sat ps vs) : ai_two2 ai_sat (.i (-2147483648) 2147483647 :: ps) (.int x :: vs) := ⟨⟨x, rfl, by have := x.le_toInt; omega, by have := x.toInt_lt; omega⟩, h⟩
theorem a2_l {x : Int64} {ps : List ai_P} {vs : List Value} (h : ai_two2 ai_sat ps vs) : ai_two2 ai_sat (.l (-9223372036854775808) 9223372036854775807 :: ps) (.long x :: vs) := ⟨⟨x, rfl, by have := x.le_toInt; omega, by have := x.toInt_lt; omega⟩, h⟩
theorem ar_i {lo hi : Int} {r : Option Value} (h : ai_ret (some [.i lo hi]) r) : ∃ q : Int32, r = some (.int q) := by
  cases r with
  | none => exact h.elim
  | some v =>
    obtain ⟨p, hp, hv⟩ := h
    rw [List.mem_singleton] at hp
    subst hp
    obtain ⟨q, e, -⟩ := hv
    exact ⟨q, by rw [e]⟩
theorem ar_l {lo hi : Int} {r : Option Value} (h : ai_ret (some [.l lo hi]) r) : ∃ q : Int64, r = some (.long q) := by
  cases r with
  | none => exact h.elim
  | some v =>
    obtain ⟨p, hp, hv⟩ := h
    rw [List.mem_singleton] at hp
    subst hp
    obtain ⟨q, e, -⟩ := hv
    exact ⟨q, by rw [e]⟩
theorem ai_inv_low {M M1 : ip_H} (h : low M M1) (g : ai_inv ai_Tb M) : ai_inv ai_Tb M1 := by
  intro k j
  by_cases hk : k < 108
  · rw [(h k hk).1]
    exact g k j
  · have e : ai_TT ai_Tb k j = (-2147483648, 2147483647) := by
      unfold ai_TT
      have e1 : ai_f2 k j ai_Tb.1 = none := by
        rw [ai_f2_eq, List.find?_eq_none]
        intro q hq
        have hb : (ai_Tb.1.all fun q => decide (q.1 < 108)) = true := by decide +kernel
        have := of_decide_eq_true (List.all_eq_true.mp hb q hq)
        simp only [Bool.and_eq_true, beq_iff_eq, not_and]
        omega
      rw [e1]
      dsimp only
      unfold ai_TA
      have e2 : ai_l1k k ai_Tb.2 = none := by
        rw [ai_l1k_eq, List.lookup_eq_none_iff]
        intro q hq
        have hb : (ai_Tb.2.all fun q => decide (q.1 < 108)) = true := by decide +kernel
        have := of_decide_eq_true (List.all_eq_true.mp hb q hq)
        simp only [bne_iff_ne, ne_eq, beq_eq_false_iff_ne, Bool.not_eq_true', beq_iff_eq]
        omega
      rw [e2]
    rw [e]
    have h1 := (M1.2.1 k j).le_toInt
    have h2 := (M1.2.1 k j).toInt_lt
    dsimp only
    omega
theorem g_feed (X : ip_X) (M : ip_H) (K : Option Value → ip_H → Prop) (a : Int32) (b : Int32) (c : Int32) (d : Int32) (e : Int32) (hG : ip_G M) (hI : ai_inv ai_Tb M) (h : ∀ v M1, ip_G M1 → ai_inv ai_Tb M1 → hig M M1 → M1.2.1 0 7 = M.2.1 0 7 → K (some (.int v)) M1) : ip_wp X 119 0 [.ref 0, .int a, .int b, .int c, .int d, .int e] [] M K := by
  have hi : ai_hi cx_307.2.2.2.2 = true := by decide +kernel
  have h07 : ai_may cx_307.2.2.2.2 0 7 = false := by decide +kernel
  refine vx_307 X M [.ref 0, .int a, .int b, .int c, .int d, .int e] K (a2_r (a2_i (a2_i (a2_i (a2_i (a2_i (a2_n))))))) hG hI (fun r M1 hr hG1 hI1 hf => ?_)
  obtain ⟨q, rfl⟩ := ar_i hr
  exact h q M1 hG1 hI1 (hig_of hi hf) (hf.1 0 7 h07)

theorem g_end (X : ip_X) (M : ip_H) (K : Option Value → ip_H → Prop) (n : Int32) (hG : ip_G M) (hI : ai_inv ai_Tb M) (h : ∀ v M1, ip_G M1 → ai_inv ai_Tb M1 → hig M M1 → M1.2.1 0 7 = M.2.1 0 7 → K (some (.int v)) M1) : ip_wp X 120 0 [.ref 0, .int n] [] M K := by
  have hi : ai_hi cx_308.2.2.2.2 = true := by decide +kernel
  have h07 : ai_may cx_308.2.2.2.2 0 7 = false := by decide +kernel
  refine vx_308 X M [.ref 0, .int n] K (a2_r (a2_i (a2_n))) hG hI (fun r M1 hr hG1 hI1 hf => ?_)
  obtain ⟨q, rfl⟩ := ar_i hr
  exact h q M1 hG1 hI1 (hig_of hi hf) (hf.1 0 7 h07)
