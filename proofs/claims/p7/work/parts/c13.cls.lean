-- CALLS OF THE CLASS between two calls
def ai_hi (V : ai_W) : Bool := (V.1.all fun p => decide (p.1 < 108) || (decide (1000 ≤ p.1) && decide (p.1 < 1108))) && V.2.all fun k => decide (k < 108) || (decide (1000 ≤ k) && decide (k < 1108))
theorem ai_hi_ok {V : ai_W} (h : ai_hi V = true) {a : Nat} (j : Nat) (h1 : 108 ≤ a) (h2 : a < 1000 ∨ (1108 ≤ a)) : ai_may V a j = false := by
  unfold ai_hi at h
  rw [Bool.and_eq_true] at h
  cases e : ai_may V a j
  · rfl
  · exfalso
    rw [ai_may_e] at e
    rw [Bool.or_eq_true, List.elem_iff, List.elem_iff] at e
    rcases e with e | e
    · have := List.all_eq_true.mp h.1 _ e
      simp only [Bool.or_eq_true, Bool.and_eq_true, decide_eq_true_eq] at this
      omega
    · have := List.all_eq_true.mp h.2 _ e
      simp only [Bool.or_eq_true, Bool.and_eq_true, decide_eq_true_eq] at this
      omega
/-- the reference's cells are as they were -/
def hig (M M1 : ip_H) : Prop := ∀ a, 108 ≤ a → a < 1000 → M1.2.1 a = M.2.1 a ∧ M1.2.2.1 a = M.2.2.1 a
theorem hig_of {V : ai_W} {M M1 : ip_H} (h : ai_hi V = true) (f : ai_fr V M M1) : hig M M1 := fun a h1 h2 => ⟨funext fun j => f.1 a j (ai_hi_ok h j h1 (Or.inl h2)), funext fun j => f.2 a j (ai_hi_ok h j (by omega) (Or.inr (by omega)))⟩
theorem Ri_hig {M M1 : ip_H} (h : hig M M1) (g : Ri M) : Ri M1 := by
  unfold Ri Rk at *
  rw [(h 108 (by decide) (by decide)).1, (h 109 (by decide) (by decide)).1, (h 110 (by decide) (by decide)).2, (h 112 (by decide) (by decide)).1, (h 114 (by decide) (by decide)).1, (h 115 (by decide) (by decide)).2, (h 116 (by decide) (by decide)).2, (h 117 (by decide) (by decide)).1]
  exact g
theorem Ri_cls {M : ip_H} {k1 j1 k2 j2 : Nat} {v w : Int32} (g : Ri M) (h1 : k1 < 108 := by decide) (h2 : k2 < 108 := by decide) : Ri (ip_uI (ip_uI M k1 j1 v) k2 j2 w) :=
  Ri_hig (M := M) (fun a ha _ => ⟨funext fun b => by rw [ip_uI_I, if_neg (by omega), ip_uI_I, if_neg (by omega)], rfl⟩) g
theorem a2_n : ai_two2 ai_sat [] [] := trivial
theorem a2_r {k : Nat} {ps : List ai_P} {vs : List Value} (h : ai_two2 ai_sat ps vs) : ai_two2 ai_sat (.r k :: ps) (.ref k :: vs) := ⟨rfl, h⟩
theorem a2_i {x : Int32} {ps : List ai_P} {vs : List Value} (h : ai_two2 ai_sat ps vs) : ai_two2 ai_sat (.i (-2147483648) 2147483647 :: ps) (.int x :: vs) := ⟨⟨x, rfl, by have := x.le_toInt; omega, by have := x.toInt_lt; omega⟩, h⟩
theorem a2_l {x : Int64} {ps : List ai_P} {vs : List Value} (h : ai_two2 ai_sat ps vs) : ai_two2 ai_sat (.l (-9223372036854775808) 9223372036854775807 :: ps) (.long x :: vs) := ⟨⟨x, rfl, by have := x.le_toInt; omega, by have := x.toInt_lt; omega⟩, h⟩
theorem ar_i {lo hi : Int} {r : Option Value} (h : ai_ret (some [.i lo hi]) r) : ∃ q : Int32, r = some (.int q) := by
  cases r with
  | none => exact h.elim
  | some v =>
    obtain ⟨p, hp, hv⟩ := h
    rw [List.mem_singleton] at hp
    subst hp
    obtain ⟨q, e, -⟩ := hv
    exact ⟨q, by rw [e]⟩
theorem ar_l {lo hi : Int} {r : Option Value} (h : ai_ret (some [.l lo hi]) r) : ∃ q : Int64, r = some (.long q) := by
  cases r with
  | none => exact h.elim
  | some v =>
    obtain ⟨p, hp, hv⟩ := h
    rw [List.mem_singleton] at hp
    subst hp
    obtain ⟨q, e, -⟩ := hv
    exact ⟨q, by rw [e]⟩
theorem ai_inv_low {M M1 : ip_H} (h : low M M1) (g : ai_inv ai_Tb M) : ai_inv ai_Tb M1 := by
  intro k j
  by_cases hk : k < 108
  · rw [(h k hk).1]
    exact g k j
  · have e : ai_TT ai_Tb k j = (-2147483648, 2147483647) := by
      unfold ai_TT
      have e1 : ai_f2 k j ai_Tb.1 = none := by
        rw [ai_f2_eq, List.find?_eq_none]
        intro q hq
        have hb : (ai_Tb.1.all fun q => decide (q.1 < 108)) = true := by decide +kernel
        have := of_decide_eq_true (List.all_eq_true.mp hb q hq)
        simp only [Bool.and_eq_true, beq_iff_eq, not_and]
        omega
      rw [e1]
      dsimp only
      unfold ai_TA
      have e2 : ai_l1k k ai_Tb.2 = none := by
        rw [ai_l1k_eq, List.lookup_eq_none_iff]
        intro q hq
        have hb : (ai_Tb.2.all fun q => decide (q.1 < 108)) = true := by decide +kernel
        have := of_decide_eq_true (List.all_eq_true.mp hb q hq)
        simp only [bne_iff_ne, ne_eq, beq_eq_false_iff_ne, Bool.not_eq_true', beq_iff_eq]
        omega
      rw [e2]
    rw [e]
    have h1 := (M1.2.1 k j).le_toInt
    have h2 := (M1.2.1 k j).toInt_lt
    dsimp only
    omega
theorem ai_inv_uF {M : ip_H} {k j : Nat} {v : Int32} (e : ai_TT ai_Tb k j = (-2147483648, 2147483647)) (g : ai_inv ai_Tb M) : ai_inv ai_Tb (ip_uI M k j v) := by
  intro a b
  rw [ip_uI_I]
  split
  · rename_i q
    obtain ⟨rfl, rfl⟩ := q
    rw [e]
    have h1 := v.le_toInt
    have h2 := v.toInt_lt
    dsimp only
    omega
  · exact g a b

theorem g_field (X : ip_X) (M : ip_H) (K : Option Value → ip_H → Prop) (p : Int32) (q : Int32) (r : Int32) (hG : ip_G M) (hI : ai_inv ai_Tb M) (h : ∀ v M1, ip_G M1 → ai_inv ai_Tb M1 → hig M M1 → M1.2.1 0 7 = M.2.1 0 7 → M1.2.1 19 2 = M.2.1 19 2 → K (some (.int v)) M1) : ip_wp X 110 0 [.ref 0, .int p, .int q, .int r] [] M K := by
  have hi : ai_hi cx_20.2.2.2.2 = true := by decide +kernel
  have h07 : ai_may cx_20.2.2.2.2 0 7 = false := by decide +kernel
  have h19 : ai_may cx_20.2.2.2.2 19 2 = false := by decide +kernel
  refine vx_20 X M [.ref 0, .int p, .int q, .int r] K (a2_r (a2_i (a2_i (a2_i (a2_n))))) hG hI (fun r M1 hr hG1 hI1 hf => ?_)
  obtain ⟨q, rfl⟩ := ar_i hr
  exact h q M1 hG1 hI1 (hig_of hi hf) (hf.1 0 7 h07) (hf.1 19 2 h19)

theorem g_way (X : ip_X) (M : ip_H) (K : Option Value → ip_H → Prop) (i : Int32) (hG : ip_G M) (hI : ai_inv ai_Tb M) (h : ∀ v M1, ip_G M1 → ai_inv ai_Tb M1 → hig M M1 → M1.2.1 19 2 = M.2.1 19 2 → K (some (.int v)) M1) : ip_wp X 111 0 [.ref 0, .int i, .retAddr 1] [] M K := by
  have hi : ai_hi cx_21.2.2.2.2 = true := by decide +kernel
  have h19 : ai_may cx_21.2.2.2.2 19 2 = false := by decide +kernel
  refine vx_21 X M [.ref 0, .int i] K (a2_r (a2_i (a2_n))) hG hI (fun r M1 hr hG1 hI1 hf => ?_)
  obtain ⟨q, rfl⟩ := ar_i hr
  exact h q M1 hG1 hI1 (hig_of hi hf) (hf.1 19 2 h19)

theorem g_set (X : ip_X) (M : ip_H) (K : Option Value → ip_H → Prop) (i : Int32) (a : Int32) (b : Int32) (c : Int32) (d : Int32) (hG : ip_G M) (hI : ai_inv ai_Tb M) (h : ∀ v M1, ip_G M1 → ai_inv ai_Tb M1 → hig M M1 → M1.2.1 0 7 = M.2.1 0 7 → M1.2.1 19 2 = M.2.1 19 2 → K (some (.int v)) M1) : ip_wp X 112 0 [.ref 0, .int i, .int a, .int b, .int c, .int d] [] M K := by
  have hi : ai_hi cx_35.2.2.2.2 = true := by decide +kernel
  have h07 : ai_may cx_35.2.2.2.2 0 7 = false := by decide +kernel
  have h19 : ai_may cx_35.2.2.2.2 19 2 = false := by decide +kernel
  refine vx_35 X M [.ref 0, .int i, .int a, .int b, .int c, .int d] K (a2_r (a2_i (a2_i (a2_i (a2_i (a2_i (a2_n))))))) hG hI (fun r M1 hr hG1 hI1 hf => ?_)
  obtain ⟨q, rfl⟩ := ar_i hr
  exact h q M1 hG1 hI1 (hig_of hi hf) (hf.1 0 7 h07) (hf.1 19 2 h19)

theorem g_measure (X : ip_X) (M : ip_H) (K : Option Value → ip_H → Prop) (i : Int32) (l : Int64) (hG : ip_G M) (hI : ai_inv ai_Tb M) (h : ∀ v M1, ip_G M1 → ai_inv ai_Tb M1 → hig M M1 → M1.2.1 0 7 = M.2.1 0 7 → M1.2.1 19 2 = M.2.1 19 2 → K (some (.int v)) M1) : ip_wp X 113 0 [.ref 0, .int i, .long l, .retAddr 1] [] M K := by
  have hi : ai_hi cx_39.2.2.2.2 = true := by decide +kernel
  have h07 : ai_may cx_39.2.2.2.2 0 7 = false := by decide +kernel
  have h19 : ai_may cx_39.2.2.2.2 19 2 = false := by decide +kernel
  refine vx_39 X M [.ref 0, .int i, .long l] K (a2_r (a2_i (a2_l (a2_n)))) hG hI (fun r M1 hr hG1 hI1 hf => ?_)
  obtain ⟨q, rfl⟩ := ar_i hr
  exact h q M1 hG1 hI1 (hig_of hi hf) (hf.1 0 7 h07) (hf.1 19 2 h19)

theorem g_combine (X : ip_X) (M : ip_H) (K : Option Value → ip_H → Prop) (h' : Int32) (i : Int32) (j : Int32) (k : Int32) (hG : ip_G M) (hI : ai_inv ai_Tb M) (h : ∀ v M1, ip_G M1 → ai_inv ai_Tb M1 → hig M M1 → M1.2.1 0 7 = M.2.1 0 7 → M1.2.1 19 2 = M.2.1 19 2 → K (some (.int v)) M1) : ip_wp X 114 0 [.ref 0, .int h', .int i, .int j, .int k] [] M K := by
  have hi : ai_hi cx_194.2.2.2.2 = true := by decide +kernel
  have h07 : ai_may cx_194.2.2.2.2 0 7 = false := by decide +kernel
  have h19 : ai_may cx_194.2.2.2.2 19 2 = false := by decide +kernel
  refine vx_194 X M [.ref 0, .int h', .int i, .int j, .int k] K (a2_r (a2_i (a2_i (a2_i (a2_i (a2_n)))))) hG hI (fun r M1 hr hG1 hI1 hf => ?_)
  obtain ⟨q, rfl⟩ := ar_i hr
  exact h q M1 hG1 hI1 (hig_of hi hf) (hf.1 0 7 h07) (hf.1 19 2 h19)

theorem g_begin (X : ip_X) (M : ip_H) (K : Option Value → ip_H → Prop) (i : Int32) (j : Int32) (hG : ip_G M) (hI : ai_inv ai_Tb M) (h : ∀ v M1, ip_G M1 → ai_inv ai_Tb M1 → hig M M1 → M1.2.1 0 7 = M.2.1 0 7 → M1.2.1 19 2 = M.2.1 19 2 → K (some (.int v)) M1) : ip_wp X 115 0 [.ref 0, .int i, .int j] [] M K := by
  have hi : ai_hi cx_280.2.2.2.2 = true := by decide +kernel
  have h07 : ai_may cx_280.2.2.2.2 0 7 = false := by decide +kernel
  have h19 : ai_may cx_280.2.2.2.2 19 2 = false := by decide +kernel
  refine vx_280 X M [.ref 0, .int i, .int j] K (a2_r (a2_i (a2_i (a2_n)))) hG hI (fun r M1 hr hG1 hI1 hf => ?_)
  obtain ⟨q, rfl⟩ := ar_i hr
  exact h q M1 hG1 hI1 (hig_of hi hf) (hf.1 0 7 h07) (hf.1 19 2 h19)

theorem g_step (X : ip_X) (M : ip_H) (K : Option Value → ip_H → Prop)  (hG : ip_G M) (hI : ai_inv ai_Tb M) (h : ∀ v M1, ip_G M1 → ai_inv ai_Tb M1 → hig M M1 → M1.2.1 0 7 = M.2.1 0 7 → M1.2.1 19 2 = M.2.1 19 2 → K (some (.int v)) M1) : ip_wp X 116 0 [.ref 0, .retAddr 1] [] M K := by
  have hi : ai_hi cx_303.2.2.2.2 = true := by decide +kernel
  have h07 : ai_may cx_303.2.2.2.2 0 7 = false := by decide +kernel
  have h19 : ai_may cx_303.2.2.2.2 19 2 = false := by decide +kernel
  refine vx_303 X M [.ref 0] K (a2_r (a2_n)) hG hI (fun r M1 hr hG1 hI1 hf => ?_)
  obtain ⟨q, rfl⟩ := ar_i hr
  exact h q M1 hG1 hI1 (hig_of hi hf) (hf.1 0 7 h07) (hf.1 19 2 h19)

theorem g_go (X : ip_X) (M : ip_H) (K : Option Value → ip_H → Prop) (n : Int32) (hG : ip_G M) (hI : ai_inv ai_Tb M) (h : ∀ v M1, ip_G M1 → ai_inv ai_Tb M1 → hig M M1 → M1.2.1 0 7 = M.2.1 0 7 → M1.2.1 19 2 = M.2.1 19 2 → K (some (.int v)) M1) : ip_wp X 117 0 [.ref 0, .int n, .retAddr 1, .retAddr 1, .retAddr 1, .retAddr 1] [] M K := by
  have hi : ai_hi cx_304.2.2.2.2 = true := by decide +kernel
  have h07 : ai_may cx_304.2.2.2.2 0 7 = false := by decide +kernel
  have h19 : ai_may cx_304.2.2.2.2 19 2 = false := by decide +kernel
  refine vx_304 X M [.ref 0, .int n] K (a2_r (a2_i (a2_n))) hG hI (fun r M1 hr hG1 hI1 hf => ?_)
  obtain ⟨q, rfl⟩ := ar_i hr
  exact h q M1 hG1 hI1 (hig_of hi hf) (hf.1 0 7 h07) (hf.1 19 2 h19)

theorem g_keep (X : ip_X) (M : ip_H) (K : Option Value → ip_H → Prop) (i : Int32) (j : Int32) (hG : ip_G M) (hI : ai_inv ai_Tb M) (h : ∀ v M1, ip_G M1 → ai_inv ai_Tb M1 → hig M M1 → M1.2.1 0 7 = M.2.1 0 7 → M1.2.1 19 2 = M.2.1 19 2 → K (some (.int v)) M1) : ip_wp X 118 0 [.ref 0, .int i, .int j] [] M K := by
  have hi : ai_hi cx_305.2.2.2.2 = true := by decide +kernel
  have h07 : ai_may cx_305.2.2.2.2 0 7 = false := by decide +kernel
  have h19 : ai_may cx_305.2.2.2.2 19 2 = false := by decide +kernel
  refine vx_305 X M [.ref 0, .int i, .int j] K (a2_r (a2_i (a2_i (a2_n)))) hG hI (fun r M1 hr hG1 hI1 hf => ?_)
  obtain ⟨q, rfl⟩ := ar_i hr
  exact h q M1 hG1 hI1 (hig_of hi hf) (hf.1 0 7 h07) (hf.1 19 2 h19)

theorem g_feed (X : ip_X) (M : ip_H) (K : Option Value → ip_H → Prop) (a : Int32) (b : Int32) (c : Int32) (d : Int32) (e : Int32) (hG : ip_G M) (hI : ai_inv ai_Tb M) (h : ∀ v M1, ip_G M1 → ai_inv ai_Tb M1 → hig M M1 → M1.2.1 0 7 = M.2.1 0 7 → K (some (.int v)) M1) : ip_wp X 119 0 [.ref 0, .int a, .int b, .int c, .int d, .int e] [] M K := by
  have hi : ai_hi cx_307.2.2.2.2 = true := by decide +kernel
  have h07 : ai_may cx_307.2.2.2.2 0 7 = false := by decide +kernel
  refine vx_307 X M [.ref 0, .int a, .int b, .int c, .int d, .int e] K (a2_r (a2_i (a2_i (a2_i (a2_i (a2_i (a2_n))))))) hG hI (fun r M1 hr hG1 hI1 hf => ?_)
  obtain ⟨q, rfl⟩ := ar_i hr
  exact h q M1 hG1 hI1 (hig_of hi hf) (hf.1 0 7 h07)

theorem g_end (X : ip_X) (M : ip_H) (K : Option Value → ip_H → Prop) (n : Int32) (hG : ip_G M) (hI : ai_inv ai_Tb M) (h : ∀ v M1, ip_G M1 → ai_inv ai_Tb M1 → hig M M1 → M1.2.1 0 7 = M.2.1 0 7 → K (some (.int v)) M1) : ip_wp X 120 0 [.ref 0, .int n] [] M K := by
  have hi : ai_hi cx_308.2.2.2.2 = true := by decide +kernel
  have h07 : ai_may cx_308.2.2.2.2 0 7 = false := by decide +kernel
  refine vx_308 X M [.ref 0, .int n] K (a2_r (a2_i (a2_n))) hG hI (fun r M1 hr hG1 hI1 hf => ?_)
  obtain ⟨q, rfl⟩ := ar_i hr
  exact h q M1 hG1 hI1 (hig_of hi hf) (hf.1 0 7 h07)

theorem g_read (X : ip_X) (M : ip_H) (K : Option Value → ip_H → Prop)  (hG : ip_G M) (hI : ai_inv ai_Tb M) (h : ∀ v M1, ip_G M1 → ai_inv ai_Tb M1 → hig M M1 → M1.2.1 0 7 = M.2.1 0 7 → K (some (.int v)) M1) : ip_wp X 121 0 [.ref 0, .retAddr 1] [] M K := by
  have hi : ai_hi cx_315.2.2.2.2 = true := by decide +kernel
  have h07 : ai_may cx_315.2.2.2.2 0 7 = false := by decide +kernel
  refine vx_315 X M [.ref 0] K (a2_r (a2_n)) hG hI (fun r M1 hr hG1 hI1 hf => ?_)
  obtain ⟨q, rfl⟩ := ar_i hr
  exact h q M1 hG1 hI1 (hig_of hi hf) (hf.1 0 7 h07)

theorem g_solve (X : ip_X) (M : ip_H) (K : Option Value → ip_H → Prop)  (hG : ip_G M) (hI : ai_inv ai_Tb M) (h : ∀ v M1, ip_G M1 → ai_inv ai_Tb M1 → hig M M1 → M1.2.1 0 7 = M.2.1 0 7 → M1.2.1 19 2 = M.2.1 19 2 → K (some (.int v)) M1) : ip_wp X 122 0 [.ref 0] [] M K := by
  have hi : ai_hi cx_336.2.2.2.2 = true := by decide +kernel
  have h07 : ai_may cx_336.2.2.2.2 0 7 = false := by decide +kernel
  have h19 : ai_may cx_336.2.2.2.2 19 2 = false := by decide +kernel
  refine vx_336 X M [.ref 0] K (a2_r (a2_n)) hG hI (fun r M1 hr hG1 hI1 hf => ?_)
  obtain ⟨q, rfl⟩ := ar_i hr
  exact h q M1 hG1 hI1 (hig_of hi hf) (hf.1 0 7 h07) (hf.1 19 2 h19)

theorem g_fault (X : ip_X) (M : ip_H) (K : Option Value → ip_H → Prop)  (hG : ip_G M) (hI : ai_inv ai_Tb M) (h : ∀ v M1, ip_G M1 → ai_inv ai_Tb M1 → hig M M1 → M1.2.1 0 7 = M.2.1 0 7 → M1.2.1 19 2 = M.2.1 19 2 → K (some (.int v)) M1) : ip_wp X 123 0 [.ref 0] [] M K := by
  have hi : ai_hi cx_337.2.2.2.2 = true := by decide +kernel
  have h07 : ai_may cx_337.2.2.2.2 0 7 = false := by decide +kernel
  have h19 : ai_may cx_337.2.2.2.2 19 2 = false := by decide +kernel
  refine vx_337 X M [.ref 0] K (a2_r (a2_n)) hG hI (fun r M1 hr hG1 hI1 hf => ?_)
  obtain ⟨q, rfl⟩ := ar_i hr
  exact h q M1 hG1 hI1 (hig_of hi hf) (hf.1 0 7 h07) (hf.1 19 2 h19)

theorem g_undo (X : ip_X) (M : ip_H) (K : Option Value → ip_H → Prop)  (hG : ip_G M) (hI : ai_inv ai_Tb M) (h : ∀ v M1, ip_G M1 → ai_inv ai_Tb M1 → hig M M1 → M1.2.1 0 7 = M.2.1 0 7 → M1.2.1 19 2 = M.2.1 19 2 → K (some (.int v)) M1) : ip_wp X 124 0 [.ref 0] [] M K := by
  have hi : ai_hi cx_355.2.2.2.2 = true := by decide +kernel
  have h07 : ai_may cx_355.2.2.2.2 0 7 = false := by decide +kernel
  have h19 : ai_may cx_355.2.2.2.2 19 2 = false := by decide +kernel
  refine vx_355 X M [.ref 0] K (a2_r (a2_n)) hG hI (fun r M1 hr hG1 hI1 hf => ?_)
  obtain ⟨q, rfl⟩ := ar_i hr
  exact h q M1 hG1 hI1 (hig_of hi hf) (hf.1 0 7 h07) (hf.1 19 2 h19)

theorem g_image (X : ip_X) (M : ip_H) (K : Option Value → ip_H → Prop) (k : Int32) (hG : ip_G M) (hI : ai_inv ai_Tb M) (h : ∀ v M1, ip_G M1 → ai_inv ai_Tb M1 → hig M M1 → M1.2.1 0 7 = M.2.1 0 7 → M1.2.1 19 2 = M.2.1 19 2 → K (some (.int v)) M1) : ip_wp X 125 0 [.ref 0, .int k] [] M K := by
  have hi : ai_hi cx_358.2.2.2.2 = true := by decide +kernel
  have h07 : ai_may cx_358.2.2.2.2 0 7 = false := by decide +kernel
  have h19 : ai_may cx_358.2.2.2.2 19 2 = false := by decide +kernel
  refine vx_358 X M [.ref 0, .int k] K (a2_r (a2_i (a2_n))) hG hI (fun r M1 hr hG1 hI1 hf => ?_)
  obtain ⟨q, rfl⟩ := ar_i hr
  exact h q M1 hG1 hI1 (hig_of hi hf) (hf.1 0 7 h07) (hf.1 19 2 h19)

theorem g_back (X : ip_X) (M : ip_H) (K : Option Value → ip_H → Prop) (k : Int32) (hG : ip_G M) (hI : ai_inv ai_Tb M) (h : ∀ v M1, ip_G M1 → ai_inv ai_Tb M1 → hig M M1 → M1.2.1 0 7 = M.2.1 0 7 → M1.2.1 19 2 = M.2.1 19 2 → K (some (.int v)) M1) : ip_wp X 126 0 [.ref 0, .int k] [] M K := by
  have hi : ai_hi cx_363.2.2.2.2 = true := by decide +kernel
  have h07 : ai_may cx_363.2.2.2.2 0 7 = false := by decide +kernel
  have h19 : ai_may cx_363.2.2.2.2 19 2 = false := by decide +kernel
  refine vx_363 X M [.ref 0, .int k] K (a2_r (a2_i (a2_n))) hG hI (fun r M1 hr hG1 hI1 hf => ?_)
  obtain ⟨q, rfl⟩ := ar_i hr
  exact h q M1 hG1 hI1 (hig_of hi hf) (hf.1 0 7 h07) (hf.1 19 2 h19)

theorem g_value (X : ip_X) (M : ip_H) (K : Option Value → ip_H → Prop) (i : Int32) (j : Int32) (hG : ip_G M) (hI : ai_inv ai_Tb M) (h : ∀ v M1, ip_G M1 → ai_inv ai_Tb M1 → hig M M1 → M1.2.1 0 7 = M.2.1 0 7 → M1.2.1 19 2 = M.2.1 19 2 → K (some (.int v)) M1) : ip_wp X 127 0 [.ref 0, .int i, .int j] [] M K := by
  have hi : ai_hi cx_364.2.2.2.2 = true := by decide +kernel
  have h07 : ai_may cx_364.2.2.2.2 0 7 = false := by decide +kernel
  have h19 : ai_may cx_364.2.2.2.2 19 2 = false := by decide +kernel
  refine vx_364 X M [.ref 0, .int i, .int j] K (a2_r (a2_i (a2_i (a2_n)))) hG hI (fun r M1 hr hG1 hI1 hf => ?_)
  obtain ⟨q, rfl⟩ := ar_i hr
  exact h q M1 hG1 hI1 (hig_of hi hf) (hf.1 0 7 h07) (hf.1 19 2 h19)

theorem g_matrix (X : ip_X) (M : ip_H) (K : Option Value → ip_H → Prop) (i : Int32) (j : Int32) (k : Int32) (hG : ip_G M) (hI : ai_inv ai_Tb M) (h : ∀ v M1, ip_G M1 → ai_inv ai_Tb M1 → hig M M1 → M1.2.1 0 7 = M.2.1 0 7 → M1.2.1 19 2 = M.2.1 19 2 → K (some (.long v)) M1) : ip_wp X 128 0 [.ref 0, .int i, .int j, .int k] [] M K := by
  have hi : ai_hi cx_365.2.2.2.2 = true := by decide +kernel
  have h07 : ai_may cx_365.2.2.2.2 0 7 = false := by decide +kernel
  have h19 : ai_may cx_365.2.2.2.2 19 2 = false := by decide +kernel
  refine vx_365 X M [.ref 0, .int i, .int j, .int k] K (a2_r (a2_i (a2_i (a2_i (a2_n))))) hG hI (fun r M1 hr hG1 hI1 hf => ?_)
  obtain ⟨q, rfl⟩ := ar_l hr
  exact h q M1 hG1 hI1 (hig_of hi hf) (hf.1 0 7 h07) (hf.1 19 2 h19)

theorem g_norm (X : ip_X) (M : ip_H) (K : Option Value → ip_H → Prop) (i : Int32) (j : Int32) (k : Int32) (hG : ip_G M) (hI : ai_inv ai_Tb M) (h : ∀ v M1, ip_G M1 → ai_inv ai_Tb M1 → hig M M1 → M1.2.1 0 7 = M.2.1 0 7 → M1.2.1 19 2 = M.2.1 19 2 → K (some (.long v)) M1) : ip_wp X 129 0 [.ref 0, .int i, .int j, .int k, .retAddr 1, .retAddr 1] [] M K := by
  have hi : ai_hi cx_367.2.2.2.2 = true := by decide +kernel
  have h07 : ai_may cx_367.2.2.2.2 0 7 = false := by decide +kernel
  have h19 : ai_may cx_367.2.2.2.2 19 2 = false := by decide +kernel
  refine vx_367 X M [.ref 0, .int i, .int j, .int k] K (a2_r (a2_i (a2_i (a2_i (a2_n))))) hG hI (fun r M1 hr hG1 hI1 hf => ?_)
  obtain ⟨q, rfl⟩ := ar_l hr
  exact h q M1 hG1 hI1 (hig_of hi hf) (hf.1 0 7 h07) (hf.1 19 2 h19)

theorem g_compare (X : ip_X) (M : ip_H) (K : Option Value → ip_H → Prop) (i : Int32) (j : Int32) (hG : ip_G M) (hI : ai_inv ai_Tb M) (h : ∀ v M1, ip_G M1 → ai_inv ai_Tb M1 → hig M M1 → M1.2.1 0 7 = M.2.1 0 7 → M1.2.1 19 2 = M.2.1 19 2 → K (some (.int v)) M1) : ip_wp X 130 0 [.ref 0, .int i, .int j] [] M K := by
  have hi : ai_hi cx_404.2.2.2.2 = true := by decide +kernel
  have h07 : ai_may cx_404.2.2.2.2 0 7 = false := by decide +kernel
  have h19 : ai_may cx_404.2.2.2.2 19 2 = false := by decide +kernel
  refine vx_404 X M [.ref 0, .int i, .int j] K (a2_r (a2_i (a2_i (a2_n)))) hG hI (fun r M1 hr hG1 hI1 hf => ?_)
  obtain ⟨q, rfl⟩ := ar_i hr
  exact h q M1 hG1 hI1 (hig_of hi hf) (hf.1 0 7 h07) (hf.1 19 2 h19)

theorem g_state (X : ip_X) (M : ip_H) (K : Option Value → ip_H → Prop) (k : Int32) (w : Int32) (j : Int32) (hG : ip_G M) (hI : ai_inv ai_Tb M) (h : ∀ v M1, ip_G M1 → ai_inv ai_Tb M1 → hig M M1 → M1.2.1 0 7 = M.2.1 0 7 → M1.2.1 19 2 = M.2.1 19 2 → K (some (.int v)) M1) : ip_wp X 131 0 [.ref 0, .int k, .int w, .int j] [] M K := by
  have hi : ai_hi cx_405.2.2.2.2 = true := by decide +kernel
  have h07 : ai_may cx_405.2.2.2.2 0 7 = false := by decide +kernel
  have h19 : ai_may cx_405.2.2.2.2 19 2 = false := by decide +kernel
  refine vx_405 X M [.ref 0, .int k, .int w, .int j] K (a2_r (a2_i (a2_i (a2_i (a2_n))))) hG hI (fun r M1 hr hG1 hI1 hf => ?_)
  obtain ⟨q, rfl⟩ := ar_i hr
  exact h q M1 hG1 hI1 (hig_of hi hf) (hf.1 0 7 h07) (hf.1 19 2 h19)

theorem g_digit (X : ip_X) (M : ip_H) (K : Option Value → ip_H → Prop) (i : Int32) (j : Int32) (hG : ip_G M) (hI : ai_inv ai_Tb M) (h : ∀ v M1, ip_G M1 → ai_inv ai_Tb M1 → hig M M1 → M1.2.1 0 7 = M.2.1 0 7 → M1.2.1 19 2 = M.2.1 19 2 → K (some (.int v)) M1) : ip_wp X 132 0 [.ref 0, .int i, .int j] [] M K := by
  have hi : ai_hi cx_407.2.2.2.2 = true := by decide +kernel
  have h07 : ai_may cx_407.2.2.2.2 0 7 = false := by decide +kernel
  have h19 : ai_may cx_407.2.2.2.2 19 2 = false := by decide +kernel
  refine vx_407 X M [.ref 0, .int i, .int j] K (a2_r (a2_i (a2_i (a2_n)))) hG hI (fun r M1 hr hG1 hI1 hf => ?_)
  obtain ⟨q, rfl⟩ := ar_i hr
  exact h q M1 hG1 hI1 (hig_of hi hf) (hf.1 0 7 h07) (hf.1 19 2 h19)

theorem g_product (X : ip_X) (M : ip_H) (K : Option Value → ip_H → Prop) (i : Int32) (j : Int32) (hG : ip_G M) (hI : ai_inv ai_Tb M) (h : ∀ v M1, ip_G M1 → ai_inv ai_Tb M1 → hig M M1 → M1.2.1 0 7 = M.2.1 0 7 → M1.2.1 19 2 = M.2.1 19 2 → K (some (.long v)) M1) : ip_wp X 133 0 [.ref 0, .int i, .int j] [] M K := by
  have hi : ai_hi cx_409.2.2.2.2 = true := by decide +kernel
  have h07 : ai_may cx_409.2.2.2.2 0 7 = false := by decide +kernel
  have h19 : ai_may cx_409.2.2.2.2 19 2 = false := by decide +kernel
  refine vx_409 X M [.ref 0, .int i, .int j] K (a2_r (a2_i (a2_i (a2_n)))) hG hI (fun r M1 hr hG1 hI1 hf => ?_)
  obtain ⟨q, rfl⟩ := ar_l hr
  exact h q M1 hG1 hI1 (hig_of hi hf) (hf.1 0 7 h07) (hf.1 19 2 h19)

theorem g_determinant (X : ip_X) (M : ip_H) (K : Option Value → ip_H → Prop)  (hG : ip_G M) (hI : ai_inv ai_Tb M) (h : ∀ v M1, ip_G M1 → ai_inv ai_Tb M1 → hig M M1 → M1.2.1 0 7 = M.2.1 0 7 → M1.2.1 19 2 = M.2.1 19 2 → K (some (.int v)) M1) : ip_wp X 134 0 [.ref 0] [] M K := by
  have hi : ai_hi cx_412.2.2.2.2 = true := by decide +kernel
  have h07 : ai_may cx_412.2.2.2.2 0 7 = false := by decide +kernel
  have h19 : ai_may cx_412.2.2.2.2 19 2 = false := by decide +kernel
  refine vx_412 X M [.ref 0] K (a2_r (a2_n)) hG hI (fun r M1 hr hG1 hI1 hf => ?_)
  obtain ⟨q, rfl⟩ := ar_i hr
  exact h q M1 hG1 hI1 (hig_of hi hf) (hf.1 0 7 h07) (hf.1 19 2 h19)

theorem g_bounds (X : ip_X) (M : ip_H) (K : Option Value → ip_H → Prop) (w : Int32) (x : Int32) (hG : ip_G M) (hI : ai_inv ai_Tb M) (h : ∀ v M1, ip_G M1 → ai_inv ai_Tb M1 → hig M M1 → M1.2.1 0 7 = M.2.1 0 7 → M1.2.1 19 2 = M.2.1 19 2 → K (some (.long v)) M1) : ip_wp X 135 0 [.ref 0, .int w, .int x] [] M K := by
  have hi : ai_hi cx_419.2.2.2.2 = true := by decide +kernel
  have h07 : ai_may cx_419.2.2.2.2 0 7 = false := by decide +kernel
  have h19 : ai_may cx_419.2.2.2.2 19 2 = false := by decide +kernel
  refine vx_419 X M [.ref 0, .int w, .int x] K (a2_r (a2_i (a2_i (a2_n)))) hG hI (fun r M1 hr hG1 hI1 hf => ?_)
  obtain ⟨q, rfl⟩ := ar_l hr
  exact h q M1 hG1 hI1 (hig_of hi hf) (hf.1 0 7 h07) (hf.1 19 2 h19)

theorem g_outer (X : ip_X) (M : ip_H) (K : Option Value → ip_H → Prop) (w : Int32) (x : Int32) (hG : ip_G M) (hI : ai_inv ai_Tb M) (h : ∀ v M1, ip_G M1 → ai_inv ai_Tb M1 → hig M M1 → M1.2.1 0 7 = M.2.1 0 7 → M1.2.1 19 2 = M.2.1 19 2 → K (some (.int v)) M1) : ip_wp X 136 0 [.ref 0, .int w, .int x] [] M K := by
  have hi : ai_hi cx_420.2.2.2.2 = true := by decide +kernel
  have h07 : ai_may cx_420.2.2.2.2 0 7 = false := by decide +kernel
  have h19 : ai_may cx_420.2.2.2.2 19 2 = false := by decide +kernel
  refine vx_420 X M [.ref 0, .int w, .int x] K (a2_r (a2_i (a2_i (a2_n)))) hG hI (fun r M1 hr hG1 hI1 hf => ?_)
  obtain ⟨q, rfl⟩ := ar_i hr
  exact h q M1 hG1 hI1 (hig_of hi hf) (hf.1 0 7 h07) (hf.1 19 2 h19)

theorem g_inverse (X : ip_X) (M : ip_H) (K : Option Value → ip_H → Prop) (i : Int32) (j : Int32) (hG : ip_G M) (hI : ai_inv ai_Tb M) (h : ∀ v M1, ip_G M1 → ai_inv ai_Tb M1 → hig M M1 → M1.2.1 0 7 = M.2.1 0 7 → M1.2.1 19 2 = M.2.1 19 2 → K (some (.long v)) M1) : ip_wp X 137 0 [.ref 0, .int i, .int j] [] M K := by
  have hi : ai_hi cx_422.2.2.2.2 = true := by decide +kernel
  have h07 : ai_may cx_422.2.2.2.2 0 7 = false := by decide +kernel
  have h19 : ai_may cx_422.2.2.2.2 19 2 = false := by decide +kernel
  refine vx_422 X M [.ref 0, .int i, .int j] K (a2_r (a2_i (a2_i (a2_n)))) hG hI (fun r M1 hr hG1 hI1 hf => ?_)
  obtain ⟨q, rfl⟩ := ar_l hr
  exact h q M1 hG1 hI1 (hig_of hi hf) (hf.1 0 7 h07) (hf.1 19 2 h19)

theorem g_side (X : ip_X) (M : ip_H) (K : Option Value → ip_H → Prop) (w : Int32) (i : Int32) (j : Int32) (hG : ip_G M) (hI : ai_inv ai_Tb M) (h : ∀ v M1, ip_G M1 → ai_inv ai_Tb M1 → hig M M1 → M1.2.1 0 7 = M.2.1 0 7 → M1.2.1 19 2 = M.2.1 19 2 → K (some (.int v)) M1) : ip_wp X 138 0 [.ref 0, .int w, .int i, .int j] [] M K := by
  have hi : ai_hi cx_424.2.2.2.2 = true := by decide +kernel
  have h07 : ai_may cx_424.2.2.2.2 0 7 = false := by decide +kernel
  have h19 : ai_may cx_424.2.2.2.2 19 2 = false := by decide +kernel
  refine vx_424 X M [.ref 0, .int w, .int i, .int j] K (a2_r (a2_i (a2_i (a2_i (a2_n))))) hG hI (fun r M1 hr hG1 hI1 hf => ?_)
  obtain ⟨q, rfl⟩ := ar_i hr
  exact h q M1 hG1 hI1 (hig_of hi hf) (hf.1 0 7 h07) (hf.1 19 2 h19)

theorem g_simplest (X : ip_X) (M : ip_H) (K : Option Value → ip_H → Prop) (w : Int32) (x : Int32) (hG : ip_G M) (hI : ai_inv ai_Tb M) (h : ∀ v M1, ip_G M1 → ai_inv ai_Tb M1 → hig M M1 → M1.2.1 0 7 = M.2.1 0 7 → M1.2.1 19 2 = M.2.1 19 2 → K (some (.long v)) M1) : ip_wp X 139 0 [.ref 0, .int w, .int x] [] M K := by
  have hi : ai_hi cx_426.2.2.2.2 = true := by decide +kernel
  have h07 : ai_may cx_426.2.2.2.2 0 7 = false := by decide +kernel
  have h19 : ai_may cx_426.2.2.2.2 19 2 = false := by decide +kernel
  refine vx_426 X M [.ref 0, .int w, .int x] K (a2_r (a2_i (a2_i (a2_n)))) hG hI (fun r M1 hr hG1 hI1 hf => ?_)
  obtain ⟨q, rfl⟩ := ar_l hr
  exact h q M1 hG1 hI1 (hig_of hi hf) (hf.1 0 7 h07) (hf.1 19 2 h19)

theorem g_shared (X : ip_X) (M : ip_H) (K : Option Value → ip_H → Prop) (x : Int32) (hG : ip_G M) (hI : ai_inv ai_Tb M) (h : ∀ v M1, ip_G M1 → ai_inv ai_Tb M1 → hig M M1 → M1.2.1 0 7 = M.2.1 0 7 → M1.2.1 19 2 = M.2.1 19 2 → K (some (.long v)) M1) : ip_wp X 140 0 [.ref 0, .int x] [] M K := by
  have hi : ai_hi cx_430.2.2.2.2 = true := by decide +kernel
  have h07 : ai_may cx_430.2.2.2.2 0 7 = false := by decide +kernel
  have h19 : ai_may cx_430.2.2.2.2 19 2 = false := by decide +kernel
  refine vx_430 X M [.ref 0, .int x] K (a2_r (a2_i (a2_n))) hG hI (fun r M1 hr hG1 hI1 hf => ?_)
  obtain ⟨q, rfl⟩ := ar_l hr
  exact h q M1 hG1 hI1 (hig_of hi hf) (hf.1 0 7 h07) (hf.1 19 2 h19)

theorem g_period (X : ip_X) (M : ip_H) (K : Option Value → ip_H → Prop) (i : Int32) (hG : ip_G M) (hI : ai_inv ai_Tb M) (h : ∀ v M1, ip_G M1 → ai_inv ai_Tb M1 → hig M M1 → M1.2.1 0 7 = M.2.1 0 7 → M1.2.1 19 2 = M.2.1 19 2 → K (some (.int v)) M1) : ip_wp X 141 0 [.ref 0, .int i] [] M K := by
  have hi : ai_hi cx_431.2.2.2.2 = true := by decide +kernel
  have h07 : ai_may cx_431.2.2.2.2 0 7 = false := by decide +kernel
  have h19 : ai_may cx_431.2.2.2.2 19 2 = false := by decide +kernel
  refine vx_431 X M [.ref 0, .int i] K (a2_r (a2_i (a2_n))) hG hI (fun r M1 hr hG1 hI1 hf => ?_)
  obtain ⟨q, rfl⟩ := ar_i hr
  exact h q M1 hG1 hI1 (hig_of hi hf) (hf.1 0 7 h07) (hf.1 19 2 h19)

theorem g_round (X : ip_X) (M : ip_H) (K : Option Value → ip_H → Prop) (i : Int32) (j : Int32) (hG : ip_G M) (hI : ai_inv ai_Tb M) (h : ∀ v M1, ip_G M1 → ai_inv ai_Tb M1 → hig M M1 → M1.2.1 0 7 = M.2.1 0 7 → M1.2.1 19 2 = M.2.1 19 2 → K (some (.long v)) M1) : ip_wp X 142 0 [.ref 0, .int i, .int j, .retAddr 1, .retAddr 1] [] M K := by
  have hi : ai_hi cx_433.2.2.2.2 = true := by decide +kernel
  have h07 : ai_may cx_433.2.2.2.2 0 7 = false := by decide +kernel
  have h19 : ai_may cx_433.2.2.2.2 19 2 = false := by decide +kernel
  refine vx_433 X M [.ref 0, .int i, .int j] K (a2_r (a2_i (a2_i (a2_n)))) hG hI (fun r M1 hr hG1 hI1 hf => ?_)
  obtain ⟨q, rfl⟩ := ar_l hr
  exact h q M1 hG1 hI1 (hig_of hi hf) (hf.1 0 7 h07) (hf.1 19 2 h19)

theorem g_unit (X : ip_X) (M : ip_H) (K : Option Value → ip_H → Prop) (i : Int32) (hG : ip_G M) (hI : ai_inv ai_Tb M) (h : ∀ v M1, ip_G M1 → ai_inv ai_Tb M1 → hig M M1 → M1.2.1 0 7 = M.2.1 0 7 → M1.2.1 19 2 = M.2.1 19 2 → K (some (.int v)) M1) : ip_wp X 143 0 [.ref 0, .int i] [] M K := by
  have hi : ai_hi cx_438.2.2.2.2 = true := by decide +kernel
  have h07 : ai_may cx_438.2.2.2.2 0 7 = false := by decide +kernel
  have h19 : ai_may cx_438.2.2.2.2 19 2 = false := by decide +kernel
  refine vx_438 X M [.ref 0, .int i] K (a2_r (a2_i (a2_n))) hG hI (fun r M1 hr hG1 hI1 hf => ?_)
  obtain ⟨q, rfl⟩ := ar_i hr
  exact h q M1 hG1 hI1 (hig_of hi hf) (hf.1 0 7 h07) (hf.1 19 2 h19)

theorem g_equation (X : ip_X) (M : ip_H) (K : Option Value → ip_H → Prop) (i : Int32) (hG : ip_G M) (hI : ai_inv ai_Tb M) (h : ∀ v M1, ip_G M1 → ai_inv ai_Tb M1 → hig M M1 → M1.2.1 0 7 = M.2.1 0 7 → M1.2.1 19 2 = M.2.1 19 2 → K (some (.long v)) M1) : ip_wp X 144 0 [.ref 0, .int i] [] M K := by
  have hi : ai_hi cx_439.2.2.2.2 = true := by decide +kernel
  have h07 : ai_may cx_439.2.2.2.2 0 7 = false := by decide +kernel
  have h19 : ai_may cx_439.2.2.2.2 19 2 = false := by decide +kernel
  refine vx_439 X M [.ref 0, .int i] K (a2_r (a2_i (a2_n))) hG hI (fun r M1 hr hG1 hI1 hf => ?_)
  obtain ⟨q, rfl⟩ := ar_l hr
  exact h q M1 hG1 hI1 (hig_of hi hf) (hf.1 0 7 h07) (hf.1 19 2 h19)

theorem g_isRelation (X : ip_X) (M : ip_H) (K : Option Value → ip_H → Prop) (k : Int32) (l : Int32) (m : Int32) (hG : ip_G M) (hI : ai_inv ai_Tb M) (h : ∀ v M1, ip_G M1 → ai_inv ai_Tb M1 → hig M M1 → M1.2.1 0 7 = M.2.1 0 7 → M1.2.1 19 2 = M.2.1 19 2 → K (some (.int v)) M1) : ip_wp X 145 0 [.ref 0, .int k, .int l, .int m] [] M K := by
  have hi : ai_hi cx_441.2.2.2.2 = true := by decide +kernel
  have h07 : ai_may cx_441.2.2.2.2 0 7 = false := by decide +kernel
  have h19 : ai_may cx_441.2.2.2.2 19 2 = false := by decide +kernel
  refine vx_441 X M [.ref 0, .int k, .int l, .int m] K (a2_r (a2_i (a2_i (a2_i (a2_n))))) hG hI (fun r M1 hr hG1 hI1 hf => ?_)
  obtain ⟨q, rfl⟩ := ar_i hr
  exact h q M1 hG1 hI1 (hig_of hi hf) (hf.1 0 7 h07) (hf.1 19 2 h19)

theorem g_relation (X : ip_X) (M : ip_H) (K : Option Value → ip_H → Prop) (n : Int32) (x : Int32) (hG : ip_G M) (hI : ai_inv ai_Tb M) (h : ∀ v M1, ip_G M1 → ai_inv ai_Tb M1 → hig M M1 → M1.2.1 0 7 = M.2.1 0 7 → M1.2.1 19 2 = M.2.1 19 2 → K (some (.int v)) M1) : ip_wp X 146 0 [.ref 0, .int n, .int x] [] M K := by
  have hi : ai_hi cx_444.2.2.2.2 = true := by decide +kernel
  have h07 : ai_may cx_444.2.2.2.2 0 7 = false := by decide +kernel
  have h19 : ai_may cx_444.2.2.2.2 19 2 = false := by decide +kernel
  refine vx_444 X M [.ref 0, .int n, .int x] K (a2_r (a2_i (a2_i (a2_n)))) hG hI (fun r M1 hr hG1 hI1 hf => ?_)
  obtain ⟨q, rfl⟩ := ar_i hr
  exact h q M1 hG1 hI1 (hig_of hi hf) (hf.1 0 7 h07) (hf.1 19 2 h19)

theorem g_word (X : ip_X) (M : ip_H) (K : Option Value → ip_H → Prop) (i : Int32) (j : Int32) (hG : ip_G M) (hI : ai_inv ai_Tb M) (h : ∀ v M1, ip_G M1 → ai_inv ai_Tb M1 → hig M M1 → M1.2.1 0 7 = M.2.1 0 7 → M1.2.1 19 2 = M.2.1 19 2 → K (some (.int v)) M1) : ip_wp X 147 0 [.ref 0, .int i, .int j] [] M K := by
  have hi : ai_hi cx_445.2.2.2.2 = true := by decide +kernel
  have h07 : ai_may cx_445.2.2.2.2 0 7 = false := by decide +kernel
  have h19 : ai_may cx_445.2.2.2.2 19 2 = false := by decide +kernel
  refine vx_445 X M [.ref 0, .int i, .int j] K (a2_r (a2_i (a2_i (a2_n)))) hG hI (fun r M1 hr hG1 hI1 hf => ?_)
  obtain ⟨q, rfl⟩ := ar_i hr
  exact h q M1 hG1 hI1 (hig_of hi hf) (hf.1 0 7 h07) (hf.1 19 2 h19)

theorem g_spelt (X : ip_X) (M : ip_H) (K : Option Value → ip_H → Prop) (i : Int32) (j : Int32) (hG : ip_G M) (hI : ai_inv ai_Tb M) (h : ∀ v M1, ip_G M1 → ai_inv ai_Tb M1 → hig M M1 → M1.2.1 0 7 = M.2.1 0 7 → M1.2.1 19 2 = M.2.1 19 2 → K (some (.long v)) M1) : ip_wp X 148 0 [.ref 0, .int i, .int j, .retAddr 1, .retAddr 1] [] M K := by
  have hi : ai_hi cx_446.2.2.2.2 = true := by decide +kernel
  have h07 : ai_may cx_446.2.2.2.2 0 7 = false := by decide +kernel
  have h19 : ai_may cx_446.2.2.2.2 19 2 = false := by decide +kernel
  refine vx_446 X M [.ref 0, .int i, .int j] K (a2_r (a2_i (a2_i (a2_n)))) hG hI (fun r M1 hr hG1 hI1 hf => ?_)
  obtain ⟨q, rfl⟩ := ar_l hr
  exact h q M1 hG1 hI1 (hig_of hi hf) (hf.1 0 7 h07) (hf.1 19 2 h19)

theorem g_asks (X : ip_X) (M : ip_H) (K : Option Value → ip_H → Prop) (x : Int32) (hG : ip_G M) (hI : ai_inv ai_Tb M) (h : ∀ v M1, ip_G M1 → ai_inv ai_Tb M1 → hig M M1 → M1.2.1 0 7 = M.2.1 0 7 → M1.2.1 19 2 = M.2.1 19 2 → K (some (.int v)) M1) : ip_wp X 149 0 [.ref 0, .int x] [] M K := by
  have hi : ai_hi cx_449.2.2.2.2 = true := by decide +kernel
  have h07 : ai_may cx_449.2.2.2.2 0 7 = false := by decide +kernel
  have h19 : ai_may cx_449.2.2.2.2 19 2 = false := by decide +kernel
  refine vx_449 X M [.ref 0, .int x] K (a2_r (a2_i (a2_n))) hG hI (fun r M1 hr hG1 hI1 hf => ?_)
  obtain ⟨q, rfl⟩ := ar_i hr
  exact h q M1 hG1 hI1 (hig_of hi hf) (hf.1 0 7 h07) (hf.1 19 2 h19)

theorem g_would (X : ip_X) (M : ip_H) (K : Option Value → ip_H → Prop) (i : Int32) (j : Int32) (w : Int32) (x : Int32) (hG : ip_G M) (hI : ai_inv ai_Tb M) (h : ∀ v M1, ip_G M1 → ai_inv ai_Tb M1 → hig M M1 → M1.2.1 0 7 = M.2.1 0 7 → M1.2.1 19 2 = M.2.1 19 2 → K (some (.int v)) M1) : ip_wp X 150 0 [.ref 0, .int i, .int j, .int w, .int x, .retAddr 1] [] M K := by
  have hi : ai_hi cx_508.2.2.2.2 = true := by decide +kernel
  have h07 : ai_may cx_508.2.2.2.2 0 7 = false := by decide +kernel
  have h19 : ai_may cx_508.2.2.2.2 19 2 = false := by decide +kernel
  refine vx_508 X M [.ref 0, .int i, .int j, .int w, .int x] K (a2_r (a2_i (a2_i (a2_i (a2_i (a2_n)))))) hG hI (fun r M1 hr hG1 hI1 hf => ?_)
  obtain ⟨q, rfl⟩ := ar_i hr
  exact h q M1 hG1 hI1 (hig_of hi hf) (hf.1 0 7 h07) (hf.1 19 2 h19)

theorem g_count (X : ip_X) (M : ip_H) (K : Option Value → ip_H → Prop) (x : Int32) (hG : ip_G M) (hI : ai_inv ai_Tb M) (h : ∀ v M1, ip_G M1 → ai_inv ai_Tb M1 → hig M M1 → M1.2.1 0 7 = M.2.1 0 7 → M1.2.1 19 2 = M.2.1 19 2 → K (some (.int v)) M1) : ip_wp X 151 0 [.ref 0, .int x] [] M K := by
  have hi : ai_hi cx_510.2.2.2.2 = true := by decide +kernel
  have h07 : ai_may cx_510.2.2.2.2 0 7 = false := by decide +kernel
  have h19 : ai_may cx_510.2.2.2.2 19 2 = false := by decide +kernel
  refine vx_510 X M [.ref 0, .int x] K (a2_r (a2_i (a2_n))) hG hI (fun r M1 hr hG1 hI1 hf => ?_)
  obtain ⟨q, rfl⟩ := ar_i hr
  exact h q M1 hG1 hI1 (hig_of hi hf) (hf.1 0 7 h07) (hf.1 19 2 h19)

theorem g_status (X : ip_X) (M : ip_H) (K : Option Value → ip_H → Prop)  (hG : ip_G M) (hI : ai_inv ai_Tb M) (h : ∀ v M1, ip_G M1 → ai_inv ai_Tb M1 → hig M M1 → M1.2.1 0 7 = M.2.1 0 7 → M1.2.1 19 2 = M.2.1 19 2 → K (some (.int v)) M1) : ip_wp X 152 0 [.ref 0] [] M K := by
  have hi : ai_hi cx_511.2.2.2.2 = true := by decide +kernel
  have h07 : ai_may cx_511.2.2.2.2 0 7 = false := by decide +kernel
  have h19 : ai_may cx_511.2.2.2.2 19 2 = false := by decide +kernel
  refine vx_511 X M [.ref 0] K (a2_r (a2_n)) hG hI (fun r M1 hr hG1 hI1 hf => ?_)
  obtain ⟨q, rfl⟩ := ar_i hr
  exact h q M1 hG1 hI1 (hig_of hi hf) (hf.1 0 7 h07) (hf.1 19 2 h19)
