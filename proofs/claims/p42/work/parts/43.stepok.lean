-- the machine's numbers and whole numbers
theorem ai_32_add (p q : Int32) : (p + q).toInt = ai_bm false (p.toInt + q.toInt) := by rw [Int32.toInt_add]; rfl
theorem ai_32_sub (p q : Int32) : (p - q).toInt = ai_bm false (p.toInt - q.toInt) := by rw [Int32.toInt_sub]; rfl
theorem ai_32_mul (p q : Int32) : (p * q).toInt = ai_bm false (p.toInt * q.toInt) := by rw [Int32.toInt_mul]; rfl
theorem ai_32_div (p q : Int32) : (p / q).toInt = ai_bm false (p.toInt.tdiv q.toInt) := by rw [Int32.toInt_div]; rfl
theorem ai_32_neg (p : Int32) : (-p).toInt = ai_bm false (-p.toInt) := by rw [Int32.toInt_neg]; rfl
theorem ai_64_add (p q : Int64) : (p + q).toInt = ai_bm true (p.toInt + q.toInt) := by rw [Int64.toInt_add]; rfl
theorem ai_64_sub (p q : Int64) : (p - q).toInt = ai_bm true (p.toInt - q.toInt) := by rw [Int64.toInt_sub]; rfl
theorem ai_64_mul (p q : Int64) : (p * q).toInt = ai_bm true (p.toInt * q.toInt) := by rw [Int64.toInt_mul]; rfl
theorem ai_64_div (p q : Int64) : (p / q).toInt = ai_bm true (p.toInt.tdiv q.toInt) := by rw [Int64.toInt_div]; rfl
theorem ai_64_neg (p : Int64) : (-p).toInt = ai_bm true (-p.toInt) := by rw [Int64.toInt_neg]; rfl
theorem ai_32_b (p : Int32) : ai_mn false ≤ p.toInt ∧ p.toInt ≤ ai_mx false := by
  have h1 := Int32.le_toInt p
  have h2 := Int32.toInt_lt p
  unfold ai_mn ai_mx
  simp only [Bool.false_eq_true, ↓reduceIte]
  omega
theorem ai_64_b (p : Int64) : ai_mn true ≤ p.toInt ∧ p.toInt ≤ ai_mx true := by
  have h1 := Int64.le_toInt p
  have h2 := Int64.toInt_lt p
  unfold ai_mn ai_mx
  simp only [↓reduceIte]
  omega
theorem ai_32_rem (p q : Int32) : (p - p / q * q).toInt = ai_bm false (p.toInt.tmod q.toInt) := by
  have e : p - p / q * q = p % q := by
    apply Int32.toInt_inj.mp
    have h1 := Int32.le_toInt (p % q)
    have h2 := Int32.toInt_lt (p % q)
    rw [Int32.toInt_sub, Int32.toInt_mul, Int32.toInt_div, Int.bmod_mul_bmod, Int.sub_bmod_bmod, Int.mul_comm (p.toInt.tdiv q.toInt), ← Int.tmod_def, ← Int32.toInt_mod]
    exact Int.bmod_eq_of_le_mul_two (by omega) (by omega)
  rw [e, ← Int32.toInt_mod]
  have := ai_32_b (p % q)
  rw [ai_bm_fit this.1 this.2]
theorem ai_64_rem (p q : Int64) : (p - p / q * q).toInt = ai_bm true (p.toInt.tmod q.toInt) := by
  have e : p - p / q * q = p % q := by
    apply Int64.toInt_inj.mp
    have h1 := Int64.le_toInt (p % q)
    have h2 := Int64.toInt_lt (p % q)
    rw [Int64.toInt_sub, Int64.toInt_mul, Int64.toInt_div, Int.bmod_mul_bmod, Int.sub_bmod_bmod, Int.mul_comm (p.toInt.tdiv q.toInt), ← Int.tmod_def, ← Int64.toInt_mod]
    exact Int.bmod_eq_of_le_mul_two (by omega) (by omega)
  rw [e, ← Int64.toInt_mod]
  have := ai_64_b (p % q)
  rw [ai_bm_fit this.1 this.2]
theorem ai_32_and (p q : Int32) (h : 0 ≤ q.toInt) : 0 ≤ (p &&& q).toInt ∧ (p &&& q).toInt ≤ q.toInt := by
  have hq := BitVec.toInt_eq_toNat_cond q.toBitVec
  have hl := q.toBitVec.isLt
  rw [Int32.toInt_toBitVec] at hq
  have hn : (p &&& q).toBitVec.toNat ≤ q.toBitVec.toNat := by
    rw [Int32.toBitVec_and, BitVec.toNat_and]
    exact Nat.and_le_right
  have h1 : (p &&& q).toInt = ((p &&& q).toBitVec.toNat : Int) := by
    rw [← Int32.toInt_toBitVec, BitVec.toInt_eq_toNat_of_lt (by split at hq <;> omega)]
  rw [h1]
  split at hq <;> omega
theorem ai_64_and (p q : Int64) (h : 0 ≤ q.toInt) : 0 ≤ (p &&& q).toInt ∧ (p &&& q).toInt ≤ q.toInt := by
  have hq := BitVec.toInt_eq_toNat_cond q.toBitVec
  have hl := q.toBitVec.isLt
  rw [Int64.toInt_toBitVec] at hq
  have hn : (p &&& q).toBitVec.toNat ≤ q.toBitVec.toNat := by
    rw [Int64.toBitVec_and, BitVec.toNat_and]
    exact Nat.and_le_right
  have h1 : (p &&& q).toInt = ((p &&& q).toBitVec.toNat : Int) := by
    rw [← Int64.toInt_toBitVec, BitVec.toInt_eq_toNat_of_lt (by split at hq <;> omega)]
  rw [h1]
  split at hq <;> omega
section Step
variable {ρ : List Int} {E : ai_V} {x y : ai_L}
theorem ai_fl32 (hE : ai_okV ρ E) (q : Int32) : ai_res ρ (ai_fl false E) q.toInt := ai_nw_ok hE (ai_32_b q)
theorem ai_fl64 (hE : ai_okV ρ E) (q : Int64) : ai_res ρ (ai_fl true E) q.toInt := ai_nw_ok hE (ai_64_b q)
theorem ai_and32 (hE : ai_okV ρ E) {p q : Int32} (hy : ai_val ρ y q.toInt) : ai_res ρ (ai_and false E x y) (p &&& q).toInt := by
  unfold ai_and
  split
  · rename_i hn
    have e : q.toInt = y.2 := by unfold ai_val at hy; rw [hn] at hy; exact hy
    split
    · rename_i h0
      have := ai_32_and p q (by omega)
      have hb := ai_32_b (p &&& q)
      rw [← ai_bm_fit hb.1 hb.2]
      exact ai_nf_ok hE (by omega)
    · exact ai_fl32 hE _
  · exact ai_fl32 hE _
theorem ai_and64 (hE : ai_okV ρ E) {p q : Int64} (hy : ai_val ρ y q.toInt) : ai_res ρ (ai_and true E x y) (p &&& q).toInt := by
  unfold ai_and
  split
  · rename_i hn
    have e : q.toInt = y.2 := by unfold ai_val at hy; rw [hn] at hy; exact hy
    split
    · rename_i h0
      have := ai_64_and p q (by omega)
      have hb := ai_64_b (p &&& q)
      rw [← ai_bm_fit hb.1 hb.2]
      exact ai_nf_ok hE (by omega)
    · exact ai_fl64 hE _
  · exact ai_fl64 hE _
theorem ai_n0_ok (hE : ai_okV ρ E) {q : Int} (hy : ai_val ρ y q) (h : ai_n0 E y = true) : q ≠ 0 := by
  have := ai_iv_ok hE hy
  simp only [ai_n0, Bool.or_eq_true, decide_eq_true_eq] at h
  omega
theorem ai_in_ok (hE : ai_okV ρ E) {q lo hi : Int} (hy : ai_val ρ y q) (h : ai_in E y lo hi = true) : lo ≤ q ∧ q ≤ hi := by
  have := ai_iv_ok hE hy
  simp only [ai_in, Bool.and_eq_true, decide_eq_true_eq] at h
  omega
end Step
-- bounds of the memory
theorem ai_TK_ok {T : ai_T} (h : ai_TK T = true) (k j : Nat) : (ai_TA T k).1 ≤ (ai_TT T k j).1 ∧ (ai_TT T k j).2 ≤ (ai_TA T k).2 := by
  unfold ai_TT
  rw [ai_f2_eq]
  split
  · rename_i q hq
    have h1 := List.find?_some hq
    have h2 := List.all_eq_true.mp h q (List.mem_of_find?_eq_some hq)
    simp only [Bool.and_eq_true, decide_eq_true_eq, beq_iff_eq] at h1 h2
    rw [← h1.1]
    exact h2
  · omega
theorem ai_TI_ok {T : ai_T} {k : Nat} {lo hi : Int} (h : ai_TI T k lo hi = true) (j : Nat) : (ai_TT T k j).1 ≤ lo ∧ hi ≤ (ai_TT T k j).2 := by
  simp only [ai_TI, Bool.and_eq_true, decide_eq_true_eq] at h
  unfold ai_TT
  rw [ai_f2_eq]
  split
  · rename_i q hq
    have h1 := List.find?_some hq
    have h2 := List.all_eq_true.mp h.2.2 q (List.mem_of_find?_eq_some hq)
    simp only [Bool.and_eq_true, Bool.or_eq_true, decide_eq_true_eq, ai_beq, Bool.not_eq_true', beq_eq_false_iff_ne, beq_iff_eq, ne_eq] at h1 h2
    rcases h2 with h2 | h2
    · exact absurd h1.1 h2
    · exact h2
  · exact ⟨h.1, h.2.1⟩
theorem ai_TJ_ok {T : ai_T} {k : Nat} {a b lo hi : Int} (h : ai_TJ T k a b lo hi = true) (j : Nat) (h1 : a ≤ j) (h2 : (j : Int) ≤ b) : (ai_TT T k j).1 ≤ lo ∧ hi ≤ (ai_TT T k j).2 := by
  simp only [ai_TJ, Bool.and_eq_true, decide_eq_true_eq] at h
  unfold ai_TT
  rw [ai_f2_eq]
  split
  · rename_i q hq
    have g1 := List.find?_some hq
    have g2 := List.all_eq_true.mp h.2.2 q (List.mem_of_find?_eq_some hq)
    simp only [Bool.and_eq_true, Bool.or_eq_true, decide_eq_true_eq, ai_beq, Bool.not_eq_true', beq_eq_false_iff_ne, beq_iff_eq, ne_eq] at g1 g2
    obtain ⟨e1, e2⟩ := g1
    rcases g2 with g2 | g2 | g2 | g2
    · exact absurd e1 g2
    · omega
    · omega
    · exact g2
  · exact ⟨h.1, h.2.1⟩
theorem ai_look_ok {ρ : List Int} {F : ai_F} {M : ip_H} {k j : Nat} {x : ai_L} (hF : ai_okF ρ F M) (h : ai_look F k j = some x) : ai_val ρ x (M.2.1 k j).toInt := by
  unfold ai_look at h
  rw [ai_f2_eq, Option.map_eq_some_iff] at h
  obtain ⟨f, h1, h2⟩ := h
  have h3 := List.find?_some h1
  have h4 := hF f (List.mem_of_find?_eq_some h1)
  simp only [Bool.and_eq_true, beq_iff_eq] at h3
  rw [← h2, ← h3.1, ← h3.2]
  exact h4
theorem ai_sh_ok {M : ip_H} (hG : ip_G M) (k : Nat) : ip_sh M k = ai_sh k := by unfold ip_sh ai_sh; rw [hG.1]
