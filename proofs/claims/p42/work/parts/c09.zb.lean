-- AN ARRAY'S INTS BEHIND ITS END ARE 0 (none is ever written there)
def Zb (M : ip_H) : Prop := ∀ k j, (ip_sh M k).1 = 1 → (ip_sh M k).2.2 ≤ j → M.2.1 k j = 0
theorem Zb_same {M N : ip_H} (h1 : N.1 = M.1) (h2 : N.2.1 = M.2.1) (h : Zb M) : Zb N := by
  intro k j a b
  unfold ip_sh at a b
  rw [h1] at a b
  rw [h2]
  exact h k j a b
theorem Zb_uI {M : ip_H} {k j : Nat} {v : Int32} (h : Zb M) (hk : ¬ (ip_sh M k).1 = 1 ∨ j < (ip_sh M k).2.2) : Zb (ip_uI M k j v) := by
  intro a b h1 h2
  rw [ip_uI_sh] at h1 h2
  rw [ip_uI_I]
  split
  · rename_i q
    obtain ⟨rfl, rfl⟩ := q
    exfalso
    rcases hk with hk | hk
    · exact hk h1
    · omega
  · exact h a b h1 h2
theorem Zb_nw {M : ip_H} {q : Nat × Nat × Nat} (h : Zb M) : Zb (ip_nw M q) := by
  intro k j h1 h2
  show (if k = M.1.length then 0 else M.2.1 k j) = 0
  by_cases e : k = M.1.length
  · rw [if_pos e]
  · rw [if_neg e]
    have es : ip_sh (ip_nw M q) k = ip_sh M k := by
      unfold ip_sh
      show (M.1 ++ [q]).getD k (2, 0, 0) = M.1.getD k (2, 0, 0)
      rw [List.getD_eq_getElem?_getD, List.getD_eq_getElem?_getD]
      by_cases hl : k < M.1.length
      · rw [List.getElem?_append_left hl]
      · have e1 : (M.1 ++ [q])[k]? = none := List.getElem?_eq_none (by rw [List.length_append]; simp only [List.length_cons, List.length_nil]; omega)
        have e2 : M.1[k]? = none := List.getElem?_eq_none (by omega)
        rw [e1, e2]
    rw [es] at h1 h2
    exact h k j h1 h2
theorem Zb_cp {M : ip_H} {k0 k1 sp dp n : Nat} (hd : dp + n ≤ (ip_sh M k1).2.2) (h : Zb M) : Zb (ip_cpI M k0 k1 sp dp n) := by
  intro a b h1 h2
  rw [ip_cpI_sh] at h1 h2
  rw [ip_cpI_I]
  split
  · rename_i q
    subst q
    unfold va_cpy
    rw [if_neg (by omega)]
    exact h a b h1 h2
  · exact h a b h1 h2
theorem ip_ix_lt {i : Int32} {n : Nat} (h : ip_ix i n = true) : i.toNatClampNeg < n := by
  unfold ip_ix at h
  rw [Bool.and_eq_true, decide_eq_true_eq, decide_eq_true_eq] at h
  exact h.2
theorem Zb_step {y : Nat} {X : ip_X} {e : ip_E} {ls st : List Value} {M : ip_H} {z : ip_Z} (h : ip_step y X e ls st M = some z) (hz : Zb M) : Zb z.2.2.2 := by
  obtain ⟨i, nx, a, k2, t, w, v, ts⟩ := e
  cases i with
  | putfield n =>
    simp only [ip_step] at h
    split at h
    · split at h
      · rename_i c
        cases h
        exact Zb_uI hz (Or.inl (by rw [c.1]; decide))
      · cases h
    · split at h
      · cases h
        exact Zb_same rfl rfl hz
      · cases h
    · split at h
      · cases h
        exact Zb_same rfl rfl hz
      · cases h
    · cases h
  | iastore =>
    simp only [ip_step] at h
    split at h
    · split at h
      · rename_i c
        cases h
        exact Zb_uI hz (Or.inr (ip_ix_lt c.2.2))
      · cases h
    · cases h
  | lastore =>
    simp only [ip_step] at h
    split at h
    · split at h
      · cases h
        exact Zb_same rfl rfl hz
      · cases h
    · cases h
  | bastore =>
    simp only [ip_step] at h
    split at h
    · split at h
      · rename_i c
        cases h
        exact Zb_uI hz (Or.inr (ip_ix_lt c.2.2))
      · cases h
    · cases h
  | aastore =>
    simp only [ip_step] at h
    split at h
    · split at h
      · cases h
        exact Zb_same rfl rfl hz
      · cases h
    · cases h
  | new n =>
    cases h
    exact Zb_nw hz
  | newarray n =>
    obtain ⟨x, r, rfl, hw⟩ := ip_i1_inv h
    split at hw
    · cases hw
      exact Zb_nw hz
    · cases hw
  | anewarray n =>
    obtain ⟨x, r, rfl, hw⟩ := ip_i1_inv h
    split at hw
    · cases hw
      exact Zb_nw hz
    · cases hw
  | invokestatic n =>
    simp only [ip_step] at h
    split at h
    · split at h
      · rename_i c
        split at h
        · cases h
          exact Zb_same rfl rfl hz
        · split at h
          · cases h
            exact Zb_cp c.2.2.2.2.2.2.2.2.2.2 hz
          · cases h
      · cases h
    · cases h
  | _ => first
    | (cases h; exact hz)
    | (obtain ⟨x, q, r, rfl, hw⟩ := ip_i2_inv h; first | (cases hw; exact hz) | (split at hw <;> first | (cases hw; exact hz) | (cases hw; done)))
    | (obtain ⟨x, q, r, rfl, hw⟩ := ip_l2_inv h; first | (cases hw; exact hz) | (split at hw <;> first | (cases hw; exact hz) | (cases hw; done)))
    | (obtain ⟨x, q, r, rfl, hw⟩ := ip_li_inv h; cases hw; exact hz)
    | (obtain ⟨x, r, rfl, hw⟩ := ip_i1_inv h; cases hw; exact hz)
    | (obtain ⟨x, r, rfl, hw⟩ := ip_l1_inv h; cases hw; exact hz)
    | (obtain ⟨x, r, rfl, hw⟩ := ip_r1_inv h; first | (cases hw; exact hz) | (split at hw <;> first | (cases hw; exact hz) | (cases hw; done)))
    | (simp only [ip_step] at h; repeat' (first | (cases h; exact hz) | (cases h; done) | split at h))
theorem Zb_exec (X : ip_X) : ∀ (n y pc : Nat) (ls st : List Value) (M : ip_H) (z : Option Value × ip_H), ip_exec X n y pc ls st M = some z → Zb M → Zb z.2 := by
  intro n
  induction n with
  | zero => intro y pc ls st M z h; cases h
  | succ n ih =>
    intro y pc ls st M z h hz
    rw [ip_exec] at h
    split at h
    · cases h
    · rename_i e he
      split at h
      · split at h
        · split at h
          · cases h
          · rename_i r M1 hx
            exact ih _ _ _ _ _ _ h (ih _ _ _ _ _ _ hx hz)
        · cases h
      · split at h
        · cases h
          exact hz
        · split at h
          · cases h
          · rename_i w hw
            exact ih _ _ _ _ _ _ h (Zb_step hw hz)
