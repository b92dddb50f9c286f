-- lists side by side
section Two
variable {α β : Type} {R : α → β → Prop}
theorem ai_two2_len : ∀ {as : List α} {bs : List β}, ai_two2 R as bs → as.length = bs.length
  | [], [], _ => rfl
  | _ :: _, _ :: _, h => by rw [List.length_cons, List.length_cons, ai_two2_len h.2]
  | [], _ :: _, h => h.elim
  | _ :: _, [], h => h.elim
theorem ai_two2_mono {S : α → β → Prop} (hRS : ∀ a b, R a b → S a b) : ∀ {as : List α} {bs : List β}, ai_two2 R as bs → ai_two2 S as bs
  | [], [], _ => trivial
  | _ :: _, _ :: _, h => ⟨hRS _ _ h.1, ai_two2_mono hRS h.2⟩
  | [], _ :: _, h => h.elim
  | _ :: _, [], h => h.elim
theorem ai_two2_get : ∀ {as : List α} {bs : List β}, ai_two2 R as bs → ∀ (i : Nat) (a : α), as[i]? = some a → ∃ b, bs[i]? = some b ∧ R a b
  | [], [], _, i, a, h => by simp at h
  | x :: as, y :: bs, h, 0, a, h1 => by
    simp only [List.getElem?_cons_zero, Option.some.injEq] at h1
    subst h1
    exact ⟨y, by simp, h.1⟩
  | x :: as, y :: bs, h, i + 1, a, h1 => by
    simp only [List.getElem?_cons_succ] at h1 ⊢
    exact ai_two2_get h.2 i a h1
  | [], _ :: _, h, _, _, _ => h.elim
  | _ :: _, [], h, _, _, _ => h.elim
theorem ai_two2_set : ∀ {as : List α} {bs : List β} (i : Nat) {a : α} {b : β}, ai_two2 R as bs → R a b → ai_two2 R (as.set i a) (bs.set i b)
  | [], [], _, _, _, _, _ => trivial
  | _ :: _, _ :: _, 0, _, _, h, hr => ⟨hr, h.2⟩
  | _ :: _, _ :: _, i + 1, _, _, h, hr => ⟨h.1, ai_two2_set i h.2 hr⟩
  | [], _ :: _, _, _, _, h, _ => h.elim
  | _ :: _, [], _, _, _, h, _ => h.elim
theorem ai_two2_app : ∀ {as : List α} {bs : List β} {cs : List α} {ds : List β}, ai_two2 R as bs → ai_two2 R cs ds → ai_two2 R (as ++ cs) (bs ++ ds)
  | [], [], _, _, _, h => h
  | _ :: _, _ :: _, _, _, h, q => ⟨h.1, ai_two2_app h.2 q⟩
  | [], _ :: _, _, _, h, _ => h.elim
  | _ :: _, [], _, _, h, _ => h.elim
theorem ai_two2_rep {a : α} {b : β} (h : R a b) : ∀ n, ai_two2 R (List.replicate n a) (List.replicate n b)
  | 0 => trivial
  | n + 1 => ⟨h, ai_two2_rep h n⟩
theorem ai_two2_take : ∀ {as : List α} {bs : List β} (n : Nat), ai_two2 R as bs → ai_two2 R (as.take n) (bs.take n)
  | _, _, 0, _ => by simp only [List.take_zero]; trivial
  | [], [], _ + 1, _ => trivial
  | _ :: _, _ :: _, n + 1, h => ⟨h.1, ai_two2_take n h.2⟩
  | [], _ :: _, _ + 1, h => h.elim
  | _ :: _, [], _ + 1, h => h.elim
theorem ai_two2_drop : ∀ {as : List α} {bs : List β} (n : Nat), ai_two2 R as bs → ai_two2 R (as.drop n) (bs.drop n)
  | _, _, 0, h => by simpa only [List.drop_zero] using h
  | [], [], _ + 1, _ => trivial
  | _ :: _, _ :: _, n + 1, h => by simpa only [List.drop_succ_cons] using ai_two2_drop n h.2
  | [], _ :: _, _ + 1, h => h.elim
  | _ :: _, [], _ + 1, h => h.elim
theorem ai_two2_rev : ∀ {as : List α} {bs : List β}, ai_two2 R as bs → ai_two2 R as.reverse bs.reverse
  | [], [], _ => trivial
  | _ :: _, _ :: _, h => by simpa only [List.reverse_cons] using ai_two2_app (ai_two2_rev h.2) (show ai_two2 R [_] [_] from ⟨h.1, trivial⟩)
  | [], _ :: _, h => h.elim
  | _ :: _, [], h => h.elim
end Two
-- unknowns
theorem ai_val_app {ρ : List Int} {x : ai_L} {z : Int} (t : List Int) (h : ai_val ρ x z) : ai_val (ρ ++ t) x z := by
  unfold ai_val at *
  split at h
  · exact h
  · rename_i n hn
    obtain ⟨p, h1, h2⟩ := h
    exact ⟨p, by rw [List.getElem?_append_left (List.getElem?_eq_some_iff.mp h1).1]; exact h1, h2⟩
theorem ai_okA_app {ρ : List Int} (t : List Int) (a : ai_A) (v : Value) (h : ai_okA ρ a v) : ai_okA (ρ ++ t) a v := by
  cases a using ai_Ac with
  | i x => obtain ⟨q, h1, h2⟩ := h; exact ⟨q, h1, ai_val_app t h2⟩
  | l x => obtain ⟨q, h1, h2⟩ := h; exact ⟨q, h1, ai_val_app t h2⟩
  | c x y => obtain ⟨p, q, h1, h2, h3⟩ := h; exact ⟨p, q, h1, ai_val_app t h2, ai_val_app t h3⟩
  | r k => exact h
  | u => trivial
theorem ai_okL_app {ρ : List Int} (t : List Int) {a : List ai_A} {v : List Value} (h : ai_okL ρ a v) : ai_okL (ρ ++ t) a v := ai_two2_mono (fun a v => ai_okA_app t a v) h
theorem ai_okF_app {ρ : List Int} (t : List Int) {F : ai_F} {M : ip_H} (h : ai_okF ρ F M) : ai_okF (ρ ++ t) F M := fun f hf => ai_val_app t (h f hf)
theorem ai_okV_len {ρ : List Int} {E : ai_V} (h : ai_okV ρ E) : ρ.length = E.length := ai_two2_len h
theorem ai_iv_ok {ρ : List Int} {E : ai_V} {x : ai_L} {z : Int} (hE : ai_okV ρ E) (h : ai_val ρ x z) : (ai_iv E x).1 ≤ z ∧ z ≤ (ai_iv E x).2 := by
  unfold ai_val at h
  unfold ai_iv
  split at h
  · simp only
    omega
  · rename_i n hn
    obtain ⟨p, h1, h2⟩ := h
    obtain ⟨q, h3, h4⟩ := ai_two2_get hE n p h1
    simp only [List.getD_eq_getElem?_getD, h3, Option.getD_some]
    omega
/-- a result: perhaps one unknown more -/
def ai_res (ρ : List Int) (R : ai_L × ai_V) (z : Int) : Prop := ∃ t, ai_okV (ρ ++ t) R.2 ∧ ai_val (ρ ++ t) R.1 z
theorem ai_res_old {ρ : List Int} {E : ai_V} {x : ai_L} {z : Int} (hE : ai_okV ρ E) (h : ai_val ρ x z) : ai_res ρ (x, E) z := ⟨[], by simpa using hE, by simpa using h⟩
theorem ai_nw_ok {ρ : List Int} {E : ai_V} {lo hi z : Int} (hE : ai_okV ρ E) (h : lo ≤ z ∧ z ≤ hi) : ai_res ρ (ai_nw E lo hi) z := by
  unfold ai_nw
  split
  · refine ai_res_old hE ?_
    show z = lo
    omega
  · refine ⟨[z], ai_two2_app hE ⟨h, trivial⟩, ?_⟩
    unfold ai_val
    simp only
    exact ⟨z, by rw [← ai_okV_len hE]; simp, by omega⟩
-- arithmetic that wraps
def ai_bm (w : Bool) (z : Int) : Int := z.bmod (if w then 18446744073709551616 else 4294967296)
theorem ai_bm_full (w : Bool) (z : Int) : ai_mn w ≤ ai_bm w z ∧ ai_bm w z ≤ ai_mx w := by
  unfold ai_bm ai_mn ai_mx
  cases w
  · have h1 := Int.le_bmod (x := z) (m := 4294967296) (by decide)
    have h2 := Int.bmod_lt (x := z) (m := 4294967296) (by decide)
    simp only [Bool.false_eq_true, ↓reduceIte]
    omega
  · have h1 := Int.le_bmod (x := z) (m := 18446744073709551616) (by decide)
    have h2 := Int.bmod_lt (x := z) (m := 18446744073709551616) (by decide)
    simp only [↓reduceIte]
    omega
theorem ai_bm_fit {w : Bool} {z : Int} (h1 : ai_mn w ≤ z) (h2 : z ≤ ai_mx w) : ai_bm w z = z := by
  unfold ai_bm ai_mn ai_mx at *
  cases w
  · simp only [Bool.false_eq_true, ↓reduceIte] at *
    exact Int.bmod_eq_of_le_mul_two (by omega) (by omega)
  · simp only [↓reduceIte] at *
    exact Int.bmod_eq_of_le_mul_two (by omega) (by omega)
theorem ai_ft_ok {w : Bool} {lo hi : Int} (h : ai_ft w lo hi = true) : ai_mn w ≤ lo ∧ hi ≤ ai_mx w := by
  simpa only [ai_ft, Bool.and_eq_true, decide_eq_true_eq] using h
section Ops
variable {w : Bool} {ρ : List Int} {E : ai_V} {x y : ai_L} {p q : Int}
theorem ai_fl_ok (hE : ai_okV ρ E) (z : Int) : ai_res ρ (ai_fl w E) (ai_bm w z) := ai_nw_ok hE (ai_bm_full w z)
theorem ai_nf_ok (hE : ai_okV ρ E) {lo hi z : Int} (h : lo ≤ z ∧ z ≤ hi) : ai_res ρ (ai_nf w E lo hi) (ai_bm w z) := by
  unfold ai_nf
  split
  · rename_i hf
    have hf := ai_ft_ok hf
    rw [ai_bm_fit (by omega) (by omega)]
    exact ai_nw_ok hE h
  · exact ai_fl_ok hE z
theorem ai_add_ok (hE : ai_okV ρ E) (hx : ai_val ρ x p) (hy : ai_val ρ y q) : ai_res ρ (ai_add w E x y) (ai_bm w (p + q)) := by
  have ix := ai_iv_ok hE hx
  have iy := ai_iv_ok hE hy
  unfold ai_add
  split
  · rename_i hf
    have hf := ai_ft_ok hf
    rw [ai_bm_fit (by omega) (by omega)]
    split
    · rename_i h2
      refine ai_res_old hE ?_
      unfold ai_val at hx hy ⊢
      rw [h2] at hy
      simp only at hy ⊢
      split at hx
      · omega
      · obtain ⟨r, h3, h4⟩ := hx
        exact ⟨r, h3, by omega⟩
    · split
      · rename_i h1
        refine ai_res_old hE ?_
        unfold ai_val at hx hy ⊢
        rw [h1] at hx
        simp only at hx ⊢
        split at hy
        · omega
        · obtain ⟨r, h3, h4⟩ := hy
          exact ⟨r, h3, by omega⟩
      · exact ai_nw_ok hE (by omega)
  · exact ai_fl_ok hE _
theorem ai_sub_ok (hE : ai_okV ρ E) (hx : ai_val ρ x p) (hy : ai_val ρ y q) : ai_res ρ (ai_sub w E x y) (ai_bm w (p - q)) := by
  have ix := ai_iv_ok hE hx
  have iy := ai_iv_ok hE hy
  unfold ai_sub
  split
  · rename_i hf
    have hf := ai_ft_ok hf
    rw [ai_bm_fit (by omega) (by omega)]
    split
    · rename_i h2
      refine ai_res_old hE ?_
      unfold ai_val at hx hy ⊢
      rw [h2] at hy
      simp only at hy ⊢
      split at hx
      · omega
      · obtain ⟨r, h3, h4⟩ := hx
        exact ⟨r, h3, by omega⟩
    · exact ai_nw_ok hE (by omega)
  · exact ai_fl_ok hE _
theorem ai_mul_ok (hE : ai_okV ρ E) (hx : ai_val ρ x p) (hy : ai_val ρ y q) : ai_res ρ (ai_mul w E x y) (ai_bm w (p * q)) := by
  have ix := ai_iv_ok hE hx
  have iy := ai_iv_ok hE hy
  unfold ai_mul
  split
  · rename_i h1 h2
    have e1 : p = x.2 := by unfold ai_val at hx; rw [h1] at hx; exact hx
    have e2 : q = y.2 := by unfold ai_val at hy; rw [h2] at hy; exact hy
    split
    · rename_i hf
      have hf := ai_ft_ok hf
      rw [e1, e2, ai_bm_fit (by omega) (by omega)]
      refine ai_res_old hE ?_
      unfold ai_val
      rfl
    · exact ai_fl_ok hE _
  · rename_i h1 h2
    have e1 : p = x.2 := by unfold ai_val at hx; rw [h1] at hx; exact hx
    split
    · rename_i h0
      rw [e1]
      exact ai_nf_ok hE ⟨Int.mul_le_mul_of_nonneg_left iy.1 h0, Int.mul_le_mul_of_nonneg_left iy.2 h0⟩
    · exact ai_fl_ok hE _
  · rename_i h1 h2
    have e2 : q = y.2 := by unfold ai_val at hy; rw [h2] at hy; exact hy
    split
    · rename_i h0
      rw [e2, Int.mul_comm p]
      exact ai_nf_ok hE ⟨Int.mul_le_mul_of_nonneg_left ix.1 h0, Int.mul_le_mul_of_nonneg_left ix.2 h0⟩
    · exact ai_fl_ok hE _
  · split
    · rename_i h0
      exact ai_nf_ok hE ⟨Int.mul_le_mul ix.1 iy.1 h0.2 (by omega), Int.mul_le_mul ix.2 iy.2 (by omega) (by omega)⟩
    · exact ai_fl_ok hE _
theorem ai_neg_ok (hE : ai_okV ρ E) (hx : ai_val ρ x p) : ai_res ρ (ai_neg w E x) (ai_bm w (-p)) := by
  have ix := ai_iv_ok hE hx
  unfold ai_neg
  split
  · rename_i h1
    have e1 : p = x.2 := by unfold ai_val at hx; rw [h1] at hx; exact hx
    split
    · rename_i hf
      have hf := ai_ft_ok hf
      rw [e1, ai_bm_fit (by omega) (by omega)]
      refine ai_res_old hE ?_
      unfold ai_val
      rfl
    · exact ai_fl_ok hE _
  · exact ai_nf_ok hE (by omega)
theorem ai_div_ok (hE : ai_okV ρ E) (hx : ai_val ρ x p) (hy : ai_val ρ y q) : ai_res ρ (ai_div w E x y) (ai_bm w (p.tdiv q)) := by
  have ix := ai_iv_ok hE hx
  have iy := ai_iv_ok hE hy
  unfold ai_div
  split
  · rename_i h
    refine ai_nf_ok hE ?_
    rw [Int.tdiv_eq_ediv_of_nonneg (by omega)]
    exact ⟨Int.ediv_nonneg (by omega) (by omega), Int.le_trans (Int.ediv_le_self _ (by omega)) (by omega)⟩
  · exact ai_fl_ok hE _
theorem ai_rem_ok (hE : ai_okV ρ E) (hx : ai_val ρ x p) (hy : ai_val ρ y q) : ai_res ρ (ai_rem w E x y) (ai_bm w (p.tmod q)) := by
  have ix := ai_iv_ok hE hx
  have iy := ai_iv_ok hE hy
  have key : 0 ≤ p → 0 < q → 0 ≤ p.tmod q ∧ p.tmod q ≤ p ∧ p.tmod q < q := by
    intro h1 h2
    rw [Int.tmod_eq_emod_of_nonneg h1]
    refine ⟨Int.emod_nonneg _ (by omega), ?_, Int.emod_lt_of_pos _ h2⟩
    have := Int.mul_ediv_add_emod p q
    have h3 : 0 ≤ q * (p / q) := Int.mul_nonneg (by omega) (Int.ediv_nonneg h1 (by omega))
    omega
  unfold ai_rem
  split
  · rename_i h2
    have e2 : q = y.2 := by unfold ai_val at hy; rw [h2] at hy; exact hy
    split
    · rename_i h0
      split
      · rename_i h1
        have := key (by omega) (by omega)
        exact ai_nf_ok hE (by omega)
      · refine ai_nf_ok hE ?_
        rw [← e2]
        by_cases hp : 0 ≤ p
        · have := key hp (by omega)
          omega
        · have k2 : (-p).tmod q = -(p.tmod q) := Int.neg_tmod p q
          have h3 := Int.emod_nonneg (-p) (show q ≠ 0 by omega)
          have h4 := Int.emod_lt_of_pos (-p) (show 0 < q by omega)
          rw [← Int.tmod_eq_emod_of_nonneg (by omega : (0 : Int) ≤ -p)] at h3 h4
          omega
    · exact ai_fl_ok hE _
  · split
    · have := key (by omega) (by omega)
      exact ai_nf_ok hE (by omega)
    · exact ai_fl_ok hE _
end Ops
-- conditions
theorem ai_okV_set {ρ : List Int} {E : ai_V} {n : Nat} {lo hi : Int} (hE : ai_okV ρ E) (h : ∀ p, ρ[n]? = some p → lo ≤ p ∧ p ≤ hi) : ai_okV ρ (E.set n (lo, hi)) := by
  induction E generalizing ρ n with
  | nil => exact hE
  | cons e E ih =>
    cases ρ with
    | nil => exact hE.elim
    | cons z ρ =>
      cases n with
      | zero => exact ⟨h z (by simp), hE.2⟩
      | succ n => exact ⟨hE.1, ih hE.2 (fun p hp => h p (by simpa using hp))⟩
theorem ai_cut_ok {ρ : List Int} {E : ai_V} {x : ai_L} {p lo hi : Int} (hE : ai_okV ρ E) (hx : ai_val ρ x p) (h1 : lo ≤ p) (h2 : p ≤ hi) : ∃ E1, ai_cut E x lo hi = some E1 ∧ ai_okV ρ E1 := by
  have ix := ai_iv_ok hE hx
  unfold ai_val at hx
  unfold ai_iv at ix
  unfold ai_cut
  split at hx
  · rename_i hn
    rw [if_pos (by omega)]
    exact ⟨E, rfl, hE⟩
  · rename_i n hn
    obtain ⟨r, h3, h4⟩ := hx
    rw [hn] at ix
    simp only at ix
    rw [if_pos (by omega)]
    refine ⟨_, rfl, ai_okV_set hE ?_⟩
    intro r2 h5
    rw [h3] at h5
    cases h5
    omega
section Cond
variable {ρ : List Int} {E : ai_V} {x y : ai_L} {p q : Int}
theorem ai_le_ok (hE : ai_okV ρ E) (hx : ai_val ρ x p) (hy : ai_val ρ y q) (h : p ≤ q) : ∃ E1, ai_le E x y = some E1 ∧ ai_okV ρ E1 := by
  have ix := ai_iv_ok hE hx
  have iy := ai_iv_ok hE hy
  obtain ⟨E1, e1, h1⟩ := ai_cut_ok (lo := (ai_iv E x).1) (hi := (ai_iv E y).2) hE hx (by omega) (by omega)
  have jx := ai_iv_ok h1 hx
  have jy := ai_iv_ok h1 hy
  unfold ai_le
  rw [e1]
  exact ai_cut_ok h1 hy (by omega) (by omega)
theorem ai_eq_ok (hE : ai_okV ρ E) (hx : ai_val ρ x p) (hy : ai_val ρ y q) (h : p = q) : ∃ E1, ai_eq E x y = some E1 ∧ ai_okV ρ E1 := by
  obtain ⟨E1, e1, h1⟩ := ai_le_ok hE hx hy (by omega)
  unfold ai_eq
  rw [e1]
  exact ai_le_ok h1 hy hx (by omega)
theorem ai_lt_ok (hE : ai_okV ρ E) (hx : ai_val ρ x p) (hy : ai_val ρ y q) (h : p < q) : ∃ E1, ai_lt E x y = some E1 ∧ ai_okV ρ E1 := by
  unfold ai_lt
  refine ai_le_ok hE hx (q := q - 1) ?_ (by omega)
  unfold ai_val at hy ⊢
  simp only
  split at hy
  · rename_i hn
    omega
  · rename_i n hn
    obtain ⟨r, h3, h4⟩ := hy
    exact ⟨r, h3, by omega⟩
theorem ai_ol_ok {o : Option ai_V} (h : ∃ E1, o = some E1 ∧ ai_okV ρ E1) : ∃ E1, E1 ∈ ai_ol o ∧ ai_okV ρ E1 := by
  obtain ⟨E1, h1, h2⟩ := h
  exact ⟨E1, by rw [h1]; exact List.mem_singleton.mpr rfl, h2⟩
theorem ai_ne1_ok {d : Int} (hE : ai_okV ρ E) (hx : ai_val ρ x p) (h : p ≠ d) : ∃ E1, E1 ∈ ai_ne1 E x d ∧ ai_okV ρ E1 := by
  have ix := ai_iv_ok hE hx
  unfold ai_ne1
  by_cases h1 : p < d
  · obtain ⟨E1, h2, h3⟩ := ai_ol_ok (ai_cut_ok (lo := (ai_iv E x).1) (hi := d - 1) hE hx (by omega) (by omega))
    exact ⟨E1, List.mem_append_left _ h2, h3⟩
  · obtain ⟨E1, h2, h3⟩ := ai_ol_ok (ai_cut_ok (lo := d + 1) (hi := (ai_iv E x).2) hE hx (by omega) (by omega))
    exact ⟨E1, List.mem_append_right _ h2, h3⟩
theorem ai_ne_ok (hE : ai_okV ρ E) (hx : ai_val ρ x p) (hy : ai_val ρ y q) (h : p ≠ q) : ∃ E1, E1 ∈ ai_ne E x y ∧ ai_okV ρ E1 := by
  have ix := ai_iv_ok hE hx
  have iy := ai_iv_ok hE hy
  unfold ai_ne
  split
  · exact ai_ne1_ok hE hx (by omega)
  · split
    · exact ai_ne1_ok hE hy (by omega)
    · exact ⟨E, List.mem_singleton.mpr rfl, hE⟩
/-- the truth of a condition of whole numbers -/
def ai_tr (c : ClassFile.Cond) (p q : Int) : Bool := match c with
  | .eq => decide (p = q)
  | .ne => !decide (p = q)
  | .lt => decide (p < q)
  | .ge => decide (q ≤ p)
  | .gt => decide (q < p)
  | .le => decide (p ≤ q)
theorem ai_cd_ok (c : ClassFile.Cond) (hE : ai_okV ρ E) (hx : ai_val ρ x p) (hy : ai_val ρ y q) : (ai_tr c p q = true → ∃ E1, E1 ∈ (ai_cd c E x y).1 ∧ ai_okV ρ E1) ∧ (ai_tr c p q = false → ∃ E1, E1 ∈ (ai_cd c E x y).2 ∧ ai_okV ρ E1) := by
  cases c <;> simp only [ai_tr, ai_cd, decide_eq_true_eq, decide_eq_false_iff_not, Bool.not_eq_true', Bool.not_eq_false']
  · exact ⟨fun h => ai_ol_ok (ai_eq_ok hE hx hy h), fun h => ai_ne_ok hE hx hy h⟩
  · exact ⟨fun h => ai_ne_ok hE hx hy h, fun h => ai_ol_ok (ai_eq_ok hE hx hy h)⟩
  · exact ⟨fun h => ai_ol_ok (ai_lt_ok hE hx hy h), fun h => ai_ol_ok (ai_le_ok hE hy hx (by omega))⟩
  · exact ⟨fun h => ai_ol_ok (ai_le_ok hE hy hx h), fun h => ai_ol_ok (ai_lt_ok hE hx hy (by omega))⟩
  · exact ⟨fun h => ai_ol_ok (ai_lt_ok hE hy hx h), fun h => ai_ol_ok (ai_le_ok hE hx hy (by omega))⟩
  · exact ⟨fun h => ai_ol_ok (ai_le_ok hE hx hy h), fun h => ai_ol_ok (ai_lt_ok hE hy hx (by omega))⟩
end Cond
