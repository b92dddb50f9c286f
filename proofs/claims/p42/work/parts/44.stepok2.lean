-- A STEP IS SOUND
def ai_fr (W : ai_W) (M M1 : ip_H) : Prop := (∀ k j, ai_may W k j = false → M1.2.1 k j = M.2.1 k j) ∧ ∀ k j, ai_may W (k + 1000) j = false → M1.2.2.1 k j = M.2.2.1 k j
def ai_okS (T : ai_T) (W : ai_W) (ρ : List Int) (s : ai_S) (z : ip_Z) (M0 : ip_H) : Prop := s.1 = z.1 ∧ ai_okL ρ s.2.1 z.2.1 ∧ ai_okL ρ s.2.2.1 z.2.2.1 ∧ ai_okV ρ s.2.2.2.1 ∧ ai_okF ρ s.2.2.2.2 z.2.2.2 ∧ ip_G z.2.2.2 ∧ ai_inv T z.2.2.2 ∧ ai_fr W M0 z.2.2.2
section Locals
variable {ρ : List Int} {ls : List ai_A} {vls : List Value}
theorem ai_get_ok (h : ai_okL ρ ls vls) (i : Nat) : ai_okA ρ (ai_get ls i) (ip_get vls i) := by
  unfold ai_get
  rw [List.getD_eq_getElem?_getD]
  cases hc : ls[i]? with
  | none => trivial
  | some a =>
    obtain ⟨v, h1, h2⟩ := ai_two2_get h i a hc
    unfold ip_get
    rw [List.getD_eq_getElem?_getD, h1]
    exact h2
theorem ai_two2_setr {α β : Type} {R : α → β → Prop} : ∀ {as : List α} {bs : List β} (i : Nat) {b : β}, ai_two2 R as bs → (∀ a, as[i]? = some a → R a b) → ai_two2 R as (bs.set i b)
  | [], [], _, _, _, _ => trivial
  | x :: _, _ :: _, 0, _, h, hr => ⟨hr x (by simp), h.2⟩
  | _ :: _, _ :: _, i + 1, _, h, hr => ⟨h.1, ai_two2_setr i h.2 (fun b hb => hr b (by simpa using hb))⟩
  | [], _ :: _, _, _, h, _ => h.elim
  | _ :: _, [], _, _, h, _ => h.elim
theorem ai_clr_ok (h : ai_okL ρ ls vls) (i : Nat) : ai_okL ρ (ai_clr ls i) (ip_clr vls i) := by
  cases i with
  | zero => exact h
  | succ j =>
    have hg := ai_get_ok h j
    rw [ai_clr, ip_clr]
    cases hc : ai_get ls j using ai_Ac with
    | l x =>
      rw [hc] at hg
      obtain ⟨q, h1, h2⟩ := hg
      rw [h1]
      have e : (Value.long q).category = 2 := rfl
      rw [if_pos e]
      exact ai_two2_set j h trivial
    | i x =>
      rw [hc] at hg
      obtain ⟨q, h1, h2⟩ := hg
      rw [h1]
      have e : ¬ (Value.int q).category = 2 := by rw [ip_cat_i]; decide
      rw [if_neg e]
      exact h
    | c x y =>
      rw [hc] at hg
      obtain ⟨p, q, h1, h2, h3⟩ := hg
      rw [h1]
      have e : ¬ (Value.int (lg_cmp p q)).category = 2 := by rw [ip_cat_i]; decide
      rw [if_neg e]
      exact h
    | r k =>
      rw [hc] at hg
      have h1 : ip_get vls j = .ref k := hg
      rw [h1]
      have e : ¬ (Value.ref k).category = 2 := by rw [ip_cat_r]; decide
      rw [if_neg e]
      exact h
    | u =>
      show ai_okL ρ ls (if (ip_get vls j).category = 2 then vls.set j (.retAddr 1) else vls)
      by_cases hq : (ip_get vls j).category = 2
      · rw [if_pos hq]
        refine ai_two2_setr j h ?_
        intro a ha
        unfold ai_get at hc
        rw [List.getD_eq_getElem?_getD, ha] at hc
        simp only [Option.getD_some] at hc
        rw [hc]
        trivial
      · rw [if_neg hq]
        exact h
theorem ai_set1_ok (h : ai_okL ρ ls vls) (i : Nat) {a : ai_A} {v : Value} (ha : ai_okA ρ a v) : ai_okL ρ (ai_set1 ls i a) (ip_set1 vls i v) := ai_two2_set i (ai_clr_ok h i) ha
theorem ai_set2_ok (h : ai_okL ρ ls vls) (i : Nat) {a : ai_A} {v : Value} (ha : ai_okA ρ a v) : ai_okL ρ (ai_set2 ls i a) (ip_set2 vls i v) := ai_two2_set (i + 1) (ai_two2_set i (ai_clr_ok h i) ha) trivial
theorem ai_ci {x : ai_L} {r : List ai_A} {vst : List Value} (h : ai_okL ρ (.i x :: r) vst) : ∃ (q : Int32) (vr : List Value), vst = .int q :: vr ∧ ai_val ρ x q.toInt ∧ ai_okL ρ r vr := by
  cases vst with
  | nil => exact h.elim
  | cons v vr =>
    obtain ⟨⟨q, h1, h2⟩, h3⟩ := h
    exact ⟨q, vr, by rw [h1], h2, h3⟩
theorem ai_cl {x : ai_L} {r : List ai_A} {vst : List Value} (h : ai_okL ρ (.l x :: r) vst) : ∃ (q : Int64) (vr : List Value), vst = .long q :: vr ∧ ai_val ρ x q.toInt ∧ ai_okL ρ r vr := by
  cases vst with
  | nil => exact h.elim
  | cons v vr =>
    obtain ⟨⟨q, h1, h2⟩, h3⟩ := h
    exact ⟨q, vr, by rw [h1], h2, h3⟩
theorem ai_cr {k : Nat} {r : List ai_A} {vst : List Value} (h : ai_okL ρ (.r k :: r) vst) : ∃ (vr : List Value), vst = .ref k :: vr ∧ ai_okL ρ r vr := by
  cases vst with
  | nil => exact h.elim
  | cons v vr =>
    obtain ⟨h1, h3⟩ := h
    have h1 : v = .ref k := h1
    exact ⟨vr, by rw [h1], h3⟩
theorem ai_cc {x y : ai_L} {r : List ai_A} {vst : List Value} (h : ai_okL ρ (.c x y :: r) vst) : ∃ (p q : Int64) (vr : List Value), vst = .int (lg_cmp p q) :: vr ∧ ai_val ρ x p.toInt ∧ ai_val ρ y q.toInt ∧ ai_okL ρ r vr := by
  cases vst with
  | nil => exact h.elim
  | cons v vr =>
    obtain ⟨⟨p, q, h1, h2, h4⟩, h3⟩ := h
    exact ⟨p, q, vr, by rw [h1], h2, h4, h3⟩
end Locals
theorem ai_fr_r (W : ai_W) (M : ip_H) : ai_fr W M M := ⟨fun _ _ _ => rfl, fun _ _ _ => rfl⟩
section Step
variable {T : ai_T} {W : ai_W} {ρ : List Int} {E : ai_V} {F : ai_F} {ls r : List ai_A} {vls vr : List Value} {M : ip_H} {nx : Nat} {L : List ai_S}
/-- nothing but stack and locals -/
theorem ai_pure {a : List ai_A} {st : List ai_A} {va vst : List Value} (hls : ai_okL ρ a va) (hst : ai_okL ρ st vst) (hE : ai_okV ρ E) (hF : ai_okF ρ F M) (hG : ip_G M) (hI : ai_inv T M) (hL : some [(nx, a, st, E, F)] = some L) : ∃ s ∈ L, ∃ t, ai_okS T W (ρ ++ t) s (nx, va, vst, M) M := by
  cases hL
  exact ⟨_, List.mem_singleton.mpr rfl, [], rfl, by simpa using hls, by simpa using hst, by simpa using hE, by simpa using hF, hG, hI, ai_fr_r W M⟩
theorem ai_pushI {R : ai_L × ai_V} {q : Int32} (hls : ai_okL ρ ls vls) (hst : ai_okL ρ r vr) (hR : ai_res ρ R q.toInt) (hF : ai_okF ρ F M) (hG : ip_G M) (hI : ai_inv T M) (hL : ai_push nx ls r F false R = some L) : ∃ s ∈ L, ∃ t, ai_okS T W (ρ ++ t) s (nx, vls, .int q :: vr, M) M := by
  obtain ⟨t, h1, h2⟩ := hR
  cases hL
  exact ⟨_, List.mem_singleton.mpr rfl, t, rfl, ai_okL_app t hls, ⟨⟨q, rfl, h2⟩, ai_okL_app t hst⟩, h1, ai_okF_app t hF, hG, hI, ai_fr_r W M⟩
theorem ai_pushL {R : ai_L × ai_V} {q : Int64} (hls : ai_okL ρ ls vls) (hst : ai_okL ρ r vr) (hR : ai_res ρ R q.toInt) (hF : ai_okF ρ F M) (hG : ip_G M) (hI : ai_inv T M) (hL : ai_push nx ls r F true R = some L) : ∃ s ∈ L, ∃ t, ai_okS T W (ρ ++ t) s (nx, vls, .long q :: vr, M) M := by
  obtain ⟨t, h1, h2⟩ := hR
  cases hL
  exact ⟨_, List.mem_singleton.mpr rfl, t, rfl, ai_okL_app t hls, ⟨⟨q, rfl, h2⟩, ai_okL_app t hst⟩, h1, ai_okF_app t hF, hG, hI, ai_fr_r W M⟩
/-- a condition: one of the two ways, with what it tells -/
theorem ai_two_ok {c : ClassFile.Cond} {x y : ai_L} {p q : Int} {a : Nat} (hls : ai_okL ρ ls vls) (hst : ai_okL ρ r vr) (hE : ai_okV ρ E) (hx : ai_val ρ x p) (hy : ai_val ρ y q) (hF : ai_okF ρ F M) (hG : ip_G M) (hI : ai_inv T M) (b : Bool) (hb : b = ai_tr c p q) (hL : some (ai_two c E x y a nx ls r F) = some L) : ∃ s ∈ L, ∃ t, ai_okS T W (ρ ++ t) s (if b then a else nx, vls, vr, M) M := by
  have h := ai_cd_ok c hE hx hy
  cases hL
  unfold ai_two
  cases hc : ai_tr c p q with
  | true =>
    obtain ⟨E1, e1, h1⟩ := h.1 hc
    rw [hb, hc]
    exact ⟨_, List.mem_append_left _ (List.mem_map.mpr ⟨E1, e1, rfl⟩), [], rfl, by simpa using hls, by simpa using hst, by simpa using h1, by simpa using hF, hG, hI, ai_fr_r W M⟩
  | false =>
    obtain ⟨E1, e1, h1⟩ := h.2 hc
    rw [hb, hc]
    exact ⟨_, List.mem_append_right _ (List.mem_map.mpr ⟨E1, e1, rfl⟩), [], rfl, by simpa using hls, by simpa using hst, by simpa using h1, by simpa using hF, hG, hI, ai_fr_r W M⟩
theorem ai_opt_ok {o : Option ai_V} {E1 : ai_V} {g : ai_V → ai_S} (h : o = some E1) : g E1 ∈ ai_opt o g := by rw [h]; exact List.mem_singleton.mpr rfl
end Step
theorem ai_fk_ok {ρ : List Int} {E : ai_V} {x : ai_L} {p : Int} (hE : ai_okV ρ E) (hx : ai_val ρ x p) (f : Int → ai_V → ai_S) : ∃ E1, f p E1 ∈ ai_fk E x f ∧ ai_okV ρ E1 := by
  have ix := ai_iv_ok hE hx
  have e : p = (ai_iv E x).1 + ((p - (ai_iv E x).1).toNat : Int) := by omega
  obtain ⟨E1, e5, h5⟩ := ai_eq_ok hE hx (show ai_val ρ (none, (ai_iv E x).1 + ((p - (ai_iv E x).1).toNat : Int)) ((ai_iv E x).1 + ((p - (ai_iv E x).1).toNat : Int)) from rfl) e
  refine ⟨E1, List.mem_flatMap.mpr ⟨(p - (ai_iv E x).1).toNat, List.mem_range.mpr (by omega), ?_⟩, h5⟩
  rw [e5, ← e]
  exact List.mem_singleton.mpr rfl
-- writes
theorem ai_drop_ok {ρ : List Int} {F : ai_F} {M : ip_H} {k j : Nat} (v : Int32) (h : ai_okF ρ F M) : ai_okF ρ (ai_drop F k j) (ip_uI M k j v) := by
  intro f hf
  rw [ai_drop, List.mem_filter] at hf
  simp only [ai_beq, Bool.not_eq_true', Bool.and_eq_false_iff, beq_eq_false_iff_ne, ne_eq] at hf
  have e : (ip_uI M k j v).2.1 f.1 f.2.1 = M.2.1 f.1 f.2.1 := by
    show (if f.1 = k ∧ f.2.1 = j then v else M.2.1 f.1 f.2.1) = _
    rw [if_neg]
    rintro ⟨h1, h2⟩
    rcases hf.2 with h3 | h3
    · exact h3 h1
    · exact h3 h2
  rw [e]
  exact h f hf.1
theorem ai_dropc_ok {ρ : List Int} {F : ai_F} {M M1 : ip_H} {k : Nat} (h : ai_okF ρ F M) (he : ∀ a b, a ≠ k → M1.2.1 a b = M.2.1 a b) : ai_okF ρ (ai_dropc F k) M1 := by
  intro f hf
  rw [ai_dropc, List.mem_filter] at hf
  simp only [ai_beq, Bool.not_eq_true', beq_eq_false_iff_ne, ne_eq] at hf
  rw [he _ _ hf.2]
  exact h f hf.1
theorem ai_inv_uI {T : ai_T} {M : ip_H} {k j : Nat} {v : Int32} (h : ai_inv T M) (hv : (ai_TT T k j).1 ≤ v.toInt ∧ v.toInt ≤ (ai_TT T k j).2) : ai_inv T (ip_uI M k j v) := by
  intro a b
  show (ai_TT T a b).1 ≤ (if a = k ∧ b = j then v else M.2.1 a b).toInt ∧ (if a = k ∧ b = j then v else M.2.1 a b).toInt ≤ (ai_TT T a b).2
  split
  · rename_i q
    rw [q.1, q.2]
    exact hv
  · exact h a b
theorem ai_fr_uI {W : ai_W} {M : ip_H} {k j : Nat} {v : Int32} (h : ai_may W k j = true) : ai_fr W M (ip_uI M k j v) := by
  refine ⟨?_, fun _ _ _ => rfl⟩
  intro a b hab
  show (if a = k ∧ b = j then v else M.2.1 a b) = _
  rw [if_neg]
  rintro ⟨q1, q2⟩
  rw [q1, q2, h] at hab
  cases hab
theorem ai_fr_uL {W : ai_W} {M : ip_H} {k j : Nat} {v : Int64} (h : ai_may W (k + 1000) j = true) : ai_fr W M (ip_uL M k j v) := by
  refine ⟨fun _ _ _ => rfl, ?_⟩
  intro a b hab
  show (if a = k ∧ b = j then v else M.2.2.1 a b) = _
  rw [if_neg]
  rintro ⟨q1, q2⟩
  rw [q1, q2, h] at hab
  cases hab
theorem ai_fr_cpL {W : ai_W} {M : ip_H} {a b c d n : Nat} (h : W.2.elem (b + 1000) = true) : ai_fr W M (ip_cpL M a b c d n) := by
  refine ⟨fun _ _ _ => rfl, ?_⟩
  intro p q hpq
  rw [ip_cpL_L, if_neg]
  intro e
  rw [ai_may_e] at hpq
  rw [e, h, Bool.or_true] at hpq
  cases hpq
