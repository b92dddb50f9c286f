-- A RUN IS SOUND
theorem ai_mk_ok : ∀ (ps : List ai_P) (E : ai_V) (ρ : List Int) (vs : List Value), ai_okV ρ E → ai_two2 ai_sat ps vs → ∃ t, ai_okV (ρ ++ t) (ai_mk ps E).2 ∧ ai_okL (ρ ++ t) (ai_mk ps E).1 vs := by
  intro ps
  induction ps with
  | nil =>
    intro E ρ vs hE h
    cases vs with
    | nil => exact ⟨[], by simpa [ai_mk] using hE, trivial⟩
    | cons v vs => exact h.elim
  | cons p ps ih =>
    intro E ρ vs hE h
    cases vs with
    | nil => exact h.elim
    | cons v vs =>
      obtain ⟨h1, h2⟩ := h
      have hnew : ∀ z : Int, ∀ lo hi, lo ≤ z → z ≤ hi → ai_okV (ρ ++ [z]) (E ++ [(lo, hi)]) ∧ ai_val (ρ ++ [z]) (some E.length, 0) z := by
        intro z lo hi a1 a2
        refine ⟨ai_two2_app hE ⟨⟨a1, a2⟩, trivial⟩, z, ?_, by simp⟩
        rw [← ai_okV_len hE]
        simp
      cases p using ai_Pc with
      | i lo hi =>
        obtain ⟨q, e, a1, a2⟩ := h1
        obtain ⟨k1, k2⟩ := hnew q.toInt lo hi a1 a2
        obtain ⟨t, k3, k4⟩ := ih _ _ vs k1 h2
        refine ⟨[q.toInt] ++ t, by rw [← List.append_assoc]; exact k3, ?_⟩
        rw [← List.append_assoc]
        exact ⟨⟨q, e, ai_val_app t k2⟩, k4⟩
      | l lo hi =>
        obtain ⟨q, e, a1, a2⟩ := h1
        obtain ⟨k1, k2⟩ := hnew q.toInt lo hi a1 a2
        obtain ⟨t, k3, k4⟩ := ih _ _ vs k1 h2
        refine ⟨[q.toInt] ++ t, by rw [← List.append_assoc]; exact k3, ?_⟩
        rw [← List.append_assoc]
        exact ⟨⟨q, e, ai_val_app t k2⟩, k4⟩
      | r k =>
        obtain ⟨t, k3, k4⟩ := ih _ _ vs hE h2
        exact ⟨t, k3, h1, k4⟩
      | u =>
        obtain ⟨t, k3, k4⟩ := ih _ _ vs hE h2
        exact ⟨t, k3, trivial, k4⟩
theorem ai_mkF_ok : ∀ (fs : List (Nat × Nat × Int × Int)) (E : ai_V) (ρ : List Int) (M : ip_H), ai_okV ρ E → ai_satF fs M → ∃ t, ai_okV (ρ ++ t) (ai_mkF fs E).2 ∧ ai_okF (ρ ++ t) (ai_mkF fs E).1 M := by
  intro fs
  induction fs with
  | nil =>
    intro E ρ M hE h
    exact ⟨[], by simpa [ai_mkF] using hE, fun f hf => by simp [ai_mkF] at hf⟩
  | cons f fs ih =>
    intro E ρ M hE h
    obtain ⟨k, j, lo, hi⟩ := f
    obtain ⟨a1, a2⟩ := h _ List.mem_cons_self
    have k1 : ai_okV (ρ ++ [(M.2.1 k j).toInt]) (E ++ [(lo, hi)]) := ai_two2_app hE ⟨⟨a1, a2⟩, trivial⟩
    have k2 : ai_val (ρ ++ [(M.2.1 k j).toInt]) (some E.length, 0) (M.2.1 k j).toInt := by
      refine ⟨(M.2.1 k j).toInt, ?_, by simp⟩
      rw [← ai_okV_len hE]
      simp
    obtain ⟨t, k3, k4⟩ := ih _ _ M k1 (fun f hf => h f (List.mem_cons_of_mem _ hf))
    refine ⟨[(M.2.1 k j).toInt] ++ t, by rw [← List.append_assoc]; exact k3, ?_⟩
    rw [← List.append_assoc]
    intro f hf
    rw [ai_mkF] at hf
    rcases List.mem_cons.mp hf with hf | hf
    · rw [hf]; exact ai_val_app t k2
    · exact k4 f hf
section Le
variable {ρ : List Int} {E : ai_V}
theorem ai_leP_ok (hE : ai_okV ρ E) {a : ai_A} {p : ai_P} {v : Value} (ha : ai_okA ρ a v) (h : ai_leP E a p = true) : ai_sat p v := by
  cases p using ai_Pc with
  | u => trivial
  | i lo hi => cases a using ai_Ac with
    | i x =>
      obtain ⟨q, e, h1⟩ := ha
      exact ⟨q, e, ai_in_ok hE h1 h⟩
    | _ => cases h
  | l lo hi => cases a using ai_Ac with
    | l x =>
      obtain ⟨q, e, h1⟩ := ha
      exact ⟨q, e, ai_in_ok hE h1 h⟩
    | _ => cases h
  | r k => cases a using ai_Ac with
    | r k1 =>
      have e1 : v = .ref k1 := ha
      have e2 : k1 = k := by simpa [ai_leP] using h
      show v = .ref k
      rw [e1, e2]
    | _ => cases h
theorem ai_leL_ok (hE : ai_okV ρ E) : ∀ {as : List ai_A} {ps : List ai_P} {vs : List Value}, ai_okL ρ as vs → ai_leL E as ps = true → ai_two2 ai_sat ps vs
  | [], [], [], _, _ => trivial
  | a :: as, p :: ps, v :: vs, h, q => by
    rw [ai_leL, Bool.and_eq_true] at q
    exact ⟨ai_leP_ok hE h.1 q.1, ai_leL_ok hE h.2 q.2⟩
  | [], [], _ :: _, h, _ => h.elim
  | _ :: _, _, [], h, _ => h.elim
  | [], _ :: _, _, _, q => by cases q
  | _ :: _, [], _, _, q => by cases q
theorem ai_leF_ok {T : ai_T} {F : ai_F} {M : ip_H} {fs : List (Nat × Nat × Int × Int)} (hE : ai_okV ρ E) (hF : ai_okF ρ F M) (hI : ai_inv T M) (h : ai_leF T E F fs = true) : ai_satF fs M := by
  intro f hf
  have h1 := List.all_eq_true.mp h f hf
  split at h1
  · rename_i x hx
    exact ai_in_ok hE (ai_look_ok hF hx) h1
  · simp only [Bool.and_eq_true, decide_eq_true_eq] at h1
    have := hI f.1 f.2.1
    omega
theorem ai_give_ok (hE : ai_okV ρ E) {p : ai_P} {v : Value} {g : List ai_A × ai_V} (hr : ai_sat p v) (h : ai_give E p = some g) : ∃ t, ai_okV (ρ ++ t) g.2 ∧ ai_okL (ρ ++ t) g.1 [v] := by
  cases p using ai_Pc with
  | i lo hi =>
    obtain ⟨q, e, a⟩ := hr
    obtain ⟨t, k1, k2⟩ := ai_nw_ok hE a
    cases h
    exact ⟨t, k1, ⟨q, e, k2⟩, trivial⟩
  | l lo hi =>
    obtain ⟨q, e, a⟩ := hr
    obtain ⟨t, k1, k2⟩ := ai_nw_ok hE a
    cases h
    exact ⟨t, k1, ⟨q, e, k2⟩, trivial⟩
  | r k => cases h; exact ⟨[], by simpa using hE, hr, trivial⟩
  | u => cases h
end Le
theorem ai_pad_ok {ρ : List Int} : ∀ {as : List ai_A} {vs : List Value} {l : List ai_A}, ai_okL ρ as vs → ai_pad as = some l → ai_okL ρ l (ip_pad vs)
  | [], [], l, _, h => by cases h; trivial
  | a :: as, v :: vs, l, h, q => by
    obtain ⟨h1, h2⟩ := h
    cases a using ai_Ac with
    | u => cases q
    | l x =>
      rw [ai_pad, Option.map_eq_some_iff] at q
      obtain ⟨l1, q1, q2⟩ := q
      obtain ⟨z, e, h3⟩ := h1
      have := ai_pad_ok h2 q1
      rw [← q2, e]
      have e2 : ip_pad (.long z :: vs) = [.long z, .retAddr 1] ++ ip_pad vs := by unfold ip_pad; rw [List.flatMap_cons, if_pos (ip_cat_l z)]
      rw [e2]
      exact ⟨⟨z, rfl, h3⟩, trivial, this⟩
    | i x =>
      rw [ai_pad, Option.map_eq_some_iff] at q
      · obtain ⟨l1, q1, q2⟩ := q
        obtain ⟨z, e, h3⟩ := h1
        have := ai_pad_ok h2 q1
        rw [← q2, e]
        have e2 : ip_pad (.int z :: vs) = [.int z] ++ ip_pad vs := by unfold ip_pad; rw [List.flatMap_cons, if_neg (by rw [ip_cat_i]; decide)]
        rw [e2]
        exact ⟨⟨z, rfl, h3⟩, this⟩
      · intro h; cases h
      · intro x h; cases h
    | c x y =>
      rw [ai_pad, Option.map_eq_some_iff] at q
      · obtain ⟨l1, q1, q2⟩ := q
        obtain ⟨z, z2, e, h3⟩ := h1
        have := ai_pad_ok h2 q1
        rw [← q2, e]
        have e2 : ip_pad (.int (lg_cmp z z2) :: vs) = [.int (lg_cmp z z2)] ++ ip_pad vs := by unfold ip_pad; rw [List.flatMap_cons, if_neg (by rw [ip_cat_i]; decide)]
        rw [e2]
        exact ⟨⟨z, z2, rfl, h3⟩, this⟩
      · intro h; cases h
      · intro x h; cases h
    | r k =>
      rw [ai_pad, Option.map_eq_some_iff] at q
      · obtain ⟨l1, q1, q2⟩ := q
        have e : v = .ref k := h1
        have := ai_pad_ok h2 q1
        rw [← q2, e]
        have e2 : ip_pad (.ref k :: vs) = [.ref k] ++ ip_pad vs := by unfold ip_pad; rw [List.flatMap_cons, if_neg (by rw [ip_cat_r]; decide)]
        rw [e2]
        exact ⟨rfl, this⟩
      · intro h; cases h
      · intro x h; cases h
  | [], _ :: _, _, h, _ => h.elim
  | _ :: _, [], _, h, _ => h.elim
theorem ai_ent_ok {ρ : List Int} {n : Nat} {as l : List ai_A} {vs : List Value} (h : ai_okL ρ as vs) (q : ai_ent n as = some l) : ai_okL ρ l (ip_ent n vs) ∧ (ip_pad vs).length ≤ n := by
  unfold ai_ent at q
  split at q
  · cases q
  · rename_i p hp
    have h1 := ai_pad_ok h hp
    have h2 := ai_two2_len h1
    split at q
    · cases q
      unfold ip_ent
      rw [← h2]
      exact ⟨ai_two2_app h1 (ai_two2_rep trivial _), by omega⟩
    · cases q
theorem ai_rci_ok {ρ : List Int} {e : ip_E} {as l : List ai_A} {vs : List Value} {M : ip_H} (hG : ip_G M) (h : ai_okL ρ as vs) (hl : (ip_pad vs).length ≤ ip_ml e.2.2.1) (q : ai_rci e as = true) : ip_rc e vs M = true := by
  unfold ip_rc
  rw [Bool.and_eq_true, decide_eq_true_eq]
  refine ⟨hl, ?_⟩
  unfold ai_rci at q
  split at q
  · rename_i h0
    rw [h0]
    rfl
  · rename_i h0
    rw [h0]
    rfl
  · rename_i k t h0 h3
    obtain ⟨vr, e1, -⟩ := ai_cr h
    subst e1
    split
    · rfl
    · rfl
    · rename_i _ _ k2 t2 he _ _
      cases he
      rw [ai_sh_ok hG]
      exact q
    · rename_i hx
      exact (hx _ _ rfl).elim
  · cases q
theorem ai_rvl_ok {ρ : List Int} {E : ai_V} {e : ip_E} {st : List ai_A} {vst : List Value} {a : Option ai_A} (hE : ai_okV ρ E) (h : ai_okL ρ st vst) (q : ai_rvl e st E = some a) : ∃ r, ip_rv e vst = some r ∧ ai_okL ρ a.toList r.toList := by
  obtain ⟨ins, nx, a1, b, t, w, v, ts⟩ := e
  cases ins with
  | ireturn =>
    cases st with
    | nil => cases q
    | cons s st => cases s using ai_Ac <;> (try (cases st <;> cases q; done)) ; cases st with
      | cons s2 st => cases q
      | nil =>
        rename_i x
        obtain ⟨z, vr, e1, h1, h2⟩ := ai_ci h
        cases vr with
        | cons v vr => exact h2.elim
        | nil =>
          subst e1
          unfold ai_rvl at q
          dsimp only at q
          by_cases hc : t = 0 ∨ ai_in E x 0 1 = true
          · rw [if_pos hc] at q
            cases q
            refine ⟨some (.int z), ?_, ⟨z, rfl, h1⟩, trivial⟩
            unfold ip_rv
            dsimp only
            rw [if_pos]
            rcases hc with hc | hc
            · exact Or.inl hc
            · refine Or.inr ?_
              have := ai_in_ok hE h1 hc
              rw [← Int32.toInt_inj, ← Int32.toInt_inj]
              have e0 : (0 : Int32).toInt = 0 := rfl
              have e1 : (1 : Int32).toInt = 1 := rfl
              omega
          · rw [if_neg hc] at q
            cases q
  | lreturn =>
    cases st with
    | nil => cases q
    | cons s st => cases s using ai_Ac <;> (try (cases st <;> cases q; done)) ; cases st with
      | cons s2 st => cases q
      | nil =>
        obtain ⟨z, vr, e1, h1, h2⟩ := ai_cl h
        cases vr with
        | cons v vr => exact h2.elim
        | nil =>
          subst e1
          cases q
          exact ⟨some (.long z), rfl, ⟨z, rfl, h1⟩, trivial⟩
  | areturn =>
    cases st with
    | nil => cases q
    | cons s st => cases s using ai_Ac <;> (try (cases st <;> cases q; done)) ; cases st with
      | cons s2 st => cases q
      | nil =>
        obtain ⟨vr, e1, h2⟩ := ai_cr h
        cases vr with
        | cons v vr => exact h2.elim
        | nil =>
          subst e1
          cases q
          exact ⟨some (.ref _), rfl, rfl, trivial⟩
  | return_ =>
    cases st with
    | nil =>
      cases vst with
      | nil => cases q; exact ⟨none, rfl, trivial⟩
      | cons v vr => exact h.elim
    | cons s st => cases q

  | _ => cases q
theorem ai_step_rv {T : ai_T} {W : ai_W} {e : ip_E} {ls st : List ai_A} {E : ai_V} {F : ai_F} {L : List ai_S} (h : ai_step T W e ls st E F = some L) (vst : List Value) : ip_rv e vst = none := by
  obtain ⟨ins, nx, a1, b, t, w, v, ts⟩ := e
  cases ins <;> first | rfl | (cases h; done)
theorem ai_cw_ok {ρ : List Int} : ∀ {as : List ai_A} {vs : List Value}, ai_okL ρ as vs → ip_cw vs ≤ ai_cw as
  | [], [], _ => Nat.le_refl _
  | a :: as, v :: vs, h => by
    have ih := ai_cw_ok h.2
    have h1 := h.1
    have e : ip_cw (v :: vs) = v.category + ip_cw vs := by unfold ip_cw; simp only [List.map_cons, List.sum_cons]
    have h2 : v.category ≤ 2 := by rcases lv_cat v with g | g <;> omega
    rw [e]
    cases a using ai_Ac with
    | l x => unfold ai_cw; omega
    | u => unfold ai_cw; omega
    | i x =>
      obtain ⟨q, e1, -⟩ := h1
      have : v.category = 1 := by rw [e1]; exact ip_cat_i q
      unfold ai_cw
      omega
    | c x y =>
      obtain ⟨p, q, e1, -⟩ := h1
      have : v.category = 1 := by rw [e1]; exact ip_cat_i _
      unfold ai_cw
      omega
    | r k =>
      have e1 : v = .ref k := h1
      have : v.category = 1 := by rw [e1]; exact ip_cat_r k
      unfold ai_cw
      omega
  | [], _ :: _, h => h.elim
  | _ :: _, [], h => h.elim
