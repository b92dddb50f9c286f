noncomputable section
-- PART 45.stepok3
-- A STEP IS SOUND: every kind of instruction
theorem ai_cst_ok {T : ai_T} {W : ai_W} {ρ : List Int} {E : ai_V} {F : ai_F} {ls st : List ai_A} {vls vst : List Value} {M : ip_H} {nx : Nat} {L : List ai_S} {v : Value} (hls : ai_okL ρ ls vls) (hst : ai_okL ρ st vst) (hE : ai_okV ρ E) (hF : ai_okF ρ F M) (hG : ip_G M) (hI : ai_inv T M) (h : (ai_const v).map (fun c => [((nx, ls, c :: st, E, F) : ai_S)]) = some L) : ∃ s ∈ L, ∃ t, ai_okS T W (ρ ++ t) s (nx, vls, v :: vst, M) M := by
  cases v with
  | int q => exact ai_pure (st := .i (none, q.toInt) :: st) hls ⟨⟨q, rfl, rfl⟩, hst⟩ hE hF hG hI h
  | long q => exact ai_pure (st := .l (none, q.toInt) :: st) hls ⟨⟨q, rfl, rfl⟩, hst⟩ hE hF hG hI h
  | _ => cases h
theorem ai_ix_ok {q : Int32} {n : Nat} (h : 0 ≤ q.toInt ∧ q.toInt ≤ (n : Int) - 1) : ip_ix q n = true := by
  have e : q.toNatClampNeg = q.toInt.toNat := rfl
  unfold ip_ix
  simp only [Bool.and_eq_true, decide_eq_true_eq, Int32.lt_iff_toInt_lt, Int32.toInt_zero]
  omega
theorem ai_ix_lt {q : Int32} {n : Nat} (h : 0 ≤ q.toInt ∧ q.toInt ≤ (n : Int) - 1) : q.toNatClampNeg < n := by
  have e : q.toNatClampNeg = q.toInt.toNat := rfl
  omega
theorem ai_byte {q : Int32} (h1 : -128 ≤ q.toInt) (h2 : q.toInt ≤ 127) : fits .byte (.int q) = true := by
  have e1 : (-128 : Int32).toInt = -128 := by decide
  have e2 : (127 : Int32).toInt = 127 := by decide
  have a1 : (-128 : Int32) ≤ q := by rw [Int32.le_iff_toInt_le]; omega
  have a2 : q ≤ (127 : Int32) := by rw [Int32.le_iff_toInt_le]; omega
  simp [fits, a1, a2]
theorem ai_cpy (f g : Nat → Int32) (sp dp n j : Nat) : va_cpy f g sp dp n j = g j ∨ ∃ i, va_cpy f g sp dp n j = f i := by
  unfold va_cpy
  split
  · exact Or.inr ⟨_, rfl⟩
  · exact Or.inl rfl
set_option maxHeartbeats 4000000 in
theorem ai_step_ok {T : ai_T} {W : ai_W} {e : ip_E} {ls st : List ai_A} {E : ai_V} {F : ai_F} {L : List ai_S} {ρ : List Int} {vls vst : List Value} {M : ip_H} (X : ip_X) (y : Nat) (hTK : ai_TK T = true) (h : ai_step T W e ls st E F = some L) (hls : ai_okL ρ ls vls) (hst : ai_okL ρ st vst) (hE : ai_okV ρ E) (hF : ai_okF ρ F M) (hG : ip_G M) (hI : ai_inv T M) : ∃ z, ip_step y X e vls vst M = some z ∧ ∃ s ∈ L, ∃ t, ai_okS T W (ρ ++ t) s z M := by
  obtain ⟨ins, nx, a, b, t, w, v, ts⟩ := e
  have hsh := ai_sh_ok hG
  cases ins with
  | iconst n => exact ⟨_, rfl, ai_cst_ok hls hst hE hF hG hI h⟩
  | bipush n => exact ⟨_, rfl, ai_cst_ok hls hst hE hF hG hI h⟩
  | sipush n => exact ⟨_, rfl, ai_cst_ok hls hst hE hF hG hI h⟩
  | lconst n => exact ⟨_, rfl, ai_cst_ok hls hst hE hF hG hI h⟩
  | ldc n => exact ⟨_, rfl, ai_cst_ok hls hst hE hF hG hI h⟩
  | ldc_w n => exact ⟨_, rfl, ai_cst_ok hls hst hE hF hG hI h⟩
  | ldc2_w n => exact ⟨_, rfl, ai_cst_ok hls hst hE hF hG hI h⟩
  | iload n =>
    have hg := ai_get_ok hls a
    cases hc : ai_get ls a using ai_Ac with
    | i x =>
      rw [hc] at hg
      obtain ⟨q, h1, h2⟩ := hg
      unfold ai_step at h
      dsimp only at h
      rw [hc] at h
      exact ⟨(nx, vls, .int q :: vst, M), by simp only [ip_step, h1], ai_pure (st := .i x :: st) hls ⟨⟨q, rfl, h2⟩, hst⟩ hE hF hG hI h⟩
    | _ => unfold ai_step at h; dsimp only at h; rw [hc] at h; cases h
  | iload_n n =>
    have hg := ai_get_ok hls a
    cases hc : ai_get ls a using ai_Ac with
    | i x =>
      rw [hc] at hg
      obtain ⟨q, h1, h2⟩ := hg
      unfold ai_step at h
      dsimp only at h
      rw [hc] at h
      exact ⟨(nx, vls, .int q :: vst, M), by simp only [ip_step, h1], ai_pure (st := .i x :: st) hls ⟨⟨q, rfl, h2⟩, hst⟩ hE hF hG hI h⟩
    | _ => unfold ai_step at h; dsimp only at h; rw [hc] at h; cases h
  | lload n =>
    have hg := ai_get_ok hls a
    cases hc : ai_get ls a using ai_Ac with
    | l x =>
      rw [hc] at hg
      obtain ⟨q, h1, h2⟩ := hg
      unfold ai_step at h
      dsimp only at h
      rw [hc] at h
      exact ⟨(nx, vls, .long q :: vst, M), by simp only [ip_step, h1], ai_pure (st := .l x :: st) hls ⟨⟨q, rfl, h2⟩, hst⟩ hE hF hG hI h⟩
    | _ => unfold ai_step at h; dsimp only at h; rw [hc] at h; cases h
  | lload_n n =>
    have hg := ai_get_ok hls a
    cases hc : ai_get ls a using ai_Ac with
    | l x =>
      rw [hc] at hg
      obtain ⟨q, h1, h2⟩ := hg
      unfold ai_step at h
      dsimp only at h
      rw [hc] at h
      exact ⟨(nx, vls, .long q :: vst, M), by simp only [ip_step, h1], ai_pure (st := .l x :: st) hls ⟨⟨q, rfl, h2⟩, hst⟩ hE hF hG hI h⟩
    | _ => unfold ai_step at h; dsimp only at h; rw [hc] at h; cases h
  | aload n =>
    have hg := ai_get_ok hls a
    cases hc : ai_get ls a using ai_Ac with
    | r x =>
      rw [hc] at hg
      have h1 : ip_get vls a = .ref x := hg
      unfold ai_step at h
      dsimp only at h
      rw [hc] at h
      exact ⟨(nx, vls, .ref x :: vst, M), by simp only [ip_step, h1], ai_pure (st := .r x :: st) hls ⟨rfl, hst⟩ hE hF hG hI h⟩
    | _ => unfold ai_step at h; dsimp only at h; rw [hc] at h; cases h
  | aload_n n =>
    have hg := ai_get_ok hls a
    cases hc : ai_get ls a using ai_Ac with
    | r x =>
      rw [hc] at hg
      have h1 : ip_get vls a = .ref x := hg
      unfold ai_step at h
      dsimp only at h
      rw [hc] at h
      exact ⟨(nx, vls, .ref x :: vst, M), by simp only [ip_step, h1], ai_pure (st := .r x :: st) hls ⟨rfl, hst⟩ hE hF hG hI h⟩
    | _ => unfold ai_step at h; dsimp only at h; rw [hc] at h; cases h
  | istore n =>
    cases st with
    | nil => cases h
    | cons s1 r => cases s1 using ai_Ac with
      | i x =>
        obtain ⟨q, vr, e1, h1, h2⟩ := ai_ci hst
        subst e1
        exact ⟨(nx, ip_set1 vls a (.int q), vr, M), rfl, ai_pure (ai_set1_ok hls a (show ai_okA ρ (.i x) (.int q) from ⟨q, rfl, h1⟩)) h2 hE hF hG hI h⟩
      | _ => cases h
  | istore_n n =>
    cases st with
    | nil => cases h
    | cons s1 r => cases s1 using ai_Ac with
      | i x =>
        obtain ⟨q, vr, e1, h1, h2⟩ := ai_ci hst
        subst e1
        exact ⟨(nx, ip_set1 vls a (.int q), vr, M), rfl, ai_pure (ai_set1_ok hls a (show ai_okA ρ (.i x) (.int q) from ⟨q, rfl, h1⟩)) h2 hE hF hG hI h⟩
      | _ => cases h
  | lstore n =>
    cases st with
    | nil => cases h
    | cons s1 r => cases s1 using ai_Ac with
      | l x =>
        obtain ⟨q, vr, e1, h1, h2⟩ := ai_cl hst
        subst e1
        exact ⟨(nx, ip_set2 vls a (.long q), vr, M), rfl, ai_pure (ai_set2_ok hls a (show ai_okA ρ (.l x) (.long q) from ⟨q, rfl, h1⟩)) h2 hE hF hG hI h⟩
      | _ => cases h
  | lstore_n n =>
    cases st with
    | nil => cases h
    | cons s1 r => cases s1 using ai_Ac with
      | l x =>
        obtain ⟨q, vr, e1, h1, h2⟩ := ai_cl hst
        subst e1
        exact ⟨(nx, ip_set2 vls a (.long q), vr, M), rfl, ai_pure (ai_set2_ok hls a (show ai_okA ρ (.l x) (.long q) from ⟨q, rfl, h1⟩)) h2 hE hF hG hI h⟩
      | _ => cases h
  | astore n =>
    cases st with
    | nil => cases h
    | cons s1 r => cases s1 using ai_Ac with
      | r x =>
        obtain ⟨vr, e1, h2⟩ := ai_cr hst
        subst e1
        exact ⟨(nx, ip_set1 vls a (.ref x), vr, M), rfl, ai_pure (ai_set1_ok hls a (show ai_okA ρ (.r x) (.ref x) from rfl)) h2 hE hF hG hI h⟩
      | _ => cases h
  | astore_n n =>
    cases st with
    | nil => cases h
    | cons s1 r => cases s1 using ai_Ac with
      | r x =>
        obtain ⟨vr, e1, h2⟩ := ai_cr hst
        subst e1
        exact ⟨(nx, ip_set1 vls a (.ref x), vr, M), rfl, ai_pure (ai_set1_ok hls a (show ai_okA ρ (.r x) (.ref x) from rfl)) h2 hE hF hG hI h⟩
      | _ => cases h
  | iinc n k =>
    have hg := ai_get_ok hls a
    unfold ai_step at h
    dsimp only at h
    cases hc : ai_get ls a using ai_Ac with
    | i x =>
      rw [hc] at hg h
      obtain ⟨q, h1, h2⟩ := hg
      cases v with
      | int c =>
        have hR := ai_add_ok (w := false) hE h2 (show ai_val ρ (none, c.toInt) c.toInt from rfl)
        rw [← ai_32_add] at hR
        obtain ⟨t1, k1, k2⟩ := hR
        cases h
        exact ⟨(nx, ip_set1 vls a (.int (q + c)), vst, M), by simp only [ip_step, h1], _, List.mem_singleton.mpr rfl, t1, rfl, ai_set1_ok (ai_okL_app t1 hls) a ⟨_, rfl, k2⟩, ai_okL_app t1 hst, k1, ai_okF_app t1 hF, hG, hI, ai_fr_r W M⟩
      | _ => cases h
    | _ => rw [hc] at h; cases h
  | iadd =>
    cases st with
    | nil => cases h
    | cons s1 r1 => cases s1 using ai_Ac with
      | i y => cases r1 with
        | nil => cases h
        | cons s2 r => cases s2 using ai_Ac with
          | i x =>
            obtain ⟨q, vr1, e1, h1, h2⟩ := ai_ci hst
            subst e1
            obtain ⟨p, vr, e2, h3, h4⟩ := ai_ci h2
            subst e2
            exact ⟨(nx, vls, .int (p + q) :: vr, M), rfl, ai_pushI hls h4 (by rw [ai_32_add]; exact ai_add_ok hE h3 h1) hF hG hI h⟩
          | _ => cases h
      | _ => cases h
  | isub =>
    cases st with
    | nil => cases h
    | cons s1 r1 => cases s1 using ai_Ac with
      | i y => cases r1 with
        | nil => cases h
        | cons s2 r => cases s2 using ai_Ac with
          | i x =>
            obtain ⟨q, vr1, e1, h1, h2⟩ := ai_ci hst
            subst e1
            obtain ⟨p, vr, e2, h3, h4⟩ := ai_ci h2
            subst e2
            exact ⟨(nx, vls, .int (p - q) :: vr, M), rfl, ai_pushI hls h4 (by rw [ai_32_sub]; exact ai_sub_ok hE h3 h1) hF hG hI h⟩
          | _ => cases h
      | _ => cases h
  | imul =>
    cases st with
    | nil => cases h
    | cons s1 r1 => cases s1 using ai_Ac with
      | i y => cases r1 with
        | nil => cases h
        | cons s2 r => cases s2 using ai_Ac with
          | i x =>
            obtain ⟨q, vr1, e1, h1, h2⟩ := ai_ci hst
            subst e1
            obtain ⟨p, vr, e2, h3, h4⟩ := ai_ci h2
            subst e2
            refine ⟨(nx, vls, .int (p * q) :: vr, M), rfl, ?_⟩
            have plain : ∀ L, ai_push nx ls r F false (ai_mul false E x y) = some L → ∃ s ∈ L, ∃ t, ai_okS T W (ρ ++ t) s (nx, vls, .int (p * q) :: vr, M) M := fun L h => ai_pushI hls h4 (by rw [ai_32_mul]; exact ai_mul_ok hE h3 h1) hF hG hI h
            unfold ai_step at h
            dsimp only [ai_ii] at h
            split at h
            · split at h
              · cases h
                obtain ⟨E1, hm, hE1⟩ := ai_fk_ok hE h3 (fun j E1 => (nx, ls, .i (ai_mul false E1 (none, j) y).1 :: r, (ai_mul false E1 (none, j) y).2, F))
                have hR : ai_res ρ (ai_mul false E1 (none, p.toInt) y) (p * q).toInt := by rw [ai_32_mul]; exact ai_mul_ok hE1 (show ai_val ρ (none, p.toInt) p.toInt from rfl) h1
                obtain ⟨t1, k1, k2⟩ := hR
                exact ⟨_, hm, t1, rfl, ai_okL_app t1 hls, ⟨⟨_, rfl, k2⟩, ai_okL_app t1 h4⟩, k1, ai_okF_app t1 hF, hG, hI, ai_fr_r W M⟩
              · exact plain L h
            · split at h
              · cases h
                obtain ⟨E1, hm, hE1⟩ := ai_fk_ok hE h1 (fun j E1 => (nx, ls, .i (ai_mul false E1 x (none, j)).1 :: r, (ai_mul false E1 x (none, j)).2, F))
                have hR : ai_res ρ (ai_mul false E1 x (none, q.toInt)) (p * q).toInt := by rw [ai_32_mul]; exact ai_mul_ok hE1 h3 (show ai_val ρ (none, q.toInt) q.toInt from rfl)
                obtain ⟨t1, k1, k2⟩ := hR
                exact ⟨_, hm, t1, rfl, ai_okL_app t1 hls, ⟨⟨_, rfl, k2⟩, ai_okL_app t1 h4⟩, k1, ai_okF_app t1 hF, hG, hI, ai_fr_r W M⟩
              · exact plain L h
            · exact plain L h
          | _ => cases h
      | _ => cases h
  | idiv =>
    cases st with
    | nil => cases h
    | cons s1 r1 => cases s1 using ai_Ac with
      | i y => cases r1 with
        | nil => cases h
        | cons s2 r => cases s2 using ai_Ac with
          | i x =>
            obtain ⟨q, vr1, e1, h1, h2⟩ := ai_ci hst
            subst e1
            obtain ⟨p, vr, e2, h3, h4⟩ := ai_ci h2
            subst e2
            have h' : (if ai_n0 E y = true then ai_push nx ls r F false (ai_div false E x y) else none) = some L := h
            by_cases hn : ai_n0 E y = true
            · rw [if_pos hn] at h'
              have hq : ¬ q = 0 := by
                intro z
                apply ai_n0_ok hE h1 hn
                rw [z]
                rfl
              exact ⟨(nx, vls, .int (p / q) :: vr, M), by simp only [ip_step, ip_i2, if_neg hq], ai_pushI hls h4 (by rw [ai_32_div]; exact ai_div_ok hE h3 h1) hF hG hI h'⟩
            · rw [if_neg hn] at h'
              cases h'
          | _ => cases h
      | _ => cases h
  | irem =>
    cases st with
    | nil => cases h
    | cons s1 r1 => cases s1 using ai_Ac with
      | i y => cases r1 with
        | nil => cases h
        | cons s2 r => cases s2 using ai_Ac with
          | i x =>
            obtain ⟨q, vr1, e1, h1, h2⟩ := ai_ci hst
            subst e1
            obtain ⟨p, vr, e2, h3, h4⟩ := ai_ci h2
            subst e2
            have h' : (if ai_n0 E y = true then ai_push nx ls r F false (ai_rem false E x y) else none) = some L := h
            by_cases hn : ai_n0 E y = true
            · rw [if_pos hn] at h'
              have hq : ¬ q = 0 := by
                intro z
                apply ai_n0_ok hE h1 hn
                rw [z]
                rfl
              exact ⟨(nx, vls, .int (p - p / q * q) :: vr, M), by simp only [ip_step, ip_i2, if_neg hq], ai_pushI hls h4 (by rw [ai_32_rem]; exact ai_rem_ok hE h3 h1) hF hG hI h'⟩
            · rw [if_neg hn] at h'
              cases h'
          | _ => cases h
      | _ => cases h
  | iand =>
    cases st with
    | nil => cases h
    | cons s1 r1 => cases s1 using ai_Ac with
      | i y => cases r1 with
        | nil => cases h
        | cons s2 r => cases s2 using ai_Ac with
          | i x =>
            obtain ⟨q, vr1, e1, h1, h2⟩ := ai_ci hst
            subst e1
            obtain ⟨p, vr, e2, h3, h4⟩ := ai_ci h2
            subst e2
            exact ⟨(nx, vls, .int (p &&& q) :: vr, M), rfl, ai_pushI hls h4 (ai_and32 hE h1) hF hG hI h⟩
          | _ => cases h
      | _ => cases h
  | ior =>
    cases st with
    | nil => cases h
    | cons s1 r1 => cases s1 using ai_Ac with
      | i y => cases r1 with
        | nil => cases h
        | cons s2 r => cases s2 using ai_Ac with
          | i x =>
            obtain ⟨q, vr1, e1, h1, h2⟩ := ai_ci hst
            subst e1
            obtain ⟨p, vr, e2, h3, h4⟩ := ai_ci h2
            subst e2
            exact ⟨(nx, vls, .int (p ||| q) :: vr, M), rfl, ai_pushI hls h4 (ai_fl32 hE _) hF hG hI h⟩
          | _ => cases h
      | _ => cases h
  | ixor =>
    cases st with
    | nil => cases h
    | cons s1 r1 => cases s1 using ai_Ac with
      | i y => cases r1 with
        | nil => cases h
        | cons s2 r => cases s2 using ai_Ac with
          | i x =>
            obtain ⟨q, vr1, e1, h1, h2⟩ := ai_ci hst
            subst e1
            obtain ⟨p, vr, e2, h3, h4⟩ := ai_ci h2
            subst e2
            exact ⟨(nx, vls, .int (p ^^^ q) :: vr, M), rfl, ai_pushI hls h4 (ai_fl32 hE _) hF hG hI h⟩
          | _ => cases h
      | _ => cases h
  | ladd =>
    cases st with
    | nil => cases h
    | cons s1 r1 => cases s1 using ai_Ac with
      | l y => cases r1 with
        | nil => cases h
        | cons s2 r => cases s2 using ai_Ac with
          | l x =>
            obtain ⟨q, vr1, e1, h1, h2⟩ := ai_cl hst
            subst e1
            obtain ⟨p, vr, e2, h3, h4⟩ := ai_cl h2
            subst e2
            exact ⟨(nx, vls, .long (p + q) :: vr, M), rfl, ai_pushL hls h4 (by rw [ai_64_add]; exact ai_add_ok hE h3 h1) hF hG hI h⟩
          | _ => cases h
      | _ => cases h
  | lsub =>
    cases st with
    | nil => cases h
    | cons s1 r1 => cases s1 using ai_Ac with
      | l y => cases r1 with
        | nil => cases h
        | cons s2 r => cases s2 using ai_Ac with
          | l x =>
            obtain ⟨q, vr1, e1, h1, h2⟩ := ai_cl hst
            subst e1
            obtain ⟨p, vr, e2, h3, h4⟩ := ai_cl h2
            subst e2
            exact ⟨(nx, vls, .long (p - q) :: vr, M), rfl, ai_pushL hls h4 (by rw [ai_64_sub]; exact ai_sub_ok hE h3 h1) hF hG hI h⟩
          | _ => cases h
      | _ => cases h
  | lmul =>
    cases st with
    | nil => cases h
    | cons s1 r1 => cases s1 using ai_Ac with
      | l y => cases r1 with
        | nil => cases h
        | cons s2 r => cases s2 using ai_Ac with
          | l x =>
            obtain ⟨q, vr1, e1, h1, h2⟩ := ai_cl hst
            subst e1
            obtain ⟨p, vr, e2, h3, h4⟩ := ai_cl h2
            subst e2
            exact ⟨(nx, vls, .long (p * q) :: vr, M), rfl, ai_pushL hls h4 (by rw [ai_64_mul]; exact ai_mul_ok hE h3 h1) hF hG hI h⟩
          | _ => cases h
      | _ => cases h
  | ldiv =>
    cases st with
    | nil => cases h
    | cons s1 r1 => cases s1 using ai_Ac with
      | l y => cases r1 with
        | nil => cases h
        | cons s2 r => cases s2 using ai_Ac with
          | l x =>
            obtain ⟨q, vr1, e1, h1, h2⟩ := ai_cl hst
            subst e1
            obtain ⟨p, vr, e2, h3, h4⟩ := ai_cl h2
            subst e2
            have h' : (if ai_n0 E y = true then ai_push nx ls r F true (ai_div true E x y) else none) = some L := h
            by_cases hn : ai_n0 E y = true
            · rw [if_pos hn] at h'
              have hq : ¬ q = 0 := by
                intro z
                apply ai_n0_ok hE h1 hn
                rw [z]
                rfl
              exact ⟨(nx, vls, .long (p / q) :: vr, M), by simp only [ip_step, ip_l2, if_neg hq], ai_pushL hls h4 (by rw [ai_64_div]; exact ai_div_ok hE h3 h1) hF hG hI h'⟩
            · rw [if_neg hn] at h'
              cases h'
          | _ => cases h
      | _ => cases h
  | lrem =>
    cases st with
    | nil => cases h
    | cons s1 r1 => cases s1 using ai_Ac with
      | l y => cases r1 with
        | nil => cases h
        | cons s2 r => cases s2 using ai_Ac with
          | l x =>
            obtain ⟨q, vr1, e1, h1, h2⟩ := ai_cl hst
            subst e1
            obtain ⟨p, vr, e2, h3, h4⟩ := ai_cl h2
            subst e2
            have h' : (if ai_n0 E y = true then ai_push nx ls r F true (ai_rem true E x y) else none) = some L := h
            by_cases hn : ai_n0 E y = true
            · rw [if_pos hn] at h'
              have hq : ¬ q = 0 := by
                intro z
                apply ai_n0_ok hE h1 hn
                rw [z]
                rfl
              exact ⟨(nx, vls, .long (p - p / q * q) :: vr, M), by simp only [ip_step, ip_l2, if_neg hq], ai_pushL hls h4 (by rw [ai_64_rem]; exact ai_rem_ok hE h3 h1) hF hG hI h'⟩
            · rw [if_neg hn] at h'
              cases h'
          | _ => cases h
      | _ => cases h
  | land =>
    cases st with
    | nil => cases h
    | cons s1 r1 => cases s1 using ai_Ac with
      | l y => cases r1 with
        | nil => cases h
        | cons s2 r => cases s2 using ai_Ac with
          | l x =>
            obtain ⟨q, vr1, e1, h1, h2⟩ := ai_cl hst
            subst e1
            obtain ⟨p, vr, e2, h3, h4⟩ := ai_cl h2
            subst e2
            exact ⟨(nx, vls, .long (p &&& q) :: vr, M), rfl, ai_pushL hls h4 (ai_and64 hE h1) hF hG hI h⟩
          | _ => cases h
      | _ => cases h
  | lor =>
    cases st with
    | nil => cases h
    | cons s1 r1 => cases s1 using ai_Ac with
      | l y => cases r1 with
        | nil => cases h
        | cons s2 r => cases s2 using ai_Ac with
          | l x =>
            obtain ⟨q, vr1, e1, h1, h2⟩ := ai_cl hst
            subst e1
            obtain ⟨p, vr, e2, h3, h4⟩ := ai_cl h2
            subst e2
            exact ⟨(nx, vls, .long (p ||| q) :: vr, M), rfl, ai_pushL hls h4 (ai_fl64 hE _) hF hG hI h⟩
          | _ => cases h
      | _ => cases h
  | lxor =>
    cases st with
    | nil => cases h
    | cons s1 r1 => cases s1 using ai_Ac with
      | l y => cases r1 with
        | nil => cases h
        | cons s2 r => cases s2 using ai_Ac with
          | l x =>
            obtain ⟨q, vr1, e1, h1, h2⟩ := ai_cl hst
            subst e1
            obtain ⟨p, vr, e2, h3, h4⟩ := ai_cl h2
            subst e2
            exact ⟨(nx, vls, .long (p ^^^ q) :: vr, M), rfl, ai_pushL hls h4 (ai_fl64 hE _) hF hG hI h⟩
          | _ => cases h
      | _ => cases h
  | ishl =>
    cases st with
    | nil => cases h
    | cons s1 r1 => cases s1 using ai_Ac with
      | i y => cases r1 with
        | nil => cases h
        | cons s2 r => cases s2 using ai_Ac with
          | i x =>
            obtain ⟨q, vr1, e1, h1, h2⟩ := ai_ci hst
            subst e1
            obtain ⟨p, vr, e2, h3, h4⟩ := ai_ci h2
            subst e2
            exact ⟨(nx, vls, .int (p <<< (q &&& 31)) :: vr, M), rfl, ai_pushI hls h4 (ai_fl32 hE _) hF hG hI h⟩
          | _ => cases h
      | _ => cases h
  | ishr =>
    cases st with
    | nil => cases h
    | cons s1 r1 => cases s1 using ai_Ac with
      | i y => cases r1 with
        | nil => cases h
        | cons s2 r => cases s2 using ai_Ac with
          | i x =>
            obtain ⟨q, vr1, e1, h1, h2⟩ := ai_ci hst
            subst e1
            obtain ⟨p, vr, e2, h3, h4⟩ := ai_ci h2
            subst e2
            exact ⟨(nx, vls, .int (p >>> (q &&& 31)) :: vr, M), rfl, ai_pushI hls h4 (ai_fl32 hE _) hF hG hI h⟩
          | _ => cases h
      | _ => cases h
  | lshl =>
    cases st with
    | nil => cases h
    | cons s1 r1 => cases s1 using ai_Ac with
      | i y => cases r1 with
        | nil => cases h
        | cons s2 r => cases s2 using ai_Ac with
          | l x =>
            obtain ⟨q, vr1, e1, h1, h2⟩ := ai_ci hst
            subst e1
            obtain ⟨p, vr, e2, h3, h4⟩ := ai_cl h2
            subst e2
            exact ⟨(nx, vls, .long (p <<< (q.toInt64 &&& 63)) :: vr, M), rfl, ai_pushL hls h4 (ai_fl64 hE _) hF hG hI h⟩
          | _ => cases h
      | _ => cases h
  | lshr =>
    cases st with
    | nil => cases h
    | cons s1 r1 => cases s1 using ai_Ac with
      | i y => cases r1 with
        | nil => cases h
        | cons s2 r => cases s2 using ai_Ac with
          | l x =>
            obtain ⟨q, vr1, e1, h1, h2⟩ := ai_ci hst
            subst e1
            obtain ⟨p, vr, e2, h3, h4⟩ := ai_cl h2
            subst e2
            exact ⟨(nx, vls, .long (p >>> (q.toInt64 &&& 63)) :: vr, M), rfl, ai_pushL hls h4 (ai_fl64 hE _) hF hG hI h⟩
          | _ => cases h
      | _ => cases h
  | lushr =>
    cases st with
    | nil => cases h
    | cons s1 r1 => cases s1 using ai_Ac with
      | i y => cases r1 with
        | nil => cases h
        | cons s2 r => cases s2 using ai_Ac with
          | l x =>
            obtain ⟨q, vr1, e1, h1, h2⟩ := ai_ci hst
            subst e1
            obtain ⟨p, vr, e2, h3, h4⟩ := ai_cl h2
            subst e2
            exact ⟨(nx, vls, .long ((p.toUInt64 >>> (q.toInt64.toUInt64 &&& Int64.toUInt64 63)).toInt64) :: vr, M), rfl, ai_pushL hls h4 (ai_fl64 hE _) hF hG hI h⟩
          | _ => cases h
      | _ => cases h
  | ineg =>
    cases st with
    | nil => cases h
    | cons s1 r => cases s1 using ai_Ac with
      | i x =>
        obtain ⟨q, vr, e1, h1, h2⟩ := ai_ci hst
        subst e1
        exact ⟨(nx, vls, .int (-q) :: vr, M), rfl, ai_pushI hls h2 (by rw [ai_32_neg]; exact ai_neg_ok hE h1) hF hG hI h⟩
      | _ => cases h
  | lneg =>
    cases st with
    | nil => cases h
    | cons s1 r => cases s1 using ai_Ac with
      | l x =>
        obtain ⟨q, vr, e1, h1, h2⟩ := ai_cl hst
        subst e1
        exact ⟨(nx, vls, .long (-q) :: vr, M), rfl, ai_pushL hls h2 (by rw [ai_64_neg]; exact ai_neg_ok hE h1) hF hG hI h⟩
      | _ => cases h
  | lcmp =>
    cases st with
    | nil => cases h
    | cons s1 r1 => cases s1 using ai_Ac with
      | l y => cases r1 with
        | nil => cases h
        | cons s2 r => cases s2 using ai_Ac with
          | l x =>
            obtain ⟨q, vr1, e1, h1, h2⟩ := ai_cl hst
            subst e1
            obtain ⟨p, vr, e2, h3, h4⟩ := ai_cl h2
            subst e2
            exact ⟨(nx, vls, .int (lg_cmp p q) :: vr, M), rfl, ai_pure (st := .c x y :: r) hls ⟨⟨p, q, rfl, h3, h1⟩, h4⟩ hE hF hG hI h⟩
          | _ => cases h
      | _ => cases h
  | i2l =>
    cases st with
    | nil => cases h
    | cons s1 r => cases s1 using ai_Ac with
      | i x =>
        obtain ⟨q, vr, e1, h1, h2⟩ := ai_ci hst
        subst e1
        exact ⟨(nx, vls, .long q.toInt64 :: vr, M), rfl, ai_pure (st := .l x :: r) hls ⟨⟨q.toInt64, rfl, by rw [Int32.toInt_toInt64]; exact h1⟩, h2⟩ hE hF hG hI h⟩
      | _ => cases h
  | l2i =>
    cases st with
    | nil => cases h
    | cons s1 r => cases s1 using ai_Ac with
      | l x =>
        obtain ⟨q, vr, e1, h1, h2⟩ := ai_cl hst
        subst e1
        have h' : (if ai_in E x (-2147483648) 2147483647 = true then some [(nx, ls, .i x :: r, E, F)] else ai_push nx ls r F false (ai_fl false E)) = some L := h
        refine ⟨(nx, vls, .int q.toInt32 :: vr, M), rfl, ?_⟩
        by_cases hn : ai_in E x (-2147483648) 2147483647 = true
        · rw [if_pos hn] at h'
          have hb := ai_in_ok hE h1 hn
          have e : q.toInt32.toInt = q.toInt := by
            rw [Int64.toInt_toInt32]
            exact Int.bmod_eq_of_le_mul_two (by omega) (by omega)
          exact ai_pure (st := .i x :: r) hls ⟨⟨q.toInt32, rfl, by rw [e]; exact h1⟩, h2⟩ hE hF hG hI h'
        · rw [if_neg hn] at h'
          exact ai_pushI hls h2 (ai_fl32 hE _) hF hG hI h'
      | _ => cases h
  | i2b =>
    cases st with
    | nil => cases h
    | cons s1 r => cases s1 using ai_Ac with
      | i x =>
        obtain ⟨q, vr, e1, h1, h2⟩ := ai_ci hst
        subst e1
        have h' : (if ai_in E x (-128) 127 = true then some [(nx, ls, .i x :: r, E, F)] else ai_push nx ls r F false (ai_nw E (-128) 127)) = some L := h
        refine ⟨(nx, vls, .int q.toInt8.toInt32 :: vr, M), rfl, ?_⟩
        have e8 : q.toInt8.toInt32.toInt = q.toInt.bmod 256 := by rw [Int8.toInt_toInt32, Int32.toInt_toInt8]
        by_cases hn : ai_in E x (-128) 127 = true
        · rw [if_pos hn] at h'
          have hb := ai_in_ok hE h1 hn
          have e : q.toInt8.toInt32.toInt = q.toInt := by
            rw [e8]
            exact Int.bmod_eq_of_le_mul_two (by omega) (by omega)
          exact ai_pure (st := .i x :: r) hls ⟨⟨_, rfl, by rw [e]; exact h1⟩, h2⟩ hE hF hG hI h'
        · rw [if_neg hn] at h'
          refine ai_pushI hls h2 (ai_nw_ok hE ?_) hF hG hI h'
          have b1 := Int.le_bmod (x := q.toInt) (m := 256) (by decide)
          have b2 := Int.bmod_lt (x := q.toInt) (m := 256) (by decide)
          rw [e8]
          omega
      | _ => cases h
  | goto n => exact ⟨(a, vls, vst, M), rfl, ai_pure hls hst hE hF hG hI h⟩
  | ifCond c n =>
    cases st with
    | nil => cases h
    | cons s1 r => cases s1 using ai_Ac with
      | i x =>
        obtain ⟨q, vr, e1, h1, h2⟩ := ai_ci hst
        subst e1
        refine ⟨(if ip_cd c q 0 then a else nx, vls, vr, M), rfl, ai_two_ok (q := 0) hls h2 hE h1 (show ai_val ρ (none, 0) 0 from rfl) hF hG hI _ ?_ h⟩
        cases c <;> simp only [ip_cd, ai_tr, Int32.lt_iff_toInt_lt, Int32.le_iff_toInt_le, ← Int32.toInt_inj, Int32.toInt_zero]
      | c x y =>
        obtain ⟨p, q, vr, e1, h1, h3, h2⟩ := ai_cc hst
        subst e1
        refine ⟨(if ip_cd c (lg_cmp p q) 0 then a else nx, vls, vr, M), rfl, ai_two_ok hls h2 hE h1 h3 hF hG hI _ ?_ h⟩
        have k1 := ip_cmp_lt p q
        have k2 := ip_cmp_gt p q
        have k3 := ip_cmp_eq p q
        rw [Int64.lt_iff_toInt_lt] at k1 k2
        rw [← Int64.toInt_inj] at k3
        cases c
        · simp only [ip_cd, ai_tr, k3]
        · simp only [ip_cd, ai_tr, k3]
        · simp only [ip_cd, ai_tr, k1]
        · simp only [ip_cd, ai_tr]
          exact decide_eq_decide.mpr (by rw [← Int32.not_lt, k1, Int.not_lt])
        · simp only [ip_cd, ai_tr, k2]
        · simp only [ip_cd, ai_tr]
          exact decide_eq_decide.mpr (by rw [← Int32.not_lt, k2, Int.not_lt])
      | _ => cases h
  | if_icmp c n =>
    cases st with
    | nil => cases h
    | cons s1 r1 => cases s1 using ai_Ac with
      | i y => cases r1 with
        | nil => cases h
        | cons s2 r => cases s2 using ai_Ac with
          | i x =>
            obtain ⟨q, vr1, e1, h1, h2⟩ := ai_ci hst
            subst e1
            obtain ⟨p, vr, e2, h3, h4⟩ := ai_ci h2
            subst e2
            refine ⟨(if ip_cd c p q then a else nx, vls, vr, M), rfl, ai_two_ok hls h4 hE h3 h1 hF hG hI _ ?_ h⟩
            cases c <;> simp only [ip_cd, ai_tr, Int32.lt_iff_toInt_lt, Int32.le_iff_toInt_le, ← Int32.toInt_inj]
          | _ => cases h
      | _ => cases h
  | tableswitch d lo hi l =>
    cases st with
    | nil => cases h
    | cons s1 r => cases s1 using ai_Ac with
      | i x =>
        obtain ⟨q, vr, e1, h1, h2⟩ := ai_ci hst
        subst e1
        have hc : ∀ z : Int, ai_val ρ (none, z) z := fun _ => rfl
        have con : ∀ (s : ai_S) (pc : Nat) (E1 : ai_V), s = (pc, ls, r, E1, F) → ai_okV ρ E1 → ai_okS T W (ρ ++ []) s (pc, vls, vr, M) M := by
          intro s pc E1 es h5
          rw [es, List.append_nil]
          exact ⟨rfl, hls, h2, h5, hF, hG, hI, ai_fr_r W M⟩
        refine ⟨(if q.toInt < lo ∨ hi < q.toInt then a else ts.getD (q.toInt - lo).toNat a, vls, vr, M), rfl, ?_⟩
        cases h
        by_cases g1 : q.toInt < lo
        · obtain ⟨E1, e5, h5⟩ := ai_lt_ok hE h1 (hc lo) g1
          rw [if_pos (Or.inl g1)]
          exact ⟨_, List.mem_append_left _ (ai_opt_ok e5), [], con _ _ E1 rfl h5⟩
        · by_cases g2 : hi < q.toInt
          · obtain ⟨E1, e5, h5⟩ := ai_lt_ok hE (hc hi) h1 g2
            rw [if_pos (Or.inr g2)]
            exact ⟨_, List.mem_append_right _ (List.mem_append_left _ (ai_opt_ok e5)), [], con _ _ E1 rfl h5⟩
          · have g3 : q.toInt = lo + ((q.toInt - lo).toNat : Int) := by omega
            obtain ⟨E1, e5, h5⟩ := ai_eq_ok hE h1 (hc (lo + ((q.toInt - lo).toNat : Int))) g3
            rw [if_neg (by omega)]
            refine ⟨_, List.mem_append_right _ (List.mem_append_right _ (List.mem_flatMap.mpr ⟨(q.toInt - lo).toNat, List.mem_range.mpr (by omega), ai_opt_ok e5⟩)), [], con _ _ E1 rfl h5⟩
      | _ => cases h
  | dup =>
    cases st with
    | nil => cases h
    | cons s1 r => cases s1 using ai_Ac with
      | r k =>
        obtain ⟨vr, e1, h2⟩ := ai_cr hst
        subst e1
        exact ⟨(nx, vls, .ref k :: .ref k :: vr, M), rfl, ai_pure (st := .r k :: .r k :: r) hls ⟨rfl, rfl, h2⟩ hE hF hG hI h⟩
      | i x =>
        obtain ⟨q, vr, e1, h1, h2⟩ := ai_ci hst
        subst e1
        exact ⟨(nx, vls, .int q :: .int q :: vr, M), rfl, ai_pure (st := .i x :: .i x :: r) hls ⟨⟨q, rfl, h1⟩, ⟨q, rfl, h1⟩, h2⟩ hE hF hG hI h⟩
      | _ => cases h
  | dup2 =>
    cases st with
    | nil => cases h
    | cons s1 r1 => cases s1 using ai_Ac with
      | i y => cases r1 with
        | nil => cases h
        | cons s2 r => cases s2 using ai_Ac with
          | r x =>
            obtain ⟨q, vr1, e1, h1, h2⟩ := ai_ci hst
            subst e1
            obtain ⟨vr, e2, h4⟩ := ai_cr h2
            subst e2
            exact ⟨(nx, vls, .int q :: .ref x :: .int q :: .ref x :: vr, M), rfl, ai_pure (st := .i y :: .r x :: .i y :: .r x :: r) hls ⟨⟨q, rfl, h1⟩, rfl, ⟨q, rfl, h1⟩, rfl, h4⟩ hE hF hG hI h⟩
          | _ => cases h
      | _ => cases h
  | pop =>
    cases st with
    | nil => cases h
    | cons s1 r => cases s1 using ai_Ac with
      | i x =>
        obtain ⟨q, vr, e1, h1, h2⟩ := ai_ci hst
        subst e1
        exact ⟨(nx, vls, vr, M), rfl, ai_pure hls h2 hE hF hG hI h⟩
      | c x y =>
        obtain ⟨p, q, vr, e1, h1, h3, h2⟩ := ai_cc hst
        subst e1
        exact ⟨(nx, vls, vr, M), rfl, ai_pure hls h2 hE hF hG hI h⟩
      | _ => cases h
  | getfield n =>
    cases st with
    | nil => cases h
    | cons s1 r => cases s1 using ai_Ac with
      | r x =>
        obtain ⟨vr, e1, h2⟩ := ai_cr hst
        subst e1
        unfold ai_step at h
        dsimp only [ai_r1] at h
        by_cases hs : (ai_sh x).1 = 0 ∧ (ai_sh x).2.1 = a
        · rw [if_pos hs] at h
          have hs' : (ip_sh M x).1 = 0 ∧ (ip_sh M x).2.1 = a := by rw [hsh]; exact hs
          refine ⟨(nx, vls, (if t = 1 then .long (M.2.2.1 x b) else if t = 2 then ip_vr (M.2.2.2 x b) else .int (M.2.1 x b)) :: vr, M), by simp only [ip_step, ip_r1, if_pos hs'], ?_⟩
          by_cases ht1 : t = 1
          · rw [if_pos ht1] at h ⊢
            exact ai_pushL hls h2 (ai_fl64 hE _) hF hG hI h
          · rw [if_neg ht1] at h ⊢
            by_cases ht2 : t = 2
            · rw [if_pos ht2] at h ⊢
              by_cases hk : x < 128 ∧ b < 48
              · rw [if_pos hk] at h
                have hr := hG.2 x b hk.1 hk.2
                rw [← ai_rf_eq] at hr
                cases hq : ai_rf x b with
                | none => rw [hq] at h; cases h
                | some q =>
                  rw [hq] at h hr
                  rw [hr rfl]
                  exact ai_pure (st := .r q :: r) hls ⟨rfl, h2⟩ hE hF hG hI h
              · rw [if_neg hk] at h
                cases h
            · rw [if_neg ht2] at h ⊢
              cases hl : ai_look F x b with
              | some z =>
                rw [hl] at h
                exact ai_pure (st := .i z :: r) hls ⟨⟨_, rfl, ai_look_ok hF hl⟩, h2⟩ hE hF hG hI h
              | none =>
                rw [hl] at h
                obtain ⟨t1, k1, k2⟩ := ai_nw_ok (lo := (ai_TT T x b).1) (hi := (ai_TT T x b).2) hE (hI x b)
                cases h
                refine ⟨_, List.mem_singleton.mpr rfl, t1, rfl, ai_okL_app t1 hls, ⟨⟨_, rfl, k2⟩, ai_okL_app t1 h2⟩, k1, ?_, hG, hI, ai_fr_r W M⟩
                intro f hf
                rcases List.mem_cons.mp hf with hf | hf
                · rw [hf]; exact k2
                · exact ai_okF_app t1 hF f hf
        · rw [if_neg hs] at h
          cases h
      | _ => cases h
  | putfield n =>
    cases st with
    | nil => cases h
    | cons s1 r1 => cases s1 using ai_Ac with
      | i x => cases r1 with
        | nil => cases h
        | cons s2 r => cases s2 using ai_Ac with
          | r k =>
            obtain ⟨q, vr1, e1, h1, h2⟩ := ai_ci hst
            subst e1
            obtain ⟨vr, e2, h4⟩ := ai_cr h2
            subst e2
            unfold ai_step at h
            dsimp only at h
            by_cases hs : (ai_sh k).1 = 0 ∧ (ai_sh k).2.1 = a ∧ (t = 0 ∨ t = 3 ∧ ai_in E x 0 1 = true) ∧ ai_in E x (ai_TT T k b).1 (ai_TT T k b).2 = true ∧ ai_may W k b = true
            · rw [if_pos hs] at h
              obtain ⟨g1, g2, g3, g4, g5⟩ := hs
              have hb := ai_in_ok hE h1 g4
              have hs' : (ip_sh M k).1 = 0 ∧ (ip_sh M k).2.1 = a ∧ (t = 0 ∨ t = 3 ∧ (q = 0 ∨ q = 1)) := by
                rw [hsh]
                refine ⟨g1, g2, g3.imp id fun g => ⟨g.1, ?_⟩⟩
                have := ai_in_ok hE h1 g.2
                rw [← Int32.toInt_inj, ← Int32.toInt_inj]
                have e0 : (0 : Int32).toInt = 0 := rfl
                have e1 : (1 : Int32).toInt = 1 := rfl
                omega
              cases h
              refine ⟨(nx, vls, vr, ip_uI M k b q), by simp only [ip_step, if_pos hs'], _, List.mem_singleton.mpr rfl, [], rfl, by simpa using hls, by simpa using h4, by simpa using hE, ?_, (ip_G_uI M k b q).mpr hG, ai_inv_uI hI hb, ai_fr_uI g5⟩
              rw [List.append_nil]
              intro f hf
              rcases List.mem_cons.mp hf with hf | hf
              · rw [hf]
                show ai_val ρ x (if k = k ∧ b = b then q else M.2.1 k b).toInt
                rw [if_pos ⟨rfl, rfl⟩]
                exact h1
              · exact ai_drop_ok q hF f hf
            · rw [if_neg hs] at h
              cases h
          | _ => cases h
      | l x => cases r1 with
        | nil => cases h
        | cons s2 r => cases s2 using ai_Ac with
          | r k =>
            obtain ⟨q, vr1, e1, h1, h2⟩ := ai_cl hst
            subst e1
            obtain ⟨vr, e2, h4⟩ := ai_cr h2
            subst e2
            unfold ai_step at h
            dsimp only at h
            by_cases hs : (ai_sh k).1 = 0 ∧ (ai_sh k).2.1 = a ∧ t = 1 ∧ ai_may W (k + 1000) b = true
            · rw [if_pos hs] at h
              have hs' : (ip_sh M k).1 = 0 ∧ (ip_sh M k).2.1 = a ∧ t = 1 := by rw [hsh]; exact ⟨hs.1, hs.2.1, hs.2.2.1⟩
              cases h
              exact ⟨(nx, vls, vr, ip_uL M k b q), by simp only [ip_step, if_pos hs'], _, List.mem_singleton.mpr rfl, [], rfl, by simpa using hls, by simpa using h4, by simpa using hE, by rw [List.append_nil]; exact hF, (ip_G_uL M k b q).mpr hG, hI, ai_fr_uL hs.2.2.2⟩
            · rw [if_neg hs] at h
              cases h
          | _ => cases h
      | _ => cases h
  | arraylength =>
    cases st with
    | nil => cases h
    | cons s1 r => cases s1 using ai_Ac with
      | r x =>
        obtain ⟨vr, e1, h2⟩ := ai_cr hst
        subst e1
        unfold ai_step at h
        dsimp only [ai_r1] at h
        by_cases hs : (ai_sh x).1 = 1 ∧ (ai_sh x).2.2 < 2147483648
        · rw [if_pos hs] at h
          have hs' : (ip_sh M x).1 = 1 := by rw [hsh]; exact hs.1
          refine ⟨(nx, vls, .int (Int32.ofNat (ip_sh M x).2.2) :: vr, M), by simp only [ip_step, if_pos hs'], ai_pure (st := .i (none, (ai_sh x).2.2) :: r) hls ⟨⟨_, rfl, ?_⟩, h2⟩ hE hF hG hI h⟩
          rw [hsh]
          exact Int32.toInt_ofNat_of_lt (by omega)
        · rw [if_neg hs] at h
          cases h
      | _ => cases h
  | baload =>
    cases st with
    | nil => cases h
    | cons s1 r1 => cases s1 using ai_Ac with
      | i y => cases r1 with
        | nil => cases h
        | cons s2 r => cases s2 using ai_Ac with
          | r x =>
            obtain ⟨q, vr1, e1, h1, h2⟩ := ai_ci hst
            subst e1
            obtain ⟨vr, e2, h4⟩ := ai_cr h2
            subst e2
            unfold ai_step at h
            dsimp only at h
            by_cases hs : (ai_sh x).1 = 1 ∧ ((ai_sh x).2.1 = 2 ∨ (ai_sh x).2.1 = 3) ∧ ai_in E y 0 ((ai_sh x).2.2 - 1) = true
            · rw [if_pos hs] at h
              have hb := ai_in_ok hE h1 hs.2.2
              have hx0 : ip_ix q (ip_sh M x).2.2 = true := by rw [hsh]; exact ai_ix_ok hb
              have hs' : (ip_sh M x).1 = 1 ∧ ((ip_sh M x).2.1 = 2 ∨ (ip_sh M x).2.1 = 3) ∧ ip_ix q (ip_sh M x).2.2 = true := ⟨by rw [hsh]; exact hs.1, by rw [hsh]; exact hs.2.1, hx0⟩
              refine ⟨(nx, vls, .int (M.2.1 x q.toNatClampNeg) :: vr, M), by simp only [ip_step, if_pos hs'], ?_⟩
              have hk := ai_TK_ok hTK x q.toNatClampNeg
              have hi := hI x q.toNatClampNeg
              exact ai_pushI hls h4 (ai_nw_ok hE (by omega)) hF hG hI h
            · rw [if_neg hs] at h
              cases h
          | _ => cases h
      | _ => cases h
  | laload =>
    cases st with
    | nil => cases h
    | cons s1 r1 => cases s1 using ai_Ac with
      | i y => cases r1 with
        | nil => cases h
        | cons s2 r => cases s2 using ai_Ac with
          | r x =>
            obtain ⟨q, vr1, e1, h1, h2⟩ := ai_ci hst
            subst e1
            obtain ⟨vr, e2, h4⟩ := ai_cr h2
            subst e2
            unfold ai_step at h
            dsimp only at h
            by_cases hs : (ai_sh x).1 = 1 ∧ (ai_sh x).2.1 = 1 ∧ ai_in E y 0 ((ai_sh x).2.2 - 1) = true
            · rw [if_pos hs] at h
              have hb := ai_in_ok hE h1 hs.2.2
              have hx0 : ip_ix q (ip_sh M x).2.2 = true := by rw [hsh]; exact ai_ix_ok hb
              have hs' : (ip_sh M x).1 = 1 ∧ (ip_sh M x).2.1 = 1 ∧ ip_ix q (ip_sh M x).2.2 = true := ⟨by rw [hsh]; exact hs.1, by rw [hsh]; exact hs.2.1, hx0⟩
              refine ⟨(nx, vls, .long (M.2.2.1 x q.toNatClampNeg) :: vr, M), by simp only [ip_step, if_pos hs'], ?_⟩
              exact ai_pushL hls h4 (ai_fl64 hE _) hF hG hI h
            · rw [if_neg hs] at h
              cases h
          | _ => cases h
      | _ => cases h
  | iaload =>
    cases st with
    | nil => cases h
    | cons s1 r1 => cases s1 using ai_Ac with
      | i y => cases r1 with
        | nil => cases h
        | cons s2 r => cases s2 using ai_Ac with
          | r x =>
            obtain ⟨q, vr1, e1, h1, h2⟩ := ai_ci hst
            subst e1
            obtain ⟨vr, e2, h4⟩ := ai_cr h2
            subst e2
            unfold ai_step at h
            dsimp only at h
            by_cases hs : (ai_sh x).1 = 1 ∧ (ai_sh x).2.1 = 0 ∧ ai_in E y 0 ((ai_sh x).2.2 - 1) = true
            · rw [if_pos hs] at h
              have hb := ai_in_ok hE h1 hs.2.2
              have hx0 : ip_ix q (ip_sh M x).2.2 = true := by rw [hsh]; exact ai_ix_ok hb
              have hs' : (ip_sh M x).1 = 1 ∧ (ip_sh M x).2.1 = 0 ∧ ip_ix q (ip_sh M x).2.2 = true := ⟨by rw [hsh]; exact hs.1, by rw [hsh]; exact hs.2.1, hx0⟩
              refine ⟨(nx, vls, .int (M.2.1 x q.toNatClampNeg) :: vr, M), by simp only [ip_step, if_pos hs'], ?_⟩
              have hk := ai_TK_ok hTK x q.toNatClampNeg
              have hi := hI x q.toNatClampNeg
              cases hn : y.1 with
              | some m =>
                rw [hn] at h
                exact ai_pushI hls h4 (ai_nw_ok hE (by omega)) hF hG hI h
              | none =>
                rw [hn] at h
                have eq0 : q.toNatClampNeg = y.2.toNat := by
                  have : q.toInt = y.2 := by unfold ai_val at h1; rw [hn] at h1; exact h1
                  rw [← this]
                  rfl
                rw [eq0] at hi ⊢
                dsimp only at h
                cases hl : ai_look F x y.2.toNat with
                | some z =>
                  rw [hl] at h
                  exact ai_pure (st := .i z :: r) hls ⟨⟨_, rfl, ai_look_ok hF hl⟩, h4⟩ hE hF hG hI h
                | none =>
                  rw [hl] at h
                  obtain ⟨t1, k1, k2⟩ := ai_nw_ok (lo := (ai_TT T x y.2.toNat).1) (hi := (ai_TT T x y.2.toNat).2) hE hi
                  cases h
                  refine ⟨_, List.mem_singleton.mpr rfl, t1, rfl, ai_okL_app t1 hls, ⟨⟨_, rfl, k2⟩, ai_okL_app t1 h4⟩, k1, ?_, hG, hI, ai_fr_r W M⟩
                  intro f hf
                  rcases List.mem_cons.mp hf with hf | hf
                  · rw [hf]; exact k2
                  · exact ai_okF_app t1 hF f hf
            · rw [if_neg hs] at h
              cases h
          | _ => cases h
      | _ => cases h
  | aaload =>
    cases st with
    | nil => cases h
    | cons s1 r1 => cases s1 using ai_Ac with
      | i y => cases r1 with
        | nil => cases h
        | cons s2 r => cases s2 using ai_Ac with
          | r x =>
            obtain ⟨q, vr1, e1, h1, h2⟩ := ai_ci hst
            subst e1
            obtain ⟨vr, e2, h4⟩ := ai_cr h2
            subst e2
            unfold ai_step at h
            dsimp only at h
            by_cases hs : (ai_sh x).1 = 1 ∧ 4 ≤ (ai_sh x).2.1 ∧ ai_in E y 0 ((ai_sh x).2.2 - 1) = true ∧ x < 128 ∧ (ai_sh x).2.2 ≤ 48 ∧ ((List.range (ai_sh x).2.2).all fun j => (ai_rf x j).isSome) = true
            · rw [if_pos hs] at h
              have hb := ai_in_ok hE h1 hs.2.2.1
              have hx0 : ip_ix q (ip_sh M x).2.2 = true := by rw [hsh]; exact ai_ix_ok hb
              have hs' : (ip_sh M x).1 = 1 ∧ 4 ≤ (ip_sh M x).2.1 ∧ ip_ix q (ip_sh M x).2.2 = true := ⟨by rw [hsh]; exact hs.1, by rw [hsh]; exact hs.2.1, hx0⟩
              refine ⟨(nx, vls, ip_vr (M.2.2.2 x q.toNatClampNeg) :: vr, M), by simp only [ip_step, if_pos hs'], ?_⟩
              obtain ⟨-, -, -, g4, g5, g6⟩ := hs
              have hj : q.toNatClampNeg < (ai_sh x).2.2 := ai_ix_lt hb
              have hr := hG.2 x q.toNatClampNeg g4 (by omega)
              rw [← ai_rf_eq] at hr
              have hsome := List.all_eq_true.mp g6 q.toNatClampNeg (List.mem_range.mpr hj)
              rw [Option.isSome_iff_exists] at hsome
              obtain ⟨z, hz⟩ := hsome
              have e0 : q.toInt = (q.toNatClampNeg : Int) := by
                have : q.toNatClampNeg = q.toInt.toNat := rfl
                omega
              obtain ⟨E1, e5, h5⟩ := ai_eq_ok hE h1 (show ai_val ρ (none, (q.toNatClampNeg : Int)) (q.toNatClampNeg : Int) from rfl) e0
              cases h
              refine ⟨_, List.mem_flatMap.mpr ⟨q.toNatClampNeg, List.mem_range.mpr hj, ai_opt_ok e5⟩, [], ?_⟩
              rw [List.append_nil]
              refine ⟨rfl, hls, ⟨?_, h4⟩, h5, hF, hG, hI, ai_fr_r W M⟩
              show ip_vr (M.2.2.2 x q.toNatClampNeg) = .ref ((ai_rf x q.toNatClampNeg).getD 0)
              rw [hr (by rw [hz]; rfl), hz]
              rfl
            · rw [if_neg hs] at h
              cases h
          | _ => cases h
      | _ => cases h
  | lastore =>
    cases st with
    | nil => cases h
    | cons s1 r1 => cases s1 using ai_Ac with
      | l z => cases r1 with
        | nil => cases h
        | cons s2 r2 => cases s2 using ai_Ac with
          | i y => cases r2 with
            | nil => cases h
            | cons s3 r => cases s3 using ai_Ac with
              | r x =>
                obtain ⟨p, vr2, e0, h0, h2⟩ := ai_cl hst
                subst e0
                obtain ⟨q, vr1, e1, h1, h3⟩ := ai_ci h2
                subst e1
                obtain ⟨vr, e2, h4⟩ := ai_cr h3
                subst e2
                unfold ai_step at h
                dsimp only at h
                by_cases hs : (ai_sh x).1 = 1 ∧ (ai_sh x).2.1 = 1 ∧ ai_in E y 0 ((ai_sh x).2.2 - 1) = true ∧ W.2.elem (x + 1000) = true
                · rw [if_pos hs] at h
                  have hb := ai_in_ok hE h1 hs.2.2.1
                  have hs' : (ip_sh M x).1 = 1 ∧ (ip_sh M x).2.1 = 1 ∧ ip_ix q (ip_sh M x).2.2 = true := by rw [hsh]; exact ⟨hs.1, hs.2.1, ai_ix_ok hb⟩
                  cases h
                  exact ⟨(nx, vls, vr, ip_uL M x q.toNatClampNeg p), by simp only [ip_step, if_pos hs'], _, List.mem_singleton.mpr rfl, [], rfl, by simpa using hls, by simpa using h4, by simpa using hE, by rw [List.append_nil]; exact hF, (ip_G_uL M x q.toNatClampNeg p).mpr hG, hI, ai_fr_uL (by rw [ai_may_e, hs.2.2.2, Bool.or_true])⟩
                · rw [if_neg hs] at h
                  cases h
              | _ => cases h
          | _ => cases h
      | _ => cases h
  | iastore =>
    cases st with
    | nil => cases h
    | cons s1 r1 => cases s1 using ai_Ac with
      | i z => cases r1 with
        | nil => cases h
        | cons s2 r2 => cases s2 using ai_Ac with
          | i y => cases r2 with
            | nil => cases h
            | cons s3 r => cases s3 using ai_Ac with
              | r x =>
                obtain ⟨p, vr2, e0, h0, h2⟩ := ai_ci hst
                subst e0
                obtain ⟨q, vr1, e1, h1, h3⟩ := ai_ci h2
                subst e1
                obtain ⟨vr, e2, h4⟩ := ai_cr h3
                subst e2
                unfold ai_step at h
                dsimp only at h
                by_cases hs : (ai_sh x).1 = 1 ∧ (ai_sh x).2.1 = 0 ∧ ai_in E y 0 ((ai_sh x).2.2 - 1) = true
                · rw [if_pos hs] at h
                  have hb := ai_in_ok hE h1 hs.2.2
                  have hs' : (ip_sh M x).1 = 1 ∧ (ip_sh M x).2.1 = 0 ∧ ip_ix q (ip_sh M x).2.2 = true := by rw [hsh]; exact ⟨hs.1, hs.2.1, ai_ix_ok hb⟩
                  refine ⟨(nx, vls, vr, ip_uI M x q.toNatClampNeg p), by simp only [ip_step, if_pos hs'], ?_⟩
                  cases hn : y.1 with
                  | none =>
                    rw [hn] at h
                    dsimp only at h
                    have eq0 : q.toNatClampNeg = y.2.toNat := by
                      have : q.toInt = y.2 := by unfold ai_val at h1; rw [hn] at h1; exact h1
                      rw [← this]
                      rfl
                    rw [eq0]
                    by_cases hw : ai_in E z (ai_TT T x y.2.toNat).1 (ai_TT T x y.2.toNat).2 = true ∧ ai_may W x y.2.toNat = true
                    · rw [if_pos hw] at h
                      cases h
                      refine ⟨_, List.mem_singleton.mpr rfl, [], rfl, by simpa using hls, by simpa using h4, by simpa using hE, ?_, (ip_G_uI M x _ p).mpr hG, ai_inv_uI hI (ai_in_ok hE h0 hw.1), ai_fr_uI hw.2⟩
                      rw [List.append_nil]
                      intro f hf
                      rcases List.mem_cons.mp hf with hf | hf
                      · rw [hf]
                        show ai_val ρ z (if x = x ∧ y.2.toNat = y.2.toNat then p else M.2.1 x y.2.toNat).toInt
                        rw [if_pos ⟨rfl, rfl⟩]
                        exact h0
                      · exact ai_drop_ok p hF f hf
                    · rw [if_neg hw] at h
                      cases h
                  | some m =>
                    rw [hn] at h
                    dsimp only at h
                    by_cases hw : ai_TJ T x (ai_iv E y).1 (ai_iv E y).2 (ai_iv E z).1 (ai_iv E z).2 = true ∧ W.2.elem x = true
                    · rw [if_pos hw] at h
                      cases h
                      have hz := ai_iv_ok hE h0
                      have hj := ai_iv_ok hE h1
                      have eqn : q.toNatClampNeg = q.toInt.toNat := rfl
                      have ht := ai_TJ_ok hw.1 q.toNatClampNeg (by omega) (by omega)
                      refine ⟨_, List.mem_singleton.mpr rfl, [], rfl, by simpa using hls, by simpa using h4, by simpa using hE, ?_, (ip_G_uI M x _ p).mpr hG, ai_inv_uI hI (by omega), ai_fr_uI (by rw [ai_may_e, hw.2, Bool.or_true])⟩
                      rw [List.append_nil]
                      refine ai_dropc_ok hF ?_
                      intro c d hc
                      show (if c = x ∧ d = q.toNatClampNeg then p else M.2.1 c d) = _
                      rw [if_neg (fun g => hc g.1)]
                    · rw [if_neg hw] at h
                      cases h
                · rw [if_neg hs] at h
                  cases h
              | _ => cases h
          | _ => cases h
      | _ => cases h
  | bastore =>
    cases st with
    | nil => cases h
    | cons s1 r1 => cases s1 using ai_Ac with
      | i z => cases r1 with
        | nil => cases h
        | cons s2 r2 => cases s2 using ai_Ac with
          | i y => cases r2 with
            | nil => cases h
            | cons s3 r => cases s3 using ai_Ac with
              | r x =>
                obtain ⟨p, vr2, e0, h0, h2⟩ := ai_ci hst
                subst e0
                obtain ⟨q, vr1, e1, h1, h3⟩ := ai_ci h2
                subst e1
                obtain ⟨vr, e2, h4⟩ := ai_cr h3
                subst e2
                unfold ai_step at h
                dsimp only at h
                by_cases hs : (ai_sh x).1 = 1 ∧ ai_in E y 0 ((ai_sh x).2.2 - 1) = true ∧ ((ai_sh x).2.1 = 2 ∧ ai_TI T x (-128) 127 = true ∨ (ai_sh x).2.1 = 3 ∧ ai_TI T x 0 1 = true) ∧ W.2.elem x = true
                · rw [if_pos hs] at h
                  obtain ⟨g1, g2, g3, g4⟩ := hs
                  have hb := ai_in_ok hE h1 g2
                  have hs' : (ip_sh M x).1 = 1 ∧ ((ip_sh M x).2.1 = 2 ∨ (ip_sh M x).2.1 = 3) ∧ ip_ix q (ip_sh M x).2.2 = true := by rw [hsh]; exact ⟨g1, g3.imp (fun g => g.1) (fun g => g.1), ai_ix_ok hb⟩
                  have hv : (ai_TT T x q.toNatClampNeg).1 ≤ (if (ip_sh M x).2.1 = 2 then p.toInt8.toInt32 else p &&& 1).toInt ∧ (if (ip_sh M x).2.1 = 2 then p.toInt8.toInt32 else p &&& 1).toInt ≤ (ai_TT T x q.toNatClampNeg).2 := by
                    rw [hsh]
                    rcases g3 with g | g
                    · rw [if_pos g.1]
                      have ht := ai_TI_ok g.2 q.toNatClampNeg
                      have e8 : p.toInt8.toInt32.toInt = p.toInt.bmod 256 := by rw [Int8.toInt_toInt32, Int32.toInt_toInt8]
                      have b1 := Int.le_bmod (x := p.toInt) (m := 256) (by decide)
                      have b2 := Int.bmod_lt (x := p.toInt) (m := 256) (by decide)
                      rw [e8]
                      omega
                    · rw [if_neg (by omega)]
                      have ht := ai_TI_ok g.2 q.toNatClampNeg
                      have hn := ai_32_and p 1 (by decide)
                      have e1 : (1 : Int32).toInt = 1 := rfl
                      omega
                  cases h
                  refine ⟨(nx, vls, vr, ip_uI M x q.toNatClampNeg (if (ip_sh M x).2.1 = 2 then p.toInt8.toInt32 else p &&& 1)), by simp only [ip_step, if_pos hs'], _, List.mem_singleton.mpr rfl, [], rfl, by simpa using hls, by simpa using h4, by simpa using hE, ?_, (ip_G_uI M x _ _).mpr hG, ai_inv_uI hI hv, ai_fr_uI (by rw [ai_may_e, g4, Bool.or_true])⟩
                  rw [List.append_nil]
                  refine ai_dropc_ok hF ?_
                  intro c d hc
                  show (if c = x ∧ d = q.toNatClampNeg then _ else M.2.1 c d) = _
                  rw [if_neg (fun g => hc g.1)]
                · rw [if_neg hs] at h
                  cases h
              | _ => cases h
          | _ => cases h
      | _ => cases h
  | invokestatic n0 =>
    cases st with
    | nil => cases h
    | cons s1 r1 => cases s1 using ai_Ac with
      | i n => cases r1 with
        | nil => cases h
        | cons s2 r2 => cases s2 using ai_Ac with
          | i dp => cases r2 with
            | nil => cases h
            | cons s3 r3 => cases s3 using ai_Ac with
              | r k1 => cases r3 with
                | nil => cases h
                | cons s4 r4 => cases s4 using ai_Ac with
                  | i sp => cases r4 with
                    | nil => cases h
                    | cons s5 r => cases s5 using ai_Ac with
                      | r k0 =>
                        obtain ⟨qn, v1, e1, h1, h2⟩ := ai_ci hst
                        subst e1
                        obtain ⟨qd, v2, e2, h3, h4⟩ := ai_ci h2
                        subst e2
                        obtain ⟨v3, e3, h5⟩ := ai_cr h4
                        subst e3
                        obtain ⟨qs, v4, e4, h6, h7⟩ := ai_ci h5
                        subst e4
                        obtain ⟨vr, e5, h8⟩ := ai_cr h7
                        subst e5
                        unfold ai_step at h
                        dsimp only at h
                        split at h
                        · rename_i hs
                          obtain ⟨g1, g2, g3, g4, g5, g6, g7, g8, g9, g10, g11, g12, g13, g14, g15⟩ := hs
                          have en : qn.toInt = n.2 := by unfold ai_val at h1; rw [g7] at h1; exact h1
                          have ed : qd.toInt = dp.2 := by unfold ai_val at h3; rw [g8] at h3; exact h3
                          have es : qs.toInt = sp.2 := by unfold ai_val at h6; rw [g9] at h6; exact h6
                          have cn : qn.toNatClampNeg = n.2.toNat := by rw [← en]; rfl
                          have cd : qd.toNatClampNeg = dp.2.toNat := by rw [← ed]; rfl
                          have cs : qs.toNatClampNeg = sp.2.toNat := by rw [← es]; rfl
                          have nn : ¬ qn < 0 := by rw [Int32.lt_iff_toInt_lt, Int32.toInt_zero]; omega
                          have nd : ¬ qd < 0 := by rw [Int32.lt_iff_toInt_lt, Int32.toInt_zero]; omega
                          have ns : ¬ qs < 0 := by rw [Int32.lt_iff_toInt_lt, Int32.toInt_zero]; omega
                          have hlen : vr.length ≤ 4 := by have := ai_two2_len h8; omega
                          have hcond : t = 7 ∧ vr.length ≤ 4 ∧ (ip_sh M k0).1 = 1 ∧ (ip_sh M k1).1 = 1 ∧ (ip_sh M k0).2.1 = (ip_sh M k1).2.1 ∧ (ip_sh M k0).2.1 < 3 ∧ ¬ qs < 0 ∧ ¬ qd < 0 ∧ ¬ qn < 0 ∧ qs.toNatClampNeg + qn.toNatClampNeg ≤ (ip_sh M k0).2.2 ∧ qd.toNatClampNeg + qn.toNatClampNeg ≤ (ip_sh M k1).2.2 := by
                            rw [hsh, hsh, cn, cd, cs]
                            exact ⟨g1, hlen, g3, g4, g5, g6, ns, nd, nn, g13, g14⟩
                          cases h
                          rcases g15 with ⟨g, gw⟩ | ⟨gn, ga, gb, gc⟩
                          · refine ⟨(nx, vls, vr, ip_cpL M k0 k1 qs.toNatClampNeg qd.toNatClampNeg qn.toNatClampNeg), by simp only [ip_step, if_pos hcond, if_pos (show (ip_sh M k0).2.1 = 1 by rw [hsh]; exact g)], _, List.mem_singleton.mpr rfl, [], rfl, by simpa using hls, by simpa using h8, by simpa using hE, ?_, (ip_G_cpL M _ _ _ _ _).mpr hG, hI, ai_fr_cpL gw⟩
                            rw [List.append_nil]
                            exact ai_dropc_ok hF (fun _ _ _ => rfl)
                          · skip
                            have hval : ∀ j, (ai_TA T k0).1 ≤ (M.2.1 k0 j).toInt ∧ (M.2.1 k0 j).toInt ≤ (ai_TA T k0).2 := by
                              intro j
                              have a1 := ai_TK_ok hTK k0 j
                              have a2 := hI k0 j
                              omega
                            have hfit : (ip_sh M k0).2.1 = 0 ∨ ∀ i ∈ List.range qn.toNatClampNeg, fits .byte (.int (M.2.1 k0 (qs.toNatClampNeg + i))) = true := by
                              rcases ga with g | g
                              · exact Or.inl (by rw [hsh]; exact g)
                              · refine Or.inr fun i _ => ?_
                                have := hval (qs.toNatClampNeg + i)
                                exact ai_byte (by omega) (by omega)
                            have g : ¬ (ip_sh M k0).2.1 = 1 := by rw [hsh]; exact gn
                            · refine ⟨(nx, vls, vr, ip_cpI M k0 k1 qs.toNatClampNeg qd.toNatClampNeg qn.toNatClampNeg), by simp only [ip_step, if_pos hcond, if_neg g, if_pos hfit], _, List.mem_singleton.mpr rfl, [], rfl, by simpa using hls, by simpa using h8, by simpa using hE, ?_, (ip_G_cpI M _ _ _ _ _).mpr hG, ?_, ?_⟩
                              · rw [List.append_nil]
                                refine ai_dropc_ok hF ?_
                                intro c d hc
                                rw [ip_cpI_I, if_neg hc]
                              · intro c d
                                show (ai_TT T c d).1 ≤ ((ip_cpI M k0 k1 qs.toNatClampNeg qd.toNatClampNeg qn.toNatClampNeg).2.1 c d).toInt ∧ ((ip_cpI M k0 k1 qs.toNatClampNeg qd.toNatClampNeg qn.toNatClampNeg).2.1 c d).toInt ≤ (ai_TT T c d).2
                                rw [ip_cpI_I]
                                split
                                · rename_i hc
                                  rw [hc]
                                  rcases ai_cpy (M.2.1 k0) (M.2.1 k1) qs.toNatClampNeg qd.toNatClampNeg qn.toNatClampNeg d with g9 | ⟨j, g9⟩
                                  · rw [g9]; exact hI k1 d
                                  · rw [g9]
                                    have := hval j
                                    have := ai_TI_ok gb d
                                    omega
                                · exact hI c d
                              · refine ⟨?_, fun _ _ _ => rfl⟩
                                intro c d hcd
                                show (ip_cpI M k0 k1 qs.toNatClampNeg qd.toNatClampNeg qn.toNatClampNeg).2.1 c d = _
                                rw [ip_cpI_I, if_neg]
                                intro hc
                                rw [ai_may_e] at hcd
                                rw [hc, gc, Bool.or_true] at hcd
                                cases hcd
                        · cases h
                      | _ => cases h
                  | _ => cases h
              | _ => cases h
          | _ => cases h
      | _ => cases h
  | _ => cases h
end
noncomputable section
-- PART 46.run
-- A RUN from a cut point to cut points, calls in line or by what they are known to do
abbrev ai_P : Type := ((Int × Int) ⊕ (Int × Int)) ⊕ Option Nat
abbrev ai_P.i (lo hi : Int) : ai_P := .inl (.inl (lo, hi))
abbrev ai_P.l (lo hi : Int) : ai_P := .inl (.inr (lo, hi))
abbrev ai_P.r (k : Nat) : ai_P := .inr (some k)
abbrev ai_P.u : ai_P := .inr none
theorem ai_Pc {motive : ai_P → Prop} (i : ∀ lo hi, motive (.i lo hi)) (l : ∀ lo hi, motive (.l lo hi)) (r : ∀ k, motive (.r k)) (u : motive .u) : ∀ a, motive a
  | .inl (.inl (x, y)) => i x y
  | .inl (.inr (x, y)) => l x y
  | .inr (some k) => r k
  | .inr none => u
def ai_sat : ai_P → Value → Prop
  | .inl (.inl (lo, hi)), v => ∃ q : Int32, v = .int q ∧ lo ≤ q.toInt ∧ q.toInt ≤ hi
  | .inl (.inr (lo, hi)), v => ∃ q : Int64, v = .long q ∧ lo ≤ q.toInt ∧ q.toInt ≤ hi
  | .inr (some k), v => v = .ref k
  | .inr none, _ => True
def ai_mk : List ai_P → ai_V → List ai_A × ai_V
  | [], E => ([], E)
  | .inl (.inl (lo, hi)) :: t, E => (.i (some E.length, 0) :: (ai_mk t (E ++ [(lo, hi)])).1, (ai_mk t (E ++ [(lo, hi)])).2)
  | .inl (.inr (lo, hi)) :: t, E => (.l (some E.length, 0) :: (ai_mk t (E ++ [(lo, hi)])).1, (ai_mk t (E ++ [(lo, hi)])).2)
  | .inr (some k) :: t, E => (.r k :: (ai_mk t E).1, (ai_mk t E).2)
  | .inr none :: t, E => (.u :: (ai_mk t E).1, (ai_mk t E).2)
def ai_mkF : List (Nat × Nat × Int × Int) → ai_V → ai_F × ai_V
  | [], E => ([], E)
  | (k, j, lo, hi) :: t, E => ((k, j, (some E.length, 0)) :: (ai_mkF t (E ++ [(lo, hi)])).1, (ai_mkF t (E ++ [(lo, hi)])).2)
def ai_satF (fs : List (Nat × Nat × Int × Int)) (M : ip_H) : Prop := ∀ f ∈ fs, f.2.2.1 ≤ (M.2.1 f.1 f.2.1).toInt ∧ (M.2.1 f.1 f.2.1).toInt ≤ f.2.2.2
/-- a rank: a constant, a bound less a number, a number less a bound -/
abbrev ai_R : Type := Int ⊕ ((Nat × Int) ⊕ (Nat × Int))
abbrev ai_R.n (c : Int) : ai_R := .inl c
abbrev ai_R.v (i : Nat) (hi : Int) : ai_R := .inr (.inl (i, hi))
abbrev ai_R.w (i : Nat) (lo : Int) : ai_R := .inr (.inr (i, lo))
theorem ai_Rc {motive : ai_R → Prop} (n : ∀ c, motive (.n c)) (v : ∀ i hi, motive (.v i hi)) (w : ∀ i lo, motive (.w i lo)) : ∀ a, motive a
  | .inl c => n c
  | .inr (.inl (i, x)) => v i x
  | .inr (.inr (i, x)) => w i x
abbrev ai_R3 : Type := ai_R × ai_R × ai_R
abbrev ai_K : Type := Nat × List ai_P × List (Nat × Nat × Int × Int) × ai_R3
/-- a method at work: its number, what it gets, its cut points, what it gives, what it may write -/
abbrev ai_C : Type := Nat × List ai_P × List ai_K × Option (List ai_P) × ai_W
def ai_ti : Value → Int
  | .int q => q.toInt
  | _ => 0
def ai_rv (vls : List Value) : ai_R → Int
  | .inl c => c
  | .inr (.inl (i, hi)) => hi - ai_ti (ip_get vls i)
  | .inr (.inr (i, lo)) => ai_ti (ip_get vls i) - lo
/-- a rank along a run: c + s times an unknown -/
abbrev ai_Q : Type := Int × Option (Bool × Nat)
def ai_rq (ls : List ai_A) : ai_R → Option ai_Q
  | .inl c => some (c, none)
  | .inr (.inl (i, hi)) => match ai_get ls i with
    | .inl (.inl (none, d)) => some (hi - d, none)
    | .inl (.inl (some m, d)) => some (hi - d, some (false, m))
    | _ => none
  | .inr (.inr (i, lo)) => match ai_get ls i with
    | .inl (.inl (none, d)) => some (d - lo, none)
    | .inl (.inl (some m, d)) => some (d - lo, some (true, m))
    | _ => none
def ai_qi (E : ai_V) (q : ai_Q) : Int × Int := match q.2 with
  | none => (q.1, q.1)
  | some (true, m) => (q.1 + (E.getD m (0, 0)).1, q.1 + (E.getD m (0, 0)).2)
  | some (false, m) => (q.1 - (E.getD m (0, 0)).2, q.1 - (E.getD m (0, 0)).1)
def ai_qlt (E : ai_V) (p q : ai_Q) : Bool := (decide (p.2 = q.2) && decide (p.1 < q.1)) || decide ((ai_qi E p).2 < (ai_qi E q).1)
def ai_qeq (p q : ai_Q) : Bool := decide (p.2 = q.2) && decide (p.1 = q.1)
def ai_qin (E : ai_V) (p : ai_Q) : Bool := decide (0 ≤ (ai_qi E p).1) && decide ((ai_qi E p).2 < 8589934592)
abbrev ai_Q3 : Type := ai_Q × ai_Q × ai_Q
def ai_rq3 (ls : List ai_A) (r : ai_R3) : Option ai_Q3 := match ai_rq ls r.1, ai_rq ls r.2.1, ai_rq ls r.2.2 with
  | some a, some b, some c => some (a, b, c)
  | _, _, _ => none
def ai_q3lt (E : ai_V) (p q : ai_Q3) : Bool := ai_qlt E p.1 q.1 || (ai_qeq p.1 q.1 && (ai_qlt E p.2.1 q.2.1 || (ai_qeq p.2.1 q.2.1 && ai_qlt E p.2.2 q.2.2)))
def ai_q3in (E : ai_V) (p : ai_Q3) : Bool := ai_qin E p.1 && (ai_qin E p.2.1 && ai_qin E p.2.2)
def ai_leP (E : ai_V) : ai_A → ai_P → Bool
  | _, .inr none => true
  | .inl (.inl x), .inl (.inl (lo, hi)) => ai_in E x lo hi
  | .inl (.inr x), .inl (.inr (lo, hi)) => ai_in E x lo hi
  | .inr (.inr (some k)), .inr (some k1) => k == k1
  | _, _ => false
def ai_leL (E : ai_V) : List ai_A → List ai_P → Bool
  | [], [] => true
  | a :: t, p :: q => ai_leP E a p && ai_leL E t q
  | _, _ => false
def ai_leF (T : ai_T) (E : ai_V) (F : ai_F) (fs : List (Nat × Nat × Int × Int)) : Bool := fs.all fun f => (match ai_look F f.1 f.2.1 with
  | some x => ai_in E x f.2.2.1 f.2.2.2
  | none => decide (f.2.2.1 ≤ (ai_TT T f.1 f.2.1).1) && decide ((ai_TT T f.1 f.2.1).2 ≤ f.2.2.2))
def ai_leW (W V : ai_W) : Bool := (W.1.all fun p => ai_may V p.1 p.2) && W.2.all fun k => ai_e1 k V.2
def ai_cw : List ai_A → Nat
  | [] => 0
  | .inl (.inr _) :: t => 2 + ai_cw t
  | .inr (.inr none) :: t => 2 + ai_cw t
  | _ :: t => 1 + ai_cw t
def ai_ent1 (y : Nat) (as : List ai_A) : Option (List ai_A) := ai_ent (ip_ml y) as
/-- what a method gives back, abstractly: an unknown more -/
def ai_give (E : ai_V) : ai_P → Option (List ai_A × ai_V)
  | .inl (.inl (lo, hi)) => some ([.i (ai_nw E lo hi).1], (ai_nw E lo hi).2)
  | .inl (.inr (lo, hi)) => some ([.l (ai_nw E lo hi).1], (ai_nw E lo hi).2)
  | .inr (some k) => some ([.r k], E)
  | .inr none => none
/-- nothing, or a value of one of these kinds -/
def ai_ret (p : Option (List ai_P)) (r : Option Value) : Prop := match p, r with
  | none, none => True
  | some ps, some v => ∃ p ∈ ps, ai_sat p v
  | _, _ => False
/-- the value of a return -/
def ai_rvl (e : ip_E) (st : List ai_A) (E : ai_V) : Option (Option ai_A) := match e.1, st with
  | .ireturn, [.inl (.inl x)] => if e.2.2.2.2.1 = 0 ∨ ai_in E x 0 1 = true then some (some (.i x)) else none
  | .lreturn, [.inl (.inr x)] => some (some (.l x))
  | .areturn, [.inr (.inr (some k))] => some (some (.r k))
  | .return_, [] => some none
  | _, _ => none
def ai_rci (e : ip_E) (as : List ai_A) : Bool := match e.2.2.2.2.1, as with
  | 0, _ => true
  | 3, _ => true
  | _, .inr (.inr (some k)) :: _ => decide ((ai_sh k).1 = 0 ∧ (ai_sh k).2.1 = ip_oc e.2.2.1)
  | _, _ => false
abbrev ai_Fr : Type := Nat × Nat × List ai_A × List ai_A
def ai_find (E : ai_V) (D : List ai_C) (y : Nat) (as : List ai_A) : Option ai_C := D.find? fun d => Nat.beq d.1 y && ai_leL E as d.2.1
def ai_run (T : ai_T) (D : List ai_C) (c : ai_C) (q0 : Option ai_Q3) : Nat → Bool → List ai_Fr → Nat → Nat → List ai_A → List ai_A → ai_V → ai_F → Bool
  | 0, _, _, _, _, _, _, _, _ => false
  | n + 1, first, fr, y, pc, ls, st, E, F =>
    match (if first then none else c.2.2.1.find? fun k => fr.isEmpty && (Nat.beq y c.1 && Nat.beq k.1 pc)) with
    | some k => st.isEmpty && (ai_leL E ls k.2.1 && (ai_leF T E F k.2.2.1 && (match ai_rq3 ls k.2.2.2 with
      | none => false
      | some q => ai_q3in E q && (match q0 with
        | none => true
        | some p => ai_q3lt E q p))))
    | none => match ai_at y pc with
      | none => false
      | some e =>
        if ip_ic e = true then
          decide (e.2.2.2.1 ≤ st.length) && (decide (ai_cw (st.drop e.2.2.2.1) ≤ 8) && (ai_rci e (st.take e.2.2.2.1).reverse && (match ai_ent1 e.2.2.1 (st.take e.2.2.2.1).reverse with
            | none => false
            | some l1 => match ai_find E D e.2.2.1 (st.take e.2.2.2.1).reverse with
              | some d => ai_leW d.2.2.2.2 c.2.2.2.2 && (match d.2.2.2.1 with
                | none => ai_run T D c q0 n false fr y e.2.1 ls (st.drop e.2.2.2.1) E (F.filter fun f => !ai_may d.2.2.2.2 f.1 f.2.1)
                | some ps => ps.all fun p => (match ai_give E p with
                  | none => false
                  | some g => ai_run T D c q0 n false fr y e.2.1 ls (g.1 ++ st.drop e.2.2.2.1) g.2 (F.filter fun f => !ai_may d.2.2.2.2 f.1 f.2.1)))
              | none => ai_run T D c q0 n false ((y, e.2.1, ls, st.drop e.2.2.2.1) :: fr) e.2.2.1 0 l1 [] E F)))
        else match ai_rvl e st E with
          | some a => (match fr with
            | [] => (match a, c.2.2.2.1 with
              | none, none => true
              | some a, some ps => ps.any fun p => ai_leP E a p
              | _, _ => false)
            | f :: fs => ai_run T D c q0 n false fs f.1 f.2.1 f.2.2.1 (a.toList ++ f.2.2.2) E F)
          | none => match ai_step T c.2.2.2.2 e ls st E F with
            | none => false
            | some L => L.all fun s => ai_run T D c q0 n false fr y s.1 s.2.1 s.2.2.1 s.2.2.2.1 s.2.2.2.2
def ai_from (T : ai_T) (D : List ai_C) (c : ai_C) (n : Nat) (k : ai_K) : Bool :=
  match ai_rq3 (ai_mk k.2.1 []).1 k.2.2.2 with
  | none => false
  | some q => ai_run T D c (some q) n true [] c.1 k.1 (ai_mk k.2.1 []).1 [] (ai_mkF k.2.2.1 (ai_mk k.2.1 []).2).2 (ai_mkF k.2.2.1 (ai_mk k.2.1 []).2).1
def ai_chk (T : ai_T) (D : List ai_C) (c : ai_C) (n : Nat) : Bool :=
  (match ai_ent1 c.1 (ai_mk c.2.1 []).1 with
    | none => false
    | some l => ai_run T D c none n true [] c.1 0 l [] (ai_mk c.2.1 []).2 []) && c.2.2.1.all fun k => ai_from T D c n k
/-- what a context says -/
def ai_valid (T : ai_T) (c : ai_C) : Prop := ∀ (X : ip_X) (M : ip_H) (vs : List Value) (K : Option Value → ip_H → Prop), ai_two2 ai_sat c.2.1 vs → ip_G M → ai_inv T M → (∀ r M1, ai_ret c.2.2.2.1 r → ip_G M1 → ai_inv T M1 → ai_fr c.2.2.2.2 M M1 → K r M1) → ip_wp X c.1 0 (ip_ent (ip_ml c.1) vs) [] M K
end
noncomputable section
-- PART 47.runok
-- A RUN IS SOUND
theorem ai_mk_ok : ∀ (ps : List ai_P) (E : ai_V) (ρ : List Int) (vs : List Value), ai_okV ρ E → ai_two2 ai_sat ps vs → ∃ t, ai_okV (ρ ++ t) (ai_mk ps E).2 ∧ ai_okL (ρ ++ t) (ai_mk ps E).1 vs := by
  intro ps
  induction ps with
  | nil =>
    intro E ρ vs hE h
    cases vs with
    | nil => exact ⟨[], by simpa [ai_mk] using hE, trivial⟩
    | cons v vs => exact h.elim
  | cons p ps ih =>
    intro E ρ vs hE h
    cases vs with
    | nil => exact h.elim
    | cons v vs =>
      obtain ⟨h1, h2⟩ := h
      have hnew : ∀ z : Int, ∀ lo hi, lo ≤ z → z ≤ hi → ai_okV (ρ ++ [z]) (E ++ [(lo, hi)]) ∧ ai_val (ρ ++ [z]) (some E.length, 0) z := by
        intro z lo hi a1 a2
        refine ⟨ai_two2_app hE ⟨⟨a1, a2⟩, trivial⟩, z, ?_, by simp⟩
        rw [← ai_okV_len hE]
        simp
      cases p using ai_Pc with
      | i lo hi =>
        obtain ⟨q, e, a1, a2⟩ := h1
        obtain ⟨k1, k2⟩ := hnew q.toInt lo hi a1 a2
        obtain ⟨t, k3, k4⟩ := ih _ _ vs k1 h2
        refine ⟨[q.toInt] ++ t, by rw [← List.append_assoc]; exact k3, ?_⟩
        rw [← List.append_assoc]
        exact ⟨⟨q, e, ai_val_app t k2⟩, k4⟩
      | l lo hi =>
        obtain ⟨q, e, a1, a2⟩ := h1
        obtain ⟨k1, k2⟩ := hnew q.toInt lo hi a1 a2
        obtain ⟨t, k3, k4⟩ := ih _ _ vs k1 h2
        refine ⟨[q.toInt] ++ t, by rw [← List.append_assoc]; exact k3, ?_⟩
        rw [← List.append_assoc]
        exact ⟨⟨q, e, ai_val_app t k2⟩, k4⟩
      | r k =>
        obtain ⟨t, k3, k4⟩ := ih _ _ vs hE h2
        exact ⟨t, k3, h1, k4⟩
      | u =>
        obtain ⟨t, k3, k4⟩ := ih _ _ vs hE h2
        exact ⟨t, k3, trivial, k4⟩
theorem ai_mkF_ok : ∀ (fs : List (Nat × Nat × Int × Int)) (E : ai_V) (ρ : List Int) (M : ip_H), ai_okV ρ E → ai_satF fs M → ∃ t, ai_okV (ρ ++ t) (ai_mkF fs E).2 ∧ ai_okF (ρ ++ t) (ai_mkF fs E).1 M := by
  intro fs
  induction fs with
  | nil =>
    intro E ρ M hE h
    exact ⟨[], by simpa [ai_mkF] using hE, fun f hf => by simp [ai_mkF] at hf⟩
  | cons f fs ih =>
    intro E ρ M hE h
    obtain ⟨k, j, lo, hi⟩ := f
    obtain ⟨a1, a2⟩ := h _ List.mem_cons_self
    have k1 : ai_okV (ρ ++ [(M.2.1 k j).toInt]) (E ++ [(lo, hi)]) := ai_two2_app hE ⟨⟨a1, a2⟩, trivial⟩
    have k2 : ai_val (ρ ++ [(M.2.1 k j).toInt]) (some E.length, 0) (M.2.1 k j).toInt := by
      refine ⟨(M.2.1 k j).toInt, ?_, by simp⟩
      rw [← ai_okV_len hE]
      simp
    obtain ⟨t, k3, k4⟩ := ih _ _ M k1 (fun f hf => h f (List.mem_cons_of_mem _ hf))
    refine ⟨[(M.2.1 k j).toInt] ++ t, by rw [← List.append_assoc]; exact k3, ?_⟩
    rw [← List.append_assoc]
    intro f hf
    rw [ai_mkF] at hf
    rcases List.mem_cons.mp hf with hf | hf
    · rw [hf]; exact ai_val_app t k2
    · exact k4 f hf
section Le
variable {ρ : List Int} {E : ai_V}
theorem ai_leP_ok (hE : ai_okV ρ E) {a : ai_A} {p : ai_P} {v : Value} (ha : ai_okA ρ a v) (h : ai_leP E a p = true) : ai_sat p v := by
  cases p using ai_Pc with
  | u => trivial
  | i lo hi => cases a using ai_Ac with
    | i x =>
      obtain ⟨q, e, h1⟩ := ha
      exact ⟨q, e, ai_in_ok hE h1 h⟩
    | _ => cases h
  | l lo hi => cases a using ai_Ac with
    | l x =>
      obtain ⟨q, e, h1⟩ := ha
      exact ⟨q, e, ai_in_ok hE h1 h⟩
    | _ => cases h
  | r k => cases a using ai_Ac with
    | r k1 =>
      have e1 : v = .ref k1 := ha
      have e2 : k1 = k := by simpa [ai_leP] using h
      show v = .ref k
      rw [e1, e2]
    | _ => cases h
theorem ai_leL_ok (hE : ai_okV ρ E) : ∀ {as : List ai_A} {ps : List ai_P} {vs : List Value}, ai_okL ρ as vs → ai_leL E as ps = true → ai_two2 ai_sat ps vs
  | [], [], [], _, _ => trivial
  | a :: as, p :: ps, v :: vs, h, q => by
    rw [ai_leL, Bool.and_eq_true] at q
    exact ⟨ai_leP_ok hE h.1 q.1, ai_leL_ok hE h.2 q.2⟩
  | [], [], _ :: _, h, _ => h.elim
  | _ :: _, _, [], h, _ => h.elim
  | [], _ :: _, _, _, q => by cases q
  | _ :: _, [], _, _, q => by cases q
theorem ai_leF_ok {T : ai_T} {F : ai_F} {M : ip_H} {fs : List (Nat × Nat × Int × Int)} (hE : ai_okV ρ E) (hF : ai_okF ρ F M) (hI : ai_inv T M) (h : ai_leF T E F fs = true) : ai_satF fs M := by
  intro f hf
  have h1 := List.all_eq_true.mp h f hf
  split at h1
  · rename_i x hx
    exact ai_in_ok hE (ai_look_ok hF hx) h1
  · simp only [Bool.and_eq_true, decide_eq_true_eq] at h1
    have := hI f.1 f.2.1
    omega
theorem ai_give_ok (hE : ai_okV ρ E) {p : ai_P} {v : Value} {g : List ai_A × ai_V} (hr : ai_sat p v) (h : ai_give E p = some g) : ∃ t, ai_okV (ρ ++ t) g.2 ∧ ai_okL (ρ ++ t) g.1 [v] := by
  cases p using ai_Pc with
  | i lo hi =>
    obtain ⟨q, e, a⟩ := hr
    obtain ⟨t, k1, k2⟩ := ai_nw_ok hE a
    cases h
    exact ⟨t, k1, ⟨q, e, k2⟩, trivial⟩
  | l lo hi =>
    obtain ⟨q, e, a⟩ := hr
    obtain ⟨t, k1, k2⟩ := ai_nw_ok hE a
    cases h
    exact ⟨t, k1, ⟨q, e, k2⟩, trivial⟩
  | r k => cases h; exact ⟨[], by simpa using hE, hr, trivial⟩
  | u => cases h
end Le
theorem ai_pad_ok {ρ : List Int} : ∀ {as : List ai_A} {vs : List Value} {l : List ai_A}, ai_okL ρ as vs → ai_pad as = some l → ai_okL ρ l (ip_pad vs)
  | [], [], l, _, h => by cases h; trivial
  | a :: as, v :: vs, l, h, q => by
    obtain ⟨h1, h2⟩ := h
    cases a using ai_Ac with
    | u => cases q
    | l x =>
      rw [ai_pad, Option.map_eq_some_iff] at q
      obtain ⟨l1, q1, q2⟩ := q
      obtain ⟨z, e, h3⟩ := h1
      have := ai_pad_ok h2 q1
      rw [← q2, e]
      have e2 : ip_pad (.long z :: vs) = [.long z, .retAddr 1] ++ ip_pad vs := by unfold ip_pad; rw [List.flatMap_cons, if_pos (ip_cat_l z)]
      rw [e2]
      exact ⟨⟨z, rfl, h3⟩, trivial, this⟩
    | i x =>
      rw [ai_pad, Option.map_eq_some_iff] at q
      · obtain ⟨l1, q1, q2⟩ := q
        obtain ⟨z, e, h3⟩ := h1
        have := ai_pad_ok h2 q1
        rw [← q2, e]
        have e2 : ip_pad (.int z :: vs) = [.int z] ++ ip_pad vs := by unfold ip_pad; rw [List.flatMap_cons, if_neg (by rw [ip_cat_i]; decide)]
        rw [e2]
        exact ⟨⟨z, rfl, h3⟩, this⟩
      · intro h; cases h
      · intro x h; cases h
    | c x y =>
      rw [ai_pad, Option.map_eq_some_iff] at q
      · obtain ⟨l1, q1, q2⟩ := q
        obtain ⟨z, z2, e, h3⟩ := h1
        have := ai_pad_ok h2 q1
        rw [← q2, e]
        have e2 : ip_pad (.int (lg_cmp z z2) :: vs) = [.int (lg_cmp z z2)] ++ ip_pad vs := by unfold ip_pad; rw [List.flatMap_cons, if_neg (by rw [ip_cat_i]; decide)]
        rw [e2]
        exact ⟨⟨z, z2, rfl, h3⟩, this⟩
      · intro h; cases h
      · intro x h; cases h
    | r k =>
      rw [ai_pad, Option.map_eq_some_iff] at q
      · obtain ⟨l1, q1, q2⟩ := q
        have e : v = .ref k := h1
        have := ai_pad_ok h2 q1
        rw [← q2, e]
        have e2 : ip_pad (.ref k :: vs) = [.ref k] ++ ip_pad vs := by unfold ip_pad; rw [List.flatMap_cons, if_neg (by rw [ip_cat_r]; decide)]
        rw [e2]
        exact ⟨rfl, this⟩
      · intro h; cases h
      · intro x h; cases h
  | [], _ :: _, _, h, _ => h.elim
  | _ :: _, [], _, h, _ => h.elim
theorem ai_ent_ok {ρ : List Int} {n : Nat} {as l : List ai_A} {vs : List Value} (h : ai_okL ρ as vs) (q : ai_ent n as = some l) : ai_okL ρ l (ip_ent n vs) ∧ (ip_pad vs).length ≤ n := by
  unfold ai_ent at q
  split at q
  · cases q
  · rename_i p hp
    have h1 := ai_pad_ok h hp
    have h2 := ai_two2_len h1
    split at q
    · cases q
      unfold ip_ent
      rw [← h2]
      exact ⟨ai_two2_app h1 (ai_two2_rep trivial _), by omega⟩
    · cases q
theorem ai_rci_ok {ρ : List Int} {e : ip_E} {as l : List ai_A} {vs : List Value} {M : ip_H} (hG : ip_G M) (h : ai_okL ρ as vs) (hl : (ip_pad vs).length ≤ ip_ml e.2.2.1) (q : ai_rci e as = true) : ip_rc e vs M = true := by
  unfold ip_rc
  rw [Bool.and_eq_true, decide_eq_true_eq]
  refine ⟨hl, ?_⟩
  unfold ai_rci at q
  split at q
  · rename_i h0
    rw [h0]
    rfl
  · rename_i h0
    rw [h0]
    rfl
  · rename_i k t h0 h3
    obtain ⟨vr, e1, -⟩ := ai_cr h
    subst e1
    split
    · rfl
    · rfl
    · rename_i _ _ k2 t2 he _ _
      cases he
      rw [ai_sh_ok hG]
      exact q
    · rename_i hx
      exact (hx _ _ rfl).elim
  · cases q
theorem ai_rvl_ok {ρ : List Int} {E : ai_V} {e : ip_E} {st : List ai_A} {vst : List Value} {a : Option ai_A} (hE : ai_okV ρ E) (h : ai_okL ρ st vst) (q : ai_rvl e st E = some a) : ∃ r, ip_rv e vst = some r ∧ ai_okL ρ a.toList r.toList := by
  obtain ⟨ins, nx, a1, b, t, w, v, ts⟩ := e
  cases ins with
  | ireturn =>
    cases st with
    | nil => cases q
    | cons s st => cases s using ai_Ac <;> (try (cases st <;> cases q; done)) ; cases st with
      | cons s2 st => cases q
      | nil =>
        rename_i x
        obtain ⟨z, vr, e1, h1, h2⟩ := ai_ci h
        cases vr with
        | cons v vr => exact h2.elim
        | nil =>
          subst e1
          unfold ai_rvl at q
          dsimp only at q
          by_cases hc : t = 0 ∨ ai_in E x 0 1 = true
          · rw [if_pos hc] at q
            cases q
            refine ⟨some (.int z), ?_, ⟨z, rfl, h1⟩, trivial⟩
            unfold ip_rv
            dsimp only
            rw [if_pos]
            rcases hc with hc | hc
            · exact Or.inl hc
            · refine Or.inr ?_
              have := ai_in_ok hE h1 hc
              rw [← Int32.toInt_inj, ← Int32.toInt_inj]
              have e0 : (0 : Int32).toInt = 0 := rfl
              have e1 : (1 : Int32).toInt = 1 := rfl
              omega
          · rw [if_neg hc] at q
            cases q
  | lreturn =>
    cases st with
    | nil => cases q
    | cons s st => cases s using ai_Ac <;> (try (cases st <;> cases q; done)) ; cases st with
      | cons s2 st => cases q
      | nil =>
        obtain ⟨z, vr, e1, h1, h2⟩ := ai_cl h
        cases vr with
        | cons v vr => exact h2.elim
        | nil =>
          subst e1
          cases q
          exact ⟨some (.long z), rfl, ⟨z, rfl, h1⟩, trivial⟩
  | areturn =>
    cases st with
    | nil => cases q
    | cons s st => cases s using ai_Ac <;> (try (cases st <;> cases q; done)) ; cases st with
      | cons s2 st => cases q
      | nil =>
        obtain ⟨vr, e1, h2⟩ := ai_cr h
        cases vr with
        | cons v vr => exact h2.elim
        | nil =>
          subst e1
          cases q
          exact ⟨some (.ref _), rfl, rfl, trivial⟩
  | return_ =>
    cases st with
    | nil =>
      cases vst with
      | nil => cases q; exact ⟨none, rfl, trivial⟩
      | cons v vr => exact h.elim
    | cons s st => cases q

  | _ => cases q
theorem ai_step_rv {T : ai_T} {W : ai_W} {e : ip_E} {ls st : List ai_A} {E : ai_V} {F : ai_F} {L : List ai_S} (h : ai_step T W e ls st E F = some L) (vst : List Value) : ip_rv e vst = none := by
  obtain ⟨ins, nx, a1, b, t, w, v, ts⟩ := e
  cases ins <;> first | rfl | (cases h; done)
theorem ai_cw_ok {ρ : List Int} : ∀ {as : List ai_A} {vs : List Value}, ai_okL ρ as vs → ip_cw vs ≤ ai_cw as
  | [], [], _ => Nat.le_refl _
  | a :: as, v :: vs, h => by
    have ih := ai_cw_ok h.2
    have h1 := h.1
    have e : ip_cw (v :: vs) = v.category + ip_cw vs := by unfold ip_cw; simp only [List.map_cons, List.sum_cons]
    have h2 : v.category ≤ 2 := by rcases lv_cat v with g | g <;> omega
    rw [e]
    cases a using ai_Ac with
    | l x => unfold ai_cw; omega
    | u => unfold ai_cw; omega
    | i x =>
      obtain ⟨q, e1, -⟩ := h1
      have : v.category = 1 := by rw [e1]; exact ip_cat_i q
      unfold ai_cw
      omega
    | c x y =>
      obtain ⟨p, q, e1, -⟩ := h1
      have : v.category = 1 := by rw [e1]; exact ip_cat_i _
      unfold ai_cw
      omega
    | r k =>
      have e1 : v = .ref k := h1
      have : v.category = 1 := by rw [e1]; exact ip_cat_r k
      unfold ai_cw
      omega
  | [], _ :: _, h => h.elim
  | _ :: _, [], h => h.elim
end
noncomputable section
-- PART 48.valid
-- RANKS, and what a checked context says
def ai_qv (ρ : List Int) (q : ai_Q) (z : Int) : Prop := match q.2 with
  | none => z = q.1
  | some (s, m) => ∃ p, ρ[m]? = some p ∧ z = if s then q.1 + p else q.1 - p
theorem ai_qv_app {ρ : List Int} {q : ai_Q} {z : Int} (t : List Int) (h : ai_qv ρ q z) : ai_qv (ρ ++ t) q z := by
  unfold ai_qv at *
  split at h
  · exact h
  · obtain ⟨p, h1, h2⟩ := h
    exact ⟨p, by rw [List.getElem?_append_left (List.getElem?_eq_some_iff.mp h1).1]; exact h1, h2⟩
theorem ai_rq_ok {ρ : List Int} {ls : List ai_A} {vls : List Value} {r : ai_R} {q : ai_Q} (hls : ai_okL ρ ls vls) (h : ai_rq ls r = some q) : ai_qv ρ q (ai_rv vls r) := by
  cases r using ai_Rc with
  | n c => cases h; exact rfl
  | v i hi =>
    have hg := ai_get_ok hls i
    unfold ai_rq at h
    dsimp only at h
    split at h
    · rename_i d hd
      rw [hd] at hg
      obtain ⟨z, e, h1⟩ := hg
      cases h
      show hi - ai_ti (ip_get vls i) = _
      rw [e]
      have : z.toInt = d := h1
      simp only [ai_ti]
      omega
    · rename_i m d hd
      rw [hd] at hg
      obtain ⟨z, e, p, h1, h2⟩ := hg
      cases h
      refine ⟨p, h1, ?_⟩
      show hi - ai_ti (ip_get vls i) = _
      rw [e]
      simp only [ai_ti, Bool.false_eq_true, ↓reduceIte] at *
      omega
    · cases h
  | w i lo =>
    have hg := ai_get_ok hls i
    unfold ai_rq at h
    dsimp only at h
    split at h
    · rename_i d hd
      rw [hd] at hg
      obtain ⟨z, e, h1⟩ := hg
      cases h
      show ai_ti (ip_get vls i) - lo = _
      rw [e]
      have : z.toInt = d := h1
      simp only [ai_ti]
      omega
    · rename_i m d hd
      rw [hd] at hg
      obtain ⟨z, e, p, h1, h2⟩ := hg
      cases h
      refine ⟨p, h1, ?_⟩
      show ai_ti (ip_get vls i) - lo = _
      rw [e]
      simp only [ai_ti, ↓reduceIte] at *
      omega
    · cases h
theorem ai_qi_ok {ρ : List Int} {E : ai_V} {q : ai_Q} {z : Int} (hE : ai_okV ρ E) (h : ai_qv ρ q z) : (ai_qi E q).1 ≤ z ∧ z ≤ (ai_qi E q).2 := by
  have key : ∀ m p, ρ[m]? = some p → (E.getD m (0, 0)).1 ≤ p ∧ p ≤ (E.getD m (0, 0)).2 := by
    intro m p h1
    obtain ⟨b, h3, h4⟩ := ai_two2_get hE m p h1
    rw [List.getD_eq_getElem?_getD, h3]
    exact h4
  obtain ⟨c, o⟩ := q
  cases o with
  | none => have : z = c := h; simp only [ai_qi]; omega
  | some sm =>
    obtain ⟨s, m⟩ := sm
    obtain ⟨p, h1, h2⟩ := h
    have := key m p h1
    cases s
    · simp only [ai_qi, Bool.false_eq_true, ↓reduceIte] at *
      omega
    · simp only [ai_qi, ↓reduceIte] at *
      omega
theorem ai_qv_fun {ρ : List Int} {p q : ai_Q} {a b : Int} (h1 : ai_qv ρ p a) (h2 : ai_qv ρ q b) (he : p.2 = q.2) : a - p.1 = b - q.1 := by
  obtain ⟨c, o⟩ := p
  obtain ⟨d, o2⟩ := q
  have he : o = o2 := he
  subst he
  cases o with
  | none =>
    have e1 : a = c := h1
    have e2 : b = d := h2
    show a - c = b - d
    omega
  | some sm =>
    obtain ⟨s, m⟩ := sm
    obtain ⟨x, k1, k2⟩ := h1
    obtain ⟨y, k3, k4⟩ := h2
    have k3 : ρ[m]? = some y := k3
    rw [k1] at k3
    cases k3
    cases s
    · simp only [Bool.false_eq_true, ↓reduceIte] at *
      omega
    · simp only [↓reduceIte] at *
      omega
theorem ai_qlt_ok {ρ : List Int} {E : ai_V} {p q : ai_Q} {a b : Int} (hE : ai_okV ρ E) (h1 : ai_qv ρ p a) (h2 : ai_qv ρ q b) (h : ai_qlt E p q = true) : a < b := by
  simp only [ai_qlt, Bool.or_eq_true, Bool.and_eq_true, decide_eq_true_eq] at h
  rcases h with h | h
  · have := ai_qv_fun h1 h2 h.1
    omega
  · have := ai_qi_ok hE h1
    have := ai_qi_ok hE h2
    omega
theorem ai_qeq_ok {ρ : List Int} {p q : ai_Q} {a b : Int} (h1 : ai_qv ρ p a) (h2 : ai_qv ρ q b) (h : ai_qeq p q = true) : a = b := by
  simp only [ai_qeq, Bool.and_eq_true, decide_eq_true_eq] at h
  have := ai_qv_fun h1 h2 h.1
  omega
theorem ai_qin_ok {ρ : List Int} {E : ai_V} {p : ai_Q} {a : Int} (hE : ai_okV ρ E) (h1 : ai_qv ρ p a) (h : ai_qin E p = true) : 0 ≤ a ∧ a < 8589934592 := by
  simp only [ai_qin, Bool.and_eq_true, decide_eq_true_eq] at h
  have := ai_qi_ok hE h1
  omega
/-- the rank as one number -/
def ai_ms (z : Int × Int × Int) : Int := (z.1 * 8589934592 + z.2.1) * 8589934592 + z.2.2
def ai_rv3 (vls : List Value) (r : ai_R3) : Int × Int × Int := (ai_rv vls r.1, ai_rv vls r.2.1, ai_rv vls r.2.2)
def ai_qv3 (ρ : List Int) (q : ai_Q3) (z : Int × Int × Int) : Prop := ai_qv ρ q.1 z.1 ∧ ai_qv ρ q.2.1 z.2.1 ∧ ai_qv ρ q.2.2 z.2.2
def ai_z3 (z : Int × Int × Int) : Prop := (0 ≤ z.1 ∧ z.1 < 8589934592) ∧ (0 ≤ z.2.1 ∧ z.2.1 < 8589934592) ∧ (0 ≤ z.2.2 ∧ z.2.2 < 8589934592)
theorem ai_rq3_ok {ρ : List Int} {ls : List ai_A} {vls : List Value} {r : ai_R3} {q : ai_Q3} (hls : ai_okL ρ ls vls) (h : ai_rq3 ls r = some q) : ai_qv3 ρ q (ai_rv3 vls r) := by
  unfold ai_rq3 at h
  split at h
  · rename_i a b c h1 h2 h3
    cases h
    exact ⟨ai_rq_ok hls h1, ai_rq_ok hls h2, ai_rq_ok hls h3⟩
  · cases h
theorem ai_q3in_ok {ρ : List Int} {E : ai_V} {q : ai_Q3} {z : Int × Int × Int} (hE : ai_okV ρ E) (h1 : ai_qv3 ρ q z) (h : ai_q3in E q = true) : ai_z3 z := by
  simp only [ai_q3in, Bool.and_eq_true] at h
  exact ⟨ai_qin_ok hE h1.1 h.1, ai_qin_ok hE h1.2.1 h.2.1, ai_qin_ok hE h1.2.2 h.2.2⟩
theorem ai_q3lt_ok {ρ : List Int} {E : ai_V} {p q : ai_Q3} {a b : Int × Int × Int} (hE : ai_okV ρ E) (h1 : ai_qv3 ρ p a) (h2 : ai_qv3 ρ q b) (ha : ai_z3 a) (hb : ai_z3 b) (h : ai_q3lt E p q = true) : ai_ms a < ai_ms b := by
  simp only [ai_q3lt, Bool.or_eq_true, Bool.and_eq_true] at h
  obtain ⟨a1, a2, a3⟩ := ha
  obtain ⟨b1, b2, b3⟩ := hb
  unfold ai_ms
  rcases h with h | ⟨g, h | ⟨h', h⟩⟩
  · have := ai_qlt_ok hE h1.1 h2.1 h
    omega
  · have := ai_qeq_ok h1.1 h2.1 g
    have := ai_qlt_ok hE h1.2.1 h2.2.1 h
    omega
  · have := ai_qeq_ok h1.1 h2.1 g
    have := ai_qeq_ok h1.2.1 h2.2.1 h'
    have := ai_qlt_ok hE h1.2.2 h2.2.2 h
    omega
theorem ai_z3_ms {z : Int × Int × Int} (h : ai_z3 z) : 0 ≤ ai_ms z := by
  obtain ⟨a, b, c⟩ := h
  unfold ai_ms
  omega
/-- the calls that wait -/
def ai_frs (X : ip_X) (ρ : List Int) (K0 : Option Value → ip_H → Prop) : List ai_Fr → (Option Value → ip_H → Prop) → Prop
  | [], K => K = K0
  | f :: fs, K => ∃ K1 vls vst, ai_frs X ρ K0 fs K1 ∧ ai_okL ρ f.2.2.1 vls ∧ ai_okL ρ f.2.2.2 vst ∧ K = fun r M1 => ip_wp X f.1 f.2.1 vls (r.toList ++ vst) M1 K1
theorem ai_frs_app {X : ip_X} {ρ : List Int} {K0 : Option Value → ip_H → Prop} (t : List Int) : ∀ {fr : List ai_Fr} {K : Option Value → ip_H → Prop}, ai_frs X ρ K0 fr K → ai_frs X (ρ ++ t) K0 fr K
  | [], _, h => h
  | _ :: _, _, ⟨K1, vls, vst, h1, h2, h3, h4⟩ => ⟨K1, vls, vst, ai_frs_app t h1, ai_okL_app t h2, ai_okL_app t h3, h4⟩
theorem ai_fr_t {W : ai_W} {M M1 M2 : ip_H} (h1 : ai_fr W M M1) (h2 : ai_fr W M1 M2) : ai_fr W M M2 := ⟨fun k j h => (h2.1 k j h).trans (h1.1 k j h), fun k j h => (h2.2 k j h).trans (h1.2 k j h)⟩
theorem ai_leW_m {W V : ai_W} (h : ai_leW W V = true) {k j : Nat} (hkj : ai_may V k j = false) : ai_may W k j = false := by
  simp only [ai_leW, Bool.and_eq_true] at h
  cases hc : ai_may W k j with
  | false => rfl
  | true =>
    exfalso
    rw [ai_may_e] at hc
    rw [Bool.or_eq_true] at hc
    rcases hc with hc | hc
    · have := List.all_eq_true.mp h.1 (k, j) (by simpa using hc)
      simp only at this
      rw [this] at hkj
      cases hkj
    · have := List.all_eq_true.mp h.2 k (by simpa using hc)
      unfold ai_may at hkj
      rw [this, Bool.or_true] at hkj
      cases hkj
theorem ai_leW_ok {W V : ai_W} (h : ai_leW W V = true) {M M1 : ip_H} (hf : ai_fr W M M1) : ai_fr V M M1 := ⟨fun k j hkj => hf.1 k j (ai_leW_m h hkj), fun k j hkj => hf.2 k j (ai_leW_m h hkj)⟩
theorem ai_flt_ok {ρ : List Int} {F : ai_F} {W : ai_W} {M M1 : ip_H} (hF : ai_okF ρ F M) (hf : ai_fr W M M1) : ai_okF ρ (F.filter fun f => !ai_may W f.1 f.2.1) M1 := by
  intro f h
  rw [List.mem_filter, Bool.not_eq_true'] at h
  rw [hf.1 _ _ h.2]
  exact hF f h.1
end
noncomputable section
-- PART 49.main
-- A RUN THAT IS CHECKED, and the contexts
section Main
variable {T : ai_T} {D : List ai_C} {c : ai_C} {q0 : Option ai_Q3} {X : ip_X} {M0 : ip_H} {K0 : Option Value → ip_H → Prop} {z0 : Int × Int × Int}
theorem ai_run_ok (hTK : ai_TK T = true) (hD : ∀ d ∈ D, ai_valid T d)
    (hcut : ∀ k ∈ c.2.2.1, ∀ (vls : List Value) (M : ip_H), ai_two2 ai_sat k.2.1 vls → ai_satF k.2.2.1 M → ip_G M → ai_inv T M → ai_fr c.2.2.2.2 M0 M → ai_z3 (ai_rv3 vls k.2.2.2) → (q0.isSome = true → ai_ms (ai_rv3 vls k.2.2.2) < ai_ms z0) → ip_wp X c.1 k.1 vls [] M K0)
    (hexit : ∀ r M1, ai_ret c.2.2.2.1 r → ip_G M1 → ai_inv T M1 → ai_fr c.2.2.2.2 M0 M1 → K0 r M1) (hz0 : ai_z3 z0) :
    ∀ (n : Nat) (first : Bool) (fr : List ai_Fr) (y pc : Nat) (ls st : List ai_A) (E : ai_V) (F : ai_F), ai_run T D c q0 n first fr y pc ls st E F = true →
    ∀ (ρ : List Int) (vls vst : List Value) (M : ip_H) (K : Option Value → ip_H → Prop), ai_frs X ρ K0 fr K → ai_okL ρ ls vls → ai_okL ρ st vst → ai_okV ρ E → ai_okF ρ F M → ip_G M → ai_inv T M → ai_fr c.2.2.2.2 M0 M → (∀ q, q0 = some q → ai_qv3 ρ q z0) → ip_wp X y pc vls vst M K := by
  intro n
  induction n with
  | zero => intro first fr y pc ls st E F h; cases h
  | succ n ih =>
    intro first fr y pc ls st E F h ρ vls vst M K hK hls hst hE hF hG hI hfr hq
    rw [ai_run] at h
    split at h
    · -- a cut point
      rename_i k hk
      split at hk
      · cases hk
      · have hk1 := List.find?_some hk
        have hk2 := List.mem_of_find?_eq_some hk
        simp only [Bool.and_eq_true, List.isEmpty_iff, ai_bt] at hk1 h
        obtain ⟨e1, e2, e3⟩ := hk1
        obtain ⟨h1, h2, h3, h4⟩ := h
        subst e1
        have hK : K = K0 := hK
        subst hK
        subst h1
        cases vst with
        | cons v vst => exact hst.elim
        | nil =>
          split at h4
          · cases h4
          · rename_i q hq3
            rw [Bool.and_eq_true] at h4
            have hv := ai_rq3_ok hls hq3
            have hz := ai_q3in_ok hE hv h4.1
            rw [e2, ← e3]
            refine hcut k hk2 vls M (ai_leL_ok hE hls h2) (ai_leF_ok hE hF hI h3) hG hI hfr hz ?_
            intro hs
            cases hq0 : q0 with
            | none => rw [hq0] at hs; cases hs
            | some p =>
              have h5 := h4.2
              rw [hq0] at h5
              exact ai_q3lt_ok hE hv (hq p hq0) hz hz0 h5
    · split at h
      · cases h
      · rename_i e he
        rw [ai_at_eq] at he
        split at h
        · -- a call
          rename_i hic
          simp only [Bool.and_eq_true, decide_eq_true_eq] at h
          obtain ⟨h1, h2, h3, h4⟩ := h
          split at h4
          · cases h4
          · rename_i l1 hl1
            have hargs : ai_okL ρ (st.take e.2.2.2.1).reverse (vst.take e.2.2.2.1).reverse := ai_two2_rev (ai_two2_take _ hst)
            have hent := ai_ent_ok hargs hl1
            have hlen := ai_two2_len hst
            have hdrop : ai_okL ρ (st.drop e.2.2.2.1) (vst.drop e.2.2.2.1) := ai_two2_drop _ hst
            have hdw := ai_cw_ok hdrop
            rw [wp_call he hic (by omega) (by omega) (ai_rci_ok (l := l1) hG hargs hent.2 h3)]
            split at h4
            · -- by what it is known to do
              rename_i d hd
              have hd1 := List.find?_some hd
              have hd2 := List.mem_of_find?_eq_some hd
              simp only [Bool.and_eq_true, ai_bt] at hd1 h4
              obtain ⟨h5, h6⟩ := h4
              rw [← hd1.1]
              refine hD d hd2 X M _ _ (ai_leL_ok hE hargs hd1.2) hG hI ?_
              intro r M1 hr hG1 hI1 hf1
              have hqt : ∀ t, ∀ q, q0 = some q → ai_qv3 (ρ ++ t) q z0 := fun t q e => ⟨ai_qv_app t (hq q e).1, ai_qv_app t (hq q e).2.1, ai_qv_app t (hq q e).2.2⟩
              split at h6
              · rename_i hn
                rw [hn] at hr
                cases r with
                | some v => exact hr.elim
                | none => exact ih false fr y e.2.1 ls _ E _ h6 ρ vls _ M1 K hK hls hdrop hE (ai_flt_ok hF hf1) hG1 hI1 (ai_fr_t hfr (ai_leW_ok h5 hf1)) hq
              · rename_i ps hn
                rw [hn] at hr
                cases r with
                | none => exact hr.elim
                | some v =>
                  obtain ⟨p, hp, hpv⟩ := hr
                  have h7 := List.all_eq_true.mp h6 p hp
                  split at h7
                  · cases h7
                  · rename_i g hg
                    obtain ⟨t, k1, k2⟩ := ai_give_ok hE hpv hg
                    exact ih false fr y e.2.1 ls _ g.2 _ h7 (ρ ++ t) vls _ M1 K (ai_frs_app t hK) (ai_okL_app t hls) (ai_two2_app k2 (ai_okL_app t hdrop)) k1 (ai_flt_ok (ai_okF_app t hF) hf1) hG1 hI1 (ai_fr_t hfr (ai_leW_ok h5 hf1)) (hqt t)
            · -- in line
              exact ih false _ e.2.2.1 0 l1 [] E F h4 ρ _ [] M _ ⟨K, vls, vst.drop e.2.2.2.1, hK, hls, hdrop, rfl⟩ hent.1 trivial hE hF hG hI hfr hq
        · rename_i hic
          have hic : ip_ic e = false := by simpa using hic
          split at h
          · -- a return
            rename_i a ha
            obtain ⟨r, hr, hra⟩ := ai_rvl_ok hE hst ha
            rw [wp_ret he hic hr]
            split at h
            · have hK : K = K0 := hK
              subst hK
              refine hexit r M ?_ hG hI hfr
              split at h
              · rename_i h5 h6
                cases r with
                | none => rw [h6]; trivial
                | some v => exact hra.elim
              · rename_i a2 ps h5 h6
                cases r with
                | none => exact hra.elim
                | some v =>
                  rw [h6]
                  obtain ⟨p, hp, hpl⟩ := List.any_eq_true.mp h
                  exact ⟨p, hp, ai_leP_ok hE hra.1 hpl⟩
              · cases h
            · rename_i f fs _
              obtain ⟨K1, vl1, vs1, k1, k2, k3, k4⟩ := hK
              rw [k4]
              exact ih false fs f.1 f.2.1 f.2.2.1 _ E F h ρ vl1 _ M K1 k1 k2 (ai_two2_app hra k3) hE hF hG hI hfr hq
          · split at h
            · cases h
            · rename_i hn L hL
              obtain ⟨z, hz, s, hs, t, k1, k2, k3, k4, k5, k6, k7, k8⟩ := ai_step_ok X y hTK hL hls hst hE hF hG hI
              rw [wp_step he hic (ai_step_rv hL vst) hz, ← k1]
              exact ih false fr y s.1 s.2.1 s.2.2.1 s.2.2.2.1 s.2.2.2.2 (List.all_eq_true.mp h s hs) (ρ ++ t) _ _ _ K (ai_frs_app t hK) k2 k3 k4 k5 k6 k7 (ai_fr_t hfr k8) (fun q e => ⟨ai_qv_app t (hq q e).1, ai_qv_app t (hq q e).2.1, ai_qv_app t (hq q e).2.2⟩)
end Main
theorem ai_chk_ok {T : ai_T} {D : List ai_C} {c : ai_C} {n : Nat} (hTK : ai_TK T = true) (hD : ∀ d ∈ D, ai_valid T d) (h : ai_chk T D c n = true) : ai_valid T c := by
  unfold ai_chk at h
  rw [Bool.and_eq_true] at h
  obtain ⟨h1, h2⟩ := h
  intro X M vs K hvs hG hI hK
  have z3 : ai_z3 (0, 0, 0) := ⟨⟨by decide, by decide⟩, ⟨by decide, by decide⟩, ⟨by decide, by decide⟩⟩
  have cuts : ∀ (N : Nat) (k : ai_K), k ∈ c.2.2.1 → ∀ (vls : List Value) (M1 : ip_H), ai_two2 ai_sat k.2.1 vls → ai_satF k.2.2.1 M1 → ip_G M1 → ai_inv T M1 → ai_fr c.2.2.2.2 M M1 → ai_z3 (ai_rv3 vls k.2.2.2) → ai_ms (ai_rv3 vls k.2.2.2) < N → ip_wp X c.1 k.1 vls [] M1 K := by
    intro N
    induction N with
    | zero => intro k hk vls M1 _ _ _ _ _ a b; have := ai_z3_ms a; omega
    | succ N ih =>
      intro k hk vls M1 b1 b2 b3 b4 b5 b6 b7
      have h3 := List.all_eq_true.mp h2 k hk
      unfold ai_from at h3
      obtain ⟨t, k1, k2⟩ := ai_mk_ok k.2.1 [] [] vls trivial b1
      rw [List.nil_append] at k1 k2
      obtain ⟨t2, k3, k4⟩ := ai_mkF_ok k.2.2.1 _ t M1 k1 b2
      split at h3
      · cases h3
      · rename_i q hq
        have hqv := ai_rq3_ok k2 hq
        refine ai_run_ok (z0 := ai_rv3 vls k.2.2.2) (M0 := M) hTK hD ?_ hK b6 n true [] c.1 k.1 _ [] _ _ h3 (t ++ t2) vls [] M1 K rfl (ai_okL_app t2 k2) trivial k3 k4 b3 b4 b5 ?_
        · intro k' hk' vls' M' g1 g2 g3 g4 g5 g6 g7
          have := g7 rfl
          exact ih k' hk' vls' M' g1 g2 g3 g4 g5 g6 (by omega)
        · intro p hp
          cases hp
          exact ⟨ai_qv_app t2 hqv.1, ai_qv_app t2 hqv.2.1, ai_qv_app t2 hqv.2.2⟩
  split at h1
  · cases h1
  · rename_i l hl
    obtain ⟨t, k1, k2⟩ := ai_mk_ok c.2.1 [] [] vs trivial hvs
    rw [List.nil_append] at k1 k2
    have hent := ai_ent_ok k2 hl
    refine ai_run_ok (z0 := (0, 0, 0)) (M0 := M) hTK hD ?_ hK z3 n true [] c.1 0 _ [] _ _ h1 t _ [] M K rfl hent.1 trivial k1 (fun f hf => by cases hf) hG hI (ai_fr_r _ _) (fun q e => by cases e)
    intro k hk vls M1 g1 g2 g3 g4 g5 g6 _
    exact cuts ((ai_ms (ai_rv3 vls k.2.2.2)).toNat + 1) k hk vls M1 g1 g2 g3 g4 g5 g6 (by omega)
end
noncomputable section
-- PART 49.zhint
-- THE ABSTRACT RUN once more: what stands behind the last instruction is looked at first
def ai_l1t (k : Nat) : List (Nat × ip_E) → Option (ip_E × List (Nat × ip_E))
  | [] => none
  | q :: t => bif Nat.beq k q.1 then some (q.2, t) else ai_l1t k t
theorem ai_l1t_n {k : Nat} : ∀ {l : List (Nat × ip_E)}, ai_l1t k l = none → ai_l1k k l = none
  | [], _ => rfl
  | q :: t, h => by
    rw [ai_l1t] at h
    rw [ai_l1k]
    cases hq : Nat.beq k q.1 with
    | true =>
      simp only [hq, cond_true, reduceCtorEq] at h
    | false =>
      simp only [hq, cond_false] at h
      exact ai_l1t_n h
theorem ai_l1t_s {k : Nat} {e : ip_E} {r : List (Nat × ip_E)} : ∀ {l : List (Nat × ip_E)}, ai_l1t k l = some (e, r) → ai_l1k k l = some e ∧ ∀ q ∈ r, q ∈ l
  | [], h => by
    rw [ai_l1t] at h
    cases h
  | q :: t, h => by
    rw [ai_l1t] at h
    rw [ai_l1k]
    cases hq : Nat.beq k q.1 with
    | true =>
      simp only [hq, cond_true, Option.some.injEq, Prod.mk.injEq] at h
      refine ⟨congrArg some h.1, fun x hx => List.mem_cons_of_mem _ ?_⟩
      rw [h.2]
      exact hx
    | false =>
      simp only [hq, cond_false] at h
      obtain ⟨h1, h2⟩ := ai_l1t_s h
      exact ⟨h1, fun x hx => List.mem_cons_of_mem _ (h2 x hx)⟩
def ai_srt (m : Nat) : List (Nat × ip_E) → Bool
  | [] => true
  | q :: t => Nat.ble m q.1 && ai_srt (q.1 + 1) t
theorem ai_srt_ok : ∀ {l : List (Nat × ip_E)} {m : Nat}, ai_srt m l = true → ∀ q ∈ l, m ≤ q.1 ∧ ai_l1k q.1 l = some q.2
  | [], _, _, q, hq => absurd hq List.not_mem_nil
  | p :: t, m, h, q, hq => by
    rw [ai_srt, Bool.and_eq_true] at h
    obtain ⟨h1, h2⟩ := h
    have h1 := Nat.le_of_ble_eq_true h1
    rcases List.mem_cons.mp hq with hq | hq
    · rw [hq]
      refine ⟨h1, ?_⟩
      rw [ai_l1k, Nat.beq_refl]
      rfl
    · obtain ⟨h3, h4⟩ := ai_srt_ok h2 q hq
      refine ⟨by omega, ?_⟩
      have e : Nat.beq q.1 p.1 = false := by
        cases hb : Nat.beq q.1 p.1 with
        | false => rfl
        | true =>
          have hc := Nat.eq_of_beq_eq_true hb
          omega
      rw [ai_l1k, e]
      exact h4
set_option maxRecDepth 100000 in
theorem ai_srt_all : ((List.range 296).all fun y => ai_srt 0 (ip_cs.getD y [])) = true := by decide +kernel
set_option maxRecDepth 100000 in
theorem ai_cs_len : ip_cs.length = 296 := rfl
def ai_hok (y : Nat) (h : List (Nat × ip_E)) : Prop := ∀ q ∈ h, ai_at y q.1 = some q.2
theorem ai_hok_0 (y : Nat) : ai_hok y [] := fun _ hq => absurd hq List.not_mem_nil
theorem ai_full (y : Nat) : ai_hok y (ip_cs.getD y []) := by
  intro q hq
  rcases Nat.lt_or_ge y 296 with h | h
  · exact (ai_srt_ok (List.all_eq_true.mp ai_srt_all y (List.mem_range.mpr h)) q hq).2
  · rw [List.getD_eq_getElem?_getD, List.getElem?_eq_none (by rw [ai_cs_len]; exact h)] at hq
    exact absurd (show q ∈ ([] : List (Nat × ip_E)) from hq) List.not_mem_nil
def ai_hs (y pc : Nat) : List (Nat × ip_E) → Option (ip_E × List (Nat × ip_E))
  | [] => ai_l1t pc (ip_cs.getD y [])
  | q :: t => bif Nat.beq pc q.1 then some (q.2, t) else ai_l1t pc (ip_cs.getD y [])
theorem ai_hs_b {y pc : Nat} : (∀ z, ai_l1t pc (ip_cs.getD y []) = some z → ai_at y pc = some z.1 ∧ ai_hok y z.2) ∧ (ai_l1t pc (ip_cs.getD y []) = none → ai_at y pc = none) := by
  refine ⟨fun z hz => ?_, fun hz => ai_l1t_n hz⟩
  obtain ⟨e, r⟩ := z
  obtain ⟨a, b⟩ := ai_l1t_s hz
  exact ⟨a, fun q hq => ai_full y q (b q hq)⟩
theorem ai_hs_ok {y : Nat} (pc : Nat) {h : List (Nat × ip_E)} (hh : ai_hok y h) : (∀ z, ai_hs y pc h = some z → ai_at y pc = some z.1 ∧ ai_hok y z.2) ∧ (ai_hs y pc h = none → ai_at y pc = none) := by
  cases h with
  | nil => exact ai_hs_b
  | cons q t =>
    rw [ai_hs]
    cases hq : Nat.beq pc q.1 with
    | true =>
      refine ⟨fun z hz => ?_, fun hz => ?_⟩
      · simp only [cond_true, Option.some.injEq] at hz
        have e := Nat.eq_of_beq_eq_true hq
        rw [← hz, e]
        exact ⟨hh q List.mem_cons_self, fun x hx => hh x (List.mem_cons_of_mem _ hx)⟩
      · simp only [cond_true, reduceCtorEq] at hz
    | false => exact ai_hs_b
-- what a context may write, as the bits of a number
def ai_msk : List (Nat × Nat) → Nat
  | [] => 0
  | p :: t => bif Nat.blt p.2 256 then Nat.lor (Nat.shiftLeft 1 (256 * p.1 + p.2)) (ai_msk t) else ai_msk t
def ai_bit (m i : Nat) : Bool := Nat.beq (Nat.land 1 (Nat.shiftRight m i)) 1
theorem ai_bit_e (m i : Nat) : ai_bit m i = Nat.testBit m i := by
  show Nat.beq (1 &&& (m >>> i)) 1 = (1 &&& (m >>> i) != 0)
  have h : (1 &&& (m >>> i)) = (m >>> i) % 2 := by rw [Nat.and_comm, Nat.and_one_is_mod]
  rw [h]
  rcases Nat.mod_two_eq_zero_or_one (m >>> i) with q | q <;> rw [q] <;> rfl
theorem ai_msk_e {k j : Nat} (hj : j < 256) : ∀ l : List (Nat × Nat), ai_e2 k j l = ai_bit (ai_msk l) (256 * k + j)
  | [] => by rw [ai_bit_e]; exact (Nat.zero_testBit _).symm
  | p :: t => by
    have ih := ai_msk_e (k := k) hj t
    rw [ai_bit_e] at ih ⊢
    have e : ai_e2 k j (p :: t) = ((Nat.beq p.1 k && Nat.beq p.2 j) || ai_e2 k j t) := by
      rw [ai_e2]
      first | rfl | (cases (Nat.beq p.1 k && Nat.beq p.2 j) <;> rfl) | (cases Nat.beq p.1 k <;> cases Nat.beq p.2 j <;> rfl)
    rw [e, ih, ai_msk]
    have hb : (Nat.beq p.1 k && Nat.beq p.2 j) = decide (p.1 = k ∧ p.2 = j) := by
      by_cases q : p.1 = k ∧ p.2 = j
      · rw [q.1, q.2, Nat.beq_refl, Nat.beq_refl, decide_eq_true (And.intro rfl rfl)]
        rfl
      · rw [decide_eq_false q]
        cases h1 : Nat.beq p.1 k with
        | false => rfl
        | true =>
          cases h2 : Nat.beq p.2 j with
          | false => rfl
          | true => exact absurd ⟨Nat.eq_of_beq_eq_true h1, Nat.eq_of_beq_eq_true h2⟩ q
    rw [hb]
    cases hs : Nat.blt p.2 256 with
    | true =>
      have hp : p.2 < 256 := by
        have := Nat.le_of_ble_eq_true hs
        omega
      show _ = Nat.testBit (Nat.shiftLeft 1 (256 * p.1 + p.2) ||| ai_msk t) (256 * k + j)
      rw [Nat.testBit_or]
      congr 1
      show _ = Nat.testBit (1 <<< (256 * p.1 + p.2)) (256 * k + j)
      rw [Nat.one_shiftLeft, Nat.testBit_two_pow]
      exact decide_eq_decide.mpr ⟨fun q => by rw [q.1, q.2], fun q => by omega⟩
    | false =>
      have hp : ¬ p.2 < 256 := fun q => by
        have : Nat.blt p.2 256 = true := Nat.ble_eq_true_of_le q
        rw [hs] at this
        cases this
      rw [decide_eq_false (fun q => hp (by omega))]
      rfl
def ai_mayM (W : ai_W) (k j : Nat) : Bool := (bif Nat.blt j 256 then ai_bit (ai_msk W.1) (256 * k + j) else ai_e2 k j W.1) || ai_e1 k W.2
theorem ai_mayM_e : ai_mayM = ai_may := by
  funext W k j
  unfold ai_mayM ai_may
  cases hs : Nat.blt j 256 with
  | true =>
    have hp : j < 256 := by
      have := Nat.le_of_ble_eq_true hs
      omega
    rw [ai_msk_e hp W.1]
    rfl
  | false => rfl
def ai_leWH (mf : ai_W → Nat → Nat → Bool) (W V : ai_W) : Bool := (W.1.all fun p => mf V p.1 p.2) && W.2.all fun k => ai_e1 k V.2
theorem ai_leWH_e (W V : ai_W) : ai_leWH ai_may W V = ai_leW W V := rfl
def ai_sa_0 (mf : ai_W → Nat → Nat → Bool) (T : ai_T) (W : ai_W) (e : ip_E) (ls st : List ai_A) (E : ai_V) (F : ai_F) : Option (List ai_S) :=
  let nx := e.2.1
  let v := e.2.2.2.2.2.2.1
  let cst : Option (List ai_S) := (ai_const v).map fun c => [(nx, ls, c :: st, E, F)]
  cst
def ai_sa_1 (mf : ai_W → Nat → Nat → Bool) (T : ai_T) (W : ai_W) (e : ip_E) (ls st : List ai_A) (E : ai_V) (F : ai_F) : Option (List ai_S) :=
  let nx := e.2.1
  let a := e.2.2.1
  let iload : Option (List ai_S) := match ai_get ls a with
    | .inl (.inl x) => some [(nx, ls, .i x :: st, E, F)]
    | _ => none
  iload
def ai_sa_2 (mf : ai_W → Nat → Nat → Bool) (T : ai_T) (W : ai_W) (e : ip_E) (ls st : List ai_A) (E : ai_V) (F : ai_F) : Option (List ai_S) :=
  let nx := e.2.1
  let a := e.2.2.1
  let lload : Option (List ai_S) := match ai_get ls a with
    | .inl (.inr x) => some [(nx, ls, .l x :: st, E, F)]
    | _ => none
  lload
def ai_sa_3 (mf : ai_W → Nat → Nat → Bool) (T : ai_T) (W : ai_W) (e : ip_E) (ls st : List ai_A) (E : ai_V) (F : ai_F) : Option (List ai_S) :=
  let nx := e.2.1
  let a := e.2.2.1
  let aload : Option (List ai_S) := match ai_get ls a with
    | .inr (.inr (some x)) => some [(nx, ls, .r x :: st, E, F)]
    | _ => none
  aload
def ai_sa_4 (mf : ai_W → Nat → Nat → Bool) (T : ai_T) (W : ai_W) (e : ip_E) (ls st : List ai_A) (E : ai_V) (F : ai_F) : Option (List ai_S) :=
  let nx := e.2.1
  let a := e.2.2.1
  let istore := ai_i1 st fun x r => some [(nx, ai_set1 ls a (.i x), r, E, F)]
  istore
def ai_sa_5 (mf : ai_W → Nat → Nat → Bool) (T : ai_T) (W : ai_W) (e : ip_E) (ls st : List ai_A) (E : ai_V) (F : ai_F) : Option (List ai_S) :=
  let nx := e.2.1
  let a := e.2.2.1
  let lstore := ai_l1 st fun x r => some [(nx, ai_set2 ls a (.l x), r, E, F)]
  lstore
def ai_sa_6 (mf : ai_W → Nat → Nat → Bool) (T : ai_T) (W : ai_W) (e : ip_E) (ls st : List ai_A) (E : ai_V) (F : ai_F) : Option (List ai_S) :=
  let nx := e.2.1
  let a := e.2.2.1
  let astore := ai_r1 st fun x r => some [(nx, ai_set1 ls a (.r x), r, E, F)]
  astore
def ai_sa_7 (mf : ai_W → Nat → Nat → Bool) (T : ai_T) (W : ai_W) (e : ip_E) (ls st : List ai_A) (E : ai_V) (F : ai_F) : Option (List ai_S) :=
  let nx := e.2.1
  let a := e.2.2.1
  let v := e.2.2.2.2.2.2.1
  match ai_get ls a, v with
    | .inl (.inl x), .int c => some [(nx, ai_set1 ls a (.i (ai_add false E x (none, c.toInt)).1), st, (ai_add false E x (none, c.toInt)).2, F)]
    | _, _ => none
def ai_sa_8 (mf : ai_W → Nat → Nat → Bool) (T : ai_T) (W : ai_W) (e : ip_E) (ls st : List ai_A) (E : ai_V) (F : ai_F) : Option (List ai_S) :=
  let nx := e.2.1
  ai_ii st fun x y r => ai_push nx ls r F false (ai_add false E x y)
def ai_sa_9 (mf : ai_W → Nat → Nat → Bool) (T : ai_T) (W : ai_W) (e : ip_E) (ls st : List ai_A) (E : ai_V) (F : ai_F) : Option (List ai_S) :=
  let nx := e.2.1
  ai_ii st fun x y r => ai_push nx ls r F false (ai_sub false E x y)
def ai_sa_10 (mf : ai_W → Nat → Nat → Bool) (T : ai_T) (W : ai_W) (e : ip_E) (ls st : List ai_A) (E : ai_V) (F : ai_F) : Option (List ai_S) :=
  let nx := e.2.1
  ai_ii st fun x y r => match x.1, y.1 with
    | some _, none => if (ai_iv E x).2 - (ai_iv E x).1 ≤ 7 then some (ai_fk E x fun j E1 => (nx, ls, .i (ai_mul false E1 (none, j) y).1 :: r, (ai_mul false E1 (none, j) y).2, F)) else ai_push nx ls r F false (ai_mul false E x y)
    | none, some _ => if (ai_iv E y).2 - (ai_iv E y).1 ≤ 7 then some (ai_fk E y fun j E1 => (nx, ls, .i (ai_mul false E1 x (none, j)).1 :: r, (ai_mul false E1 x (none, j)).2, F)) else ai_push nx ls r F false (ai_mul false E x y)
    | _, _ => ai_push nx ls r F false (ai_mul false E x y)
def ai_sa_11 (mf : ai_W → Nat → Nat → Bool) (T : ai_T) (W : ai_W) (e : ip_E) (ls st : List ai_A) (E : ai_V) (F : ai_F) : Option (List ai_S) :=
  let nx := e.2.1
  ai_ii st fun x y r => if ai_n0 E y then ai_push nx ls r F false (ai_div false E x y) else none
def ai_sa_12 (mf : ai_W → Nat → Nat → Bool) (T : ai_T) (W : ai_W) (e : ip_E) (ls st : List ai_A) (E : ai_V) (F : ai_F) : Option (List ai_S) :=
  let nx := e.2.1
  ai_ii st fun x y r => if ai_n0 E y then ai_push nx ls r F false (ai_rem false E x y) else none
def ai_sa_13 (mf : ai_W → Nat → Nat → Bool) (T : ai_T) (W : ai_W) (e : ip_E) (ls st : List ai_A) (E : ai_V) (F : ai_F) : Option (List ai_S) :=
  let nx := e.2.1
  ai_i1 st fun x r => ai_push nx ls r F false (ai_neg false E x)
def ai_sa_14 (mf : ai_W → Nat → Nat → Bool) (T : ai_T) (W : ai_W) (e : ip_E) (ls st : List ai_A) (E : ai_V) (F : ai_F) : Option (List ai_S) :=
  let nx := e.2.1
  ai_ii st fun x y r => ai_push nx ls r F false (ai_and false E x y)
def ai_sa_15 (mf : ai_W → Nat → Nat → Bool) (T : ai_T) (W : ai_W) (e : ip_E) (ls st : List ai_A) (E : ai_V) (F : ai_F) : Option (List ai_S) :=
  let nx := e.2.1
  ai_ii st fun x y r => ai_push nx ls r F false (ai_fl false E)
def ai_sa_16 (mf : ai_W → Nat → Nat → Bool) (T : ai_T) (W : ai_W) (e : ip_E) (ls st : List ai_A) (E : ai_V) (F : ai_F) : Option (List ai_S) :=
  let nx := e.2.1
  ai_ll st fun x y r => ai_push nx ls r F true (ai_add true E x y)
def ai_sa_17 (mf : ai_W → Nat → Nat → Bool) (T : ai_T) (W : ai_W) (e : ip_E) (ls st : List ai_A) (E : ai_V) (F : ai_F) : Option (List ai_S) :=
  let nx := e.2.1
  ai_ll st fun x y r => ai_push nx ls r F true (ai_sub true E x y)
def ai_sa_18 (mf : ai_W → Nat → Nat → Bool) (T : ai_T) (W : ai_W) (e : ip_E) (ls st : List ai_A) (E : ai_V) (F : ai_F) : Option (List ai_S) :=
  let nx := e.2.1
  ai_ll st fun x y r => ai_push nx ls r F true (ai_mul true E x y)
def ai_sa_19 (mf : ai_W → Nat → Nat → Bool) (T : ai_T) (W : ai_W) (e : ip_E) (ls st : List ai_A) (E : ai_V) (F : ai_F) : Option (List ai_S) :=
  let nx := e.2.1
  ai_ll st fun x y r => if ai_n0 E y then ai_push nx ls r F true (ai_div true E x y) else none
def ai_sa_20 (mf : ai_W → Nat → Nat → Bool) (T : ai_T) (W : ai_W) (e : ip_E) (ls st : List ai_A) (E : ai_V) (F : ai_F) : Option (List ai_S) :=
  let nx := e.2.1
  ai_ll st fun x y r => if ai_n0 E y then ai_push nx ls r F true (ai_rem true E x y) else none
def ai_sa_21 (mf : ai_W → Nat → Nat → Bool) (T : ai_T) (W : ai_W) (e : ip_E) (ls st : List ai_A) (E : ai_V) (F : ai_F) : Option (List ai_S) :=
  let nx := e.2.1
  ai_l1 st fun x r => ai_push nx ls r F true (ai_neg true E x)
def ai_sa_22 (mf : ai_W → Nat → Nat → Bool) (T : ai_T) (W : ai_W) (e : ip_E) (ls st : List ai_A) (E : ai_V) (F : ai_F) : Option (List ai_S) :=
  let nx := e.2.1
  ai_ll st fun x y r => ai_push nx ls r F true (ai_and true E x y)
def ai_sa_23 (mf : ai_W → Nat → Nat → Bool) (T : ai_T) (W : ai_W) (e : ip_E) (ls st : List ai_A) (E : ai_V) (F : ai_F) : Option (List ai_S) :=
  let nx := e.2.1
  ai_ll st fun x y r => ai_push nx ls r F true (ai_fl true E)
def ai_sa_24 (mf : ai_W → Nat → Nat → Bool) (T : ai_T) (W : ai_W) (e : ip_E) (ls st : List ai_A) (E : ai_V) (F : ai_F) : Option (List ai_S) :=
  let nx := e.2.1
  ai_li st fun x y r => ai_push nx ls r F true (ai_fl true E)
def ai_sa_25 (mf : ai_W → Nat → Nat → Bool) (T : ai_T) (W : ai_W) (e : ip_E) (ls st : List ai_A) (E : ai_V) (F : ai_F) : Option (List ai_S) :=
  let nx := e.2.1
  ai_ll st fun x y r => some [(nx, ls, .c x y :: r, E, F)]
def ai_sa_26 (mf : ai_W → Nat → Nat → Bool) (T : ai_T) (W : ai_W) (e : ip_E) (ls st : List ai_A) (E : ai_V) (F : ai_F) : Option (List ai_S) :=
  let nx := e.2.1
  ai_i1 st fun x r => some [(nx, ls, .l x :: r, E, F)]
def ai_sa_27 (mf : ai_W → Nat → Nat → Bool) (T : ai_T) (W : ai_W) (e : ip_E) (ls st : List ai_A) (E : ai_V) (F : ai_F) : Option (List ai_S) :=
  let nx := e.2.1
  ai_l1 st fun x r => if ai_in E x (-2147483648) 2147483647 then some [(nx, ls, .i x :: r, E, F)] else ai_push nx ls r F false (ai_fl false E)
def ai_sa_28 (mf : ai_W → Nat → Nat → Bool) (T : ai_T) (W : ai_W) (e : ip_E) (ls st : List ai_A) (E : ai_V) (F : ai_F) : Option (List ai_S) :=
  let nx := e.2.1
  ai_i1 st fun x r => if ai_in E x (-128) 127 then some [(nx, ls, .i x :: r, E, F)] else ai_push nx ls r F false (ai_nw E (-128) 127)
def ai_sa_29 (mf : ai_W → Nat → Nat → Bool) (T : ai_T) (W : ai_W) (e : ip_E) (ls st : List ai_A) (E : ai_V) (F : ai_F) : Option (List ai_S) :=
  let a := e.2.2.1
  some [(a, ls, st, E, F)]
def ai_sa_30 (mf : ai_W → Nat → Nat → Bool) (T : ai_T) (W : ai_W) (e : ip_E) (ls st : List ai_A) (E : ai_V) (F : ai_F) (c : ClassFile.Cond) : Option (List ai_S) :=
  let nx := e.2.1
  let a := e.2.2.1
  match st with
    | .inl (.inl x) :: r => some (ai_two c E x (none, 0) a nx ls r F)
    | .inr (.inl (x, y)) :: r => some (ai_two c E x y a nx ls r F)
    | _ => none
def ai_sa_31 (mf : ai_W → Nat → Nat → Bool) (T : ai_T) (W : ai_W) (e : ip_E) (ls st : List ai_A) (E : ai_V) (F : ai_F) (c : ClassFile.Cond) : Option (List ai_S) :=
  let nx := e.2.1
  let a := e.2.2.1
  ai_ii st fun x y r => some (ai_two c E x y a nx ls r F)
def ai_sa_32 (mf : ai_W → Nat → Nat → Bool) (T : ai_T) (W : ai_W) (e : ip_E) (ls st : List ai_A) (E : ai_V) (F : ai_F) (lo : Int) (hi : Int) : Option (List ai_S) :=
  let a := e.2.2.1
  let ts := e.2.2.2.2.2.2.2
  ai_i1 st fun x r => some (ai_opt (ai_lt E x (none, lo)) (fun E1 => (a, ls, r, E1, F)) ++ (ai_opt (ai_lt E (none, hi) x) (fun E1 => (a, ls, r, E1, F)) ++ (List.range (hi - lo + 1).toNat).flatMap fun (j : Nat) => ai_opt (ai_eq E x (none, lo + (j : Int))) fun E1 => (ts.getD j a, ls, r, E1, F)))
def ai_sa_33 (mf : ai_W → Nat → Nat → Bool) (T : ai_T) (W : ai_W) (e : ip_E) (ls st : List ai_A) (E : ai_V) (F : ai_F) : Option (List ai_S) :=
  let nx := e.2.1
  match st with
    | .inr (.inr (some k)) :: r => some [(nx, ls, .r k :: .r k :: r, E, F)]
    | .inl (.inl k) :: r => some [(nx, ls, .i k :: .i k :: r, E, F)]
    | _ => none
def ai_sa_34 (mf : ai_W → Nat → Nat → Bool) (T : ai_T) (W : ai_W) (e : ip_E) (ls st : List ai_A) (E : ai_V) (F : ai_F) : Option (List ai_S) :=
  let nx := e.2.1
  match st with
    | .inl (.inl i) :: .inr (.inr (some k)) :: r => some [(nx, ls, .i i :: .r k :: .i i :: .r k :: r, E, F)]
    | _ => none
def ai_sa_35 (mf : ai_W → Nat → Nat → Bool) (T : ai_T) (W : ai_W) (e : ip_E) (ls st : List ai_A) (E : ai_V) (F : ai_F) : Option (List ai_S) :=
  let nx := e.2.1
  match st with
    | .inl (.inl _) :: r => some [(nx, ls, r, E, F)]
    | .inr (.inl (_, _)) :: r => some [(nx, ls, r, E, F)]
    | _ => none
def ai_sa_36 (mf : ai_W → Nat → Nat → Bool) (T : ai_T) (W : ai_W) (e : ip_E) (ls st : List ai_A) (E : ai_V) (F : ai_F) : Option (List ai_S) :=
  let nx := e.2.1
  let a := e.2.2.1
  let b := e.2.2.2.1
  let t := e.2.2.2.2.1
  ai_r1 st fun k r => if (ai_sh k).1 = 0 ∧ (ai_sh k).2.1 = a then
      (if t = 1 then ai_push nx ls r F true (ai_fl true E)
       else if t = 2 then (if k < 128 ∧ b < 48 then (match ai_rf k b with | some q => some [(nx, ls, .r q :: r, E, F)] | none => none) else none)
       else match ai_look F k b with
         | some x => some [(nx, ls, .i x :: r, E, F)]
         | none => ai_push nx ls r ((k, b, (ai_nw E (ai_TT T k b).1 (ai_TT T k b).2).1) :: F) false (ai_nw E (ai_TT T k b).1 (ai_TT T k b).2)) else none
def ai_sa_37 (mf : ai_W → Nat → Nat → Bool) (T : ai_T) (W : ai_W) (e : ip_E) (ls st : List ai_A) (E : ai_V) (F : ai_F) : Option (List ai_S) :=
  let nx := e.2.1
  let a := e.2.2.1
  let b := e.2.2.2.1
  let t := e.2.2.2.2.1
  match st with
    | .inl (.inl x) :: .inr (.inr (some k)) :: r => if (ai_sh k).1 = 0 ∧ (ai_sh k).2.1 = a ∧ (t = 0 ∨ t = 3 ∧ ai_in E x 0 1 = true) ∧ ai_in E x (ai_TT T k b).1 (ai_TT T k b).2 = true ∧ mf W k b = true then some [(nx, ls, r, E, (k, b, x) :: ai_drop F k b)] else none
    | .inl (.inr x) :: .inr (.inr (some k)) :: r => if (ai_sh k).1 = 0 ∧ (ai_sh k).2.1 = a ∧ t = 1 ∧ mf W (k + 1000) b = true then some [(nx, ls, r, E, F)] else none
    | _ => none
def ai_sa_38 (mf : ai_W → Nat → Nat → Bool) (T : ai_T) (W : ai_W) (e : ip_E) (ls st : List ai_A) (E : ai_V) (F : ai_F) : Option (List ai_S) :=
  let nx := e.2.1
  ai_r1 st fun k r => if (ai_sh k).1 = 1 ∧ (ai_sh k).2.2 < 2147483648 then some [(nx, ls, .i (none, (ai_sh k).2.2) :: r, E, F)] else none
def ai_sa_39 (mf : ai_W → Nat → Nat → Bool) (T : ai_T) (W : ai_W) (e : ip_E) (ls st : List ai_A) (E : ai_V) (F : ai_F) : Option (List ai_S) :=
  let nx := e.2.1
  match st with
    | .inl (.inl x) :: .inr (.inr (some k)) :: r => if (ai_sh k).1 = 1 ∧ (ai_sh k).2.1 = 0 ∧ ai_in E x 0 ((ai_sh k).2.2 - 1) = true then (match x.1 with
      | none => (match ai_look F k x.2.toNat with
        | some q => some [(nx, ls, .i q :: r, E, F)]
        | none => ai_push nx ls r ((k, x.2.toNat, (ai_nw E (ai_TT T k x.2.toNat).1 (ai_TT T k x.2.toNat).2).1) :: F) false (ai_nw E (ai_TT T k x.2.toNat).1 (ai_TT T k x.2.toNat).2))
      | some _ => ai_push nx ls r F false (ai_nw E (ai_TA T k).1 (ai_TA T k).2)) else none
    | _ => none
def ai_sa_40 (mf : ai_W → Nat → Nat → Bool) (T : ai_T) (W : ai_W) (e : ip_E) (ls st : List ai_A) (E : ai_V) (F : ai_F) : Option (List ai_S) :=
  let nx := e.2.1
  match st with
    | .inl (.inl x) :: .inr (.inr (some k)) :: r => if (ai_sh k).1 = 1 ∧ ((ai_sh k).2.1 = 2 ∨ (ai_sh k).2.1 = 3) ∧ ai_in E x 0 ((ai_sh k).2.2 - 1) = true then ai_push nx ls r F false (ai_nw E (ai_TA T k).1 (ai_TA T k).2) else none
    | _ => none
def ai_sa_41 (mf : ai_W → Nat → Nat → Bool) (T : ai_T) (W : ai_W) (e : ip_E) (ls st : List ai_A) (E : ai_V) (F : ai_F) : Option (List ai_S) :=
  let nx := e.2.1
  match st with
    | .inl (.inl x) :: .inr (.inr (some k)) :: r => if (ai_sh k).1 = 1 ∧ (ai_sh k).2.1 = 1 ∧ ai_in E x 0 ((ai_sh k).2.2 - 1) = true then ai_push nx ls r F true (ai_fl true E) else none
    | _ => none
def ai_sa_42 (mf : ai_W → Nat → Nat → Bool) (T : ai_T) (W : ai_W) (e : ip_E) (ls st : List ai_A) (E : ai_V) (F : ai_F) : Option (List ai_S) :=
  let nx := e.2.1
  match st with
    | .inl (.inl x) :: .inr (.inr (some k)) :: r => if (ai_sh k).1 = 1 ∧ 4 ≤ (ai_sh k).2.1 ∧ ai_in E x 0 ((ai_sh k).2.2 - 1) = true ∧ k < 128 ∧ (ai_sh k).2.2 ≤ 48 ∧ ((List.range (ai_sh k).2.2).all fun j => (ai_rf k j).isSome) = true then
      some ((List.range (ai_sh k).2.2).flatMap fun (j : Nat) => ai_opt (ai_eq E x (none, (j : Int))) fun E1 => (nx, ls, .r ((ai_rf k j).getD 0) :: r, E1, F)) else none
    | _ => none
def ai_sa_43 (mf : ai_W → Nat → Nat → Bool) (T : ai_T) (W : ai_W) (e : ip_E) (ls st : List ai_A) (E : ai_V) (F : ai_F) : Option (List ai_S) :=
  let nx := e.2.1
  let v := e.2.2.2.2.2.2.1
  match st with
    | .inl (.inl v) :: .inl (.inl x) :: .inr (.inr (some k)) :: r => if (ai_sh k).1 = 1 ∧ (ai_sh k).2.1 = 0 ∧ ai_in E x 0 ((ai_sh k).2.2 - 1) = true then (match x.1 with
      | none => if ai_in E v (ai_TT T k x.2.toNat).1 (ai_TT T k x.2.toNat).2 = true ∧ mf W k x.2.toNat = true then some [(nx, ls, r, E, (k, x.2.toNat, v) :: ai_drop F k x.2.toNat)] else none
      | some _ => if ai_TJ T k (ai_iv E x).1 (ai_iv E x).2 (ai_iv E v).1 (ai_iv E v).2 = true ∧ W.2.elem k = true then some [(nx, ls, r, E, ai_dropc F k)] else none) else none
    | _ => none
def ai_sa_44 (mf : ai_W → Nat → Nat → Bool) (T : ai_T) (W : ai_W) (e : ip_E) (ls st : List ai_A) (E : ai_V) (F : ai_F) : Option (List ai_S) :=
  let nx := e.2.1
  match st with
    | .inl (.inr _) :: .inl (.inl x) :: .inr (.inr (some k)) :: r => if (ai_sh k).1 = 1 ∧ (ai_sh k).2.1 = 1 ∧ ai_in E x 0 ((ai_sh k).2.2 - 1) = true ∧ W.2.elem (k + 1000) = true then some [(nx, ls, r, E, F)] else none
    | _ => none
def ai_sa_45 (mf : ai_W → Nat → Nat → Bool) (T : ai_T) (W : ai_W) (e : ip_E) (ls st : List ai_A) (E : ai_V) (F : ai_F) : Option (List ai_S) :=
  let nx := e.2.1
  match st with
    | .inl (.inl _) :: .inl (.inl x) :: .inr (.inr (some k)) :: r => if (ai_sh k).1 = 1 ∧ ai_in E x 0 ((ai_sh k).2.2 - 1) = true ∧ ((ai_sh k).2.1 = 2 ∧ ai_TI T k (-128) 127 = true ∨ (ai_sh k).2.1 = 3 ∧ ai_TI T k 0 1 = true) ∧ W.2.elem k = true then some [(nx, ls, r, E, ai_dropc F k)] else none
    | _ => none
def ai_sa_46 (mf : ai_W → Nat → Nat → Bool) (T : ai_T) (W : ai_W) (e : ip_E) (ls st : List ai_A) (E : ai_V) (F : ai_F) : Option (List ai_S) :=
  let nx := e.2.1
  let t := e.2.2.2.2.1
  match st with
    | .inl (.inl n) :: .inl (.inl dp) :: .inr (.inr (some k1)) :: .inl (.inl sp) :: .inr (.inr (some k0)) :: r => if t = 7 ∧ r.length ≤ 4 ∧ (ai_sh k0).1 = 1 ∧ (ai_sh k1).1 = 1 ∧ (ai_sh k0).2.1 = (ai_sh k1).2.1 ∧ (ai_sh k0).2.1 < 3 ∧ n.1 = none ∧ dp.1 = none ∧ sp.1 = none ∧ 0 ≤ n.2 ∧ 0 ≤ dp.2 ∧ 0 ≤ sp.2 ∧ sp.2.toNat + n.2.toNat ≤ (ai_sh k0).2.2 ∧ dp.2.toNat + n.2.toNat ≤ (ai_sh k1).2.2 ∧ ((ai_sh k0).2.1 = 1 ∧ W.2.elem (k1 + 1000) = true ∨ ¬ (ai_sh k0).2.1 = 1 ∧ ((ai_sh k0).2.1 = 0 ∨ -128 ≤ (ai_TA T k0).1 ∧ (ai_TA T k0).2 ≤ 127) ∧ ai_TI T k1 (ai_TA T k0).1 (ai_TA T k0).2 = true ∧ W.2.elem k1 = true) then some [(nx, ls, r, E, ai_dropc F k1)] else none
    | _ => none
def ai_stepF (mf : ai_W → Nat → Nat → Bool) (T : ai_T) (W : ai_W) (e : ip_E) (ls st : List ai_A) (E : ai_V) (F : ai_F) : Option (List ai_S) :=
  match e.1 with
  | .iconst _ => ai_sa_0 mf T W e ls st E F
  | .bipush _ => ai_sa_0 mf T W e ls st E F
  | .sipush _ => ai_sa_0 mf T W e ls st E F
  | .lconst _ => ai_sa_0 mf T W e ls st E F
  | .ldc _ => ai_sa_0 mf T W e ls st E F
  | .ldc_w _ => ai_sa_0 mf T W e ls st E F
  | .ldc2_w _ => ai_sa_0 mf T W e ls st E F
  | .iload _ => ai_sa_1 mf T W e ls st E F
  | .iload_n _ => ai_sa_1 mf T W e ls st E F
  | .lload _ => ai_sa_2 mf T W e ls st E F
  | .lload_n _ => ai_sa_2 mf T W e ls st E F
  | .aload _ => ai_sa_3 mf T W e ls st E F
  | .aload_n _ => ai_sa_3 mf T W e ls st E F
  | .istore _ => ai_sa_4 mf T W e ls st E F
  | .istore_n _ => ai_sa_4 mf T W e ls st E F
  | .lstore _ => ai_sa_5 mf T W e ls st E F
  | .lstore_n _ => ai_sa_5 mf T W e ls st E F
  | .astore _ => ai_sa_6 mf T W e ls st E F
  | .astore_n _ => ai_sa_6 mf T W e ls st E F
  | .iinc _ _ => ai_sa_7 mf T W e ls st E F
  | .iadd => ai_sa_8 mf T W e ls st E F
  | .isub => ai_sa_9 mf T W e ls st E F
  | .imul => ai_sa_10 mf T W e ls st E F
  | .idiv => ai_sa_11 mf T W e ls st E F
  | .irem => ai_sa_12 mf T W e ls st E F
  | .ineg => ai_sa_13 mf T W e ls st E F
  | .iand => ai_sa_14 mf T W e ls st E F
  | .ior => ai_sa_15 mf T W e ls st E F
  | .ixor => ai_sa_15 mf T W e ls st E F
  | .ishl => ai_sa_15 mf T W e ls st E F
  | .ishr => ai_sa_15 mf T W e ls st E F
  | .ladd => ai_sa_16 mf T W e ls st E F
  | .lsub => ai_sa_17 mf T W e ls st E F
  | .lmul => ai_sa_18 mf T W e ls st E F
  | .ldiv => ai_sa_19 mf T W e ls st E F
  | .lrem => ai_sa_20 mf T W e ls st E F
  | .lneg => ai_sa_21 mf T W e ls st E F
  | .land => ai_sa_22 mf T W e ls st E F
  | .lor => ai_sa_23 mf T W e ls st E F
  | .lxor => ai_sa_23 mf T W e ls st E F
  | .lshl => ai_sa_24 mf T W e ls st E F
  | .lshr => ai_sa_24 mf T W e ls st E F
  | .lushr => ai_sa_24 mf T W e ls st E F
  | .lcmp => ai_sa_25 mf T W e ls st E F
  | .i2l => ai_sa_26 mf T W e ls st E F
  | .l2i => ai_sa_27 mf T W e ls st E F
  | .i2b => ai_sa_28 mf T W e ls st E F
  | .goto _ => ai_sa_29 mf T W e ls st E F
  | .ifCond c _ => ai_sa_30 mf T W e ls st E F c
  | .if_icmp c _ => ai_sa_31 mf T W e ls st E F c
  | .tableswitch _ lo hi _ => ai_sa_32 mf T W e ls st E F lo hi
  | .dup => ai_sa_33 mf T W e ls st E F
  | .dup2 => ai_sa_34 mf T W e ls st E F
  | .pop => ai_sa_35 mf T W e ls st E F
  | .getfield _ => ai_sa_36 mf T W e ls st E F
  | .putfield _ => ai_sa_37 mf T W e ls st E F
  | .arraylength => ai_sa_38 mf T W e ls st E F
  | .iaload => ai_sa_39 mf T W e ls st E F
  | .baload => ai_sa_40 mf T W e ls st E F
  | .laload => ai_sa_41 mf T W e ls st E F
  | .aaload => ai_sa_42 mf T W e ls st E F
  | .iastore => ai_sa_43 mf T W e ls st E F
  | .lastore => ai_sa_44 mf T W e ls st E F
  | .bastore => ai_sa_45 mf T W e ls st E F
  | .invokestatic _ => ai_sa_46 mf T W e ls st E F
  | _ => none
theorem ai_stepF_e (T : ai_T) (W : ai_W) (e : ip_E) (ls st : List ai_A) (E : ai_V) (F : ai_F) : ai_step T W e ls st E F = ai_stepF ai_may T W e ls st E F := by
  obtain ⟨i, nx, a, b, t, w, v, ts⟩ := e
  cases i <;> rfl
def ai_runH (mf : ai_W → Nat → Nat → Bool) (T : ai_T) (D : List ai_C) (c : ai_C) (q0 : Option ai_Q3) : Nat → Bool → List ai_Fr → Nat → Nat → List (Nat × ip_E) → List ai_A → List ai_A → ai_V → ai_F → Bool
  | 0, _, _, _, _, _, _, _, _, _ => false
  | n + 1, first, fr, y, pc, h, ls, st, E, F =>
    match (if first then none else c.2.2.1.find? fun k => fr.isEmpty && (Nat.beq y c.1 && Nat.beq k.1 pc)) with
    | some k => st.isEmpty && (ai_leL E ls k.2.1 && (ai_leF T E F k.2.2.1 && (match ai_rq3 ls k.2.2.2 with
      | none => false
      | some q => ai_q3in E q && (match q0 with
        | none => true
        | some p => ai_q3lt E q p))))
    | none => match ai_hs y pc h with
      | none => false
      | some (e, h1) =>
        if ip_ic e = true then
          decide (e.2.2.2.1 ≤ st.length) && (decide (ai_cw (st.drop e.2.2.2.1) ≤ 8) && (ai_rci e (st.take e.2.2.2.1).reverse && (match ai_ent1 e.2.2.1 (st.take e.2.2.2.1).reverse with
            | none => false
            | some l1 => match ai_find E D e.2.2.1 (st.take e.2.2.2.1).reverse with
              | some d => ai_leWH mf d.2.2.2.2 c.2.2.2.2 && (match d.2.2.2.1 with
                | none => ai_runH mf T D c q0 n false fr y e.2.1 h1 ls (st.drop e.2.2.2.1) E (F.filter fun f => !mf d.2.2.2.2 f.1 f.2.1)
                | some ps => ps.all fun p => (match ai_give E p with
                  | none => false
                  | some g => ai_runH mf T D c q0 n false fr y e.2.1 h1 ls (g.1 ++ st.drop e.2.2.2.1) g.2 (F.filter fun f => !mf d.2.2.2.2 f.1 f.2.1)))
              | none => ai_runH mf T D c q0 n false ((y, e.2.1, ls, st.drop e.2.2.2.1) :: fr) e.2.2.1 0 [] l1 [] E F)))
        else match ai_rvl e st E with
          | some a => (match fr with
            | [] => (match a, c.2.2.2.1 with
              | none, none => true
              | some a, some ps => ps.any fun p => ai_leP E a p
              | _, _ => false)
            | f :: fs => ai_runH mf T D c q0 n false fs f.1 f.2.1 [] f.2.2.1 (a.toList ++ f.2.2.2) E F)
          | none => match ai_stepF mf T c.2.2.2.2 e ls st E F with
            | none => false
            | some L => L.all fun s => ai_runH mf T D c q0 n false fr y s.1 h1 s.2.1 s.2.2.1 s.2.2.2.1 s.2.2.2.2
def ai_fromH (mf : ai_W → Nat → Nat → Bool) (T : ai_T) (D : List ai_C) (c : ai_C) (n : Nat) (k : ai_K) : Bool :=
  match ai_rq3 (ai_mk k.2.1 []).1 k.2.2.2 with
  | none => false
  | some q => ai_runH mf T D c (some q) n true [] c.1 k.1 [] (ai_mk k.2.1 []).1 [] (ai_mkF k.2.2.1 (ai_mk k.2.1 []).2).2 (ai_mkF k.2.2.1 (ai_mk k.2.1 []).2).1
def ai_chkH (mf : ai_W → Nat → Nat → Bool) (T : ai_T) (D : List ai_C) (c : ai_C) (n : Nat) : Bool :=
  (match ai_ent1 c.1 (ai_mk c.2.1 []).1 with
    | none => false
    | some l => ai_runH mf T D c none n true [] c.1 0 [] l [] (ai_mk c.2.1 []).2 []) && c.2.2.1.all fun k => ai_fromH mf T D c n k
theorem ai_runH_e (T : ai_T) (D : List ai_C) (c : ai_C) (q0 : Option ai_Q3) : ∀ n first fr y pc h ls st E F, ai_hok y h → ai_runH ai_may T D c q0 n first fr y pc h ls st E F = ai_run T D c q0 n first fr y pc ls st E F := by
  intro n
  induction n with
  | zero => intros; rfl
  | succ n ih =>
    intro first fr y pc h ls st E F hh
    rw [ai_runH, ai_run]
    cases hk : (if first then none else c.2.2.1.find? fun k => fr.isEmpty && (Nat.beq y c.1 && Nat.beq k.1 pc)) with
    | some k => rfl
    | none =>
      dsimp only
      have hs := ai_hs_ok pc hh
      cases hz : ai_hs y pc h with
      | none => rw [hs.2 hz]
      | some z =>
        obtain ⟨e, h1⟩ := z
        obtain ⟨ha, hh1⟩ := hs.1 _ hz
        have i1 : ∀ first fr pc ls st E F, ai_runH ai_may T D c q0 n first fr y pc h1 ls st E F = ai_run T D c q0 n first fr y pc ls st E F := fun first fr pc ls st E F => ih first fr y pc h1 ls st E F hh1
        have i2 : ∀ first fr y pc ls st E F, ai_runH ai_may T D c q0 n first fr y pc [] ls st E F = ai_run T D c q0 n first fr y pc ls st E F := fun first fr y pc ls st E F => ih first fr y pc [] ls st E F (ai_hok_0 y)
        rw [ha]
        dsimp only
        simp only [i1, i2, ← ai_stepF_e, ai_leWH_e] <;> rfl
theorem ai_runH_0 (T : ai_T) (D : List ai_C) (c : ai_C) (q0 : Option ai_Q3) (n : Nat) (first : Bool) (fr : List ai_Fr) (y pc : Nat) (ls st : List ai_A) (E : ai_V) (F : ai_F) : ai_runH ai_may T D c q0 n first fr y pc [] ls st E F = ai_run T D c q0 n first fr y pc ls st E F := ai_runH_e T D c q0 n first fr y pc [] ls st E F (ai_hok_0 y)
theorem ai_chkH_e (T : ai_T) (D : List ai_C) (c : ai_C) (n : Nat) : ai_chk T D c n = ai_chkH ai_may T D c n := by
  unfold ai_chk ai_chkH
  have hf : ai_from = ai_fromH ai_may := by
    funext T D c n k
    unfold ai_from ai_fromH
    simp only [ai_runH_0] <;> rfl
  rw [hf]
  simp only [ai_runH_0] <;> rfl
theorem ai_chkH_ok {T : ai_T} {D : List ai_C} {c : ai_C} {n : Nat} (hTK : ai_TK T = true) (hD : ∀ d ∈ D, ai_valid T d) (h : ai_chkH ai_mayM T D c n = true) : ai_valid T c := ai_chk_ok hTK hD ((ai_chkH_e T D c n).trans ((congrArg (fun f => ai_chkH f T D c n) ai_mayM_e).symm.trans h))
end
noncomputable section
-- PART 50.fm
def ai_Tb : ai_T := ([(6, 4, 0, 60), (6, 5, (-1), 60), (6, 6, (-1), 61), (6, 14, 0, 1), (17, 1, 0, 40), (19, 2, 0, 200), (21, 1, 0, 40), (23, 4, 0, 7), (23, 5, 0, 8), (30, 1, 0, 40), (35, 1, 0, 40), (40, 1, 0, 40), (45, 1, 0, 40), (50, 1, 0, 40), (55, 1, 0, 40), (60, 1, 0, 40), (65, 1, 0, 40), (70, 1, 0, 40), (75, 1, 0, 40), (80, 4, 0, 60), (80, 5, (-1), 60), (80, 6, (-1), 61), (80, 14, 0, 1)], [(8, (-128), 127), (18, (-128), 127), (20, (-128), 127), (22, (-128), 127), (27, 0, 1), (31, (-128), 127), (36, (-128), 127), (41, (-128), 127), (46, (-128), 127), (51, (-128), 127), (56, (-128), 127), (61, (-128), 127), (66, (-128), 127), (71, (-128), 127), (76, (-128), 127), (82, (-128), 127)])
theorem ai_TbK : ai_TK ai_Tb = true := by decide +kernel
theorem ai_D0 : ∀ d ∈ ([] : List ai_C), ai_valid ai_Tb d := fun _ h => by cases h
theorem ai_D1 {d : ai_C} {D : List ai_C} (h : ai_valid ai_Tb d) (hs : ∀ x ∈ D, ai_valid ai_Tb x) : ∀ x ∈ d :: D, ai_valid ai_Tb x := fun x hx => by
  rcases List.mem_cons.mp hx with e | e
  · rw [e]; exact h
  · exact hs x e
theorem ai_sat_i {lo hi : Int} {v : Value} (h : ai_sat (.i lo hi) v) : ∃ q : Int32, v = .int q ∧ lo ≤ q.toInt ∧ q.toInt ≤ hi := h
def cx_fm : ai_C := (291, [.i (-2147483648) 2147483647, .i 8 8], [], some [.i 0 7], ([], []))
set_option maxHeartbeats 40000000 in
set_option maxRecDepth 100000 in
theorem vx_fm : ai_valid ai_Tb cx_fm := by
  intro X M vs K hvs hG hI hK
  match vs, hvs with
  | [v1, v2], ⟨h1, h2, _⟩ =>
    obtain ⟨p, e1, -, -⟩ := ai_sat_i h1
    obtain ⟨q, e2, h3, h4⟩ := ai_sat_i h2
    have e8 : q = 8 := Int32.toInt_inj.mp (by have : (8 : Int32).toInt = 8 := rfl
                                              omega)
    subst e1 e2 e8
    have hent : ip_ent (ip_ml 291) [.int p, .int 8] = [.int p, .int 8, .retAddr 1] := rfl
    show ip_wp X 291 0 (ip_ent (ip_ml 291) [.int p, .int 8]) [] M K
    rw [hent]
    have hr : (p - p / 8 * 8).toInt = p.toInt.tmod 8 := by
      rw [ai_32_rem, show (8 : Int32).toInt = 8 from rfl]
      have := ai_32_b p
      refine ai_bm_fit ?_ ?_
      · have := Int.lt_tmod_of_pos p.toInt (show (0 : Int) < 8 by decide)
        unfold ai_mn; simp only [Bool.false_eq_true, ↓reduceIte]; omega
      · have := Int.tmod_lt_of_pos p.toInt (show (0 : Int) < 8 by decide)
        unfold ai_mx; simp only [Bool.false_eq_true, ↓reduceIte]; omega
    have hk : ∀ z : Int32, 0 ≤ z.toInt → z.toInt ≤ 7 → K (some (.int z)) M := fun z a b => hK _ M ⟨_, List.mem_singleton.mpr rfl, z, rfl, a, b⟩ hG hI (ai_fr_r _ _)
    have hlt := Int.tmod_lt_of_pos p.toInt (show (0 : Int) < 8 by decide)
    have hgt := Int.lt_tmod_of_pos p.toInt (show (0 : Int) < 8 by decide)
    have hx : p ^^^ 8 < 0 ↔ p.toInt < 0 := by
      rw [Int32.lt_iff_toInt_lt, Int32.toInt_zero, ← Int32.toInt_toBitVec, ← Int32.toInt_toBitVec, Int32.toBitVec_xor]
      have a1 := BitVec.msb_eq_toInt (x := p.toBitVec ^^^ (8 : Int32).toBitVec)
      have a2 := BitVec.msb_eq_toInt (x := p.toBitVec)
      have a3 : (8 : Int32).toBitVec.msb = false := by decide
      rw [BitVec.msb_xor, a3, Bool.xor_false, a2] at a1
      exact (decide_eq_decide.mp a1).symm
    by_cases hp : p.toInt < 0
    · have hx' : p ^^^ 8 < 0 := hx.mpr hp
      by_cases h0 : p - p / 8 * 8 = 0
      · simp (config := { maxSteps := 10000000, maxDischargeDepth := 30, decide := true }) only [w291_0, w291_1, w291_2, w291_3, w291_4, w291_5, w291_6, w291_7, w291_10, w291_11, w291_14, w291_15, w291_16, w291_17, w291_18, w291_19, ↓ip_kas, ↓ip_ki0, ↓ip_kl0, ↓ip_ka0, ↓ip_ki1, ↓ip_kl1, ↓ip_ka1, ↓ip_ki2, ↓ip_kl2, ↓ip_ka2, ↓ip_ki3, ↓ip_kl3, ↓ip_ka3, ↓ip_ki4, ↓ip_kl4, ↓ip_ka4, ↓ip_ki5, ↓ip_kl5, ↓ip_ka5, ↓ip_ki6, ↓ip_kl6, ↓ip_ki7, ↓ip_kl7, ↓ip_ki8, ↓ip_kl8, ↓ip_ki9, ↓ip_kl9, ↓ip_ki10, ↓ip_kl10, ↓ip_ki11, ↓ip_kl11, ↓ip_ki12, ↓ip_kl12, ↓ip_ki13, ↓ip_kl13, ↓ip_ki14, ↓ip_kl14, ↓ip_ki15, ↓ip_kl15, ↓ip_ki16, ↓ip_kl16, ↓ip_ki17, ↓ip_kl17, ↓ip_ki18, ↓ip_kl18, ↓ip_ki19, ↓ip_kl19, ↓ip_ki20, ↓ip_kl20, ↓ip_ki21, ↓ip_kl21, ↓ip_ki22, ↓ip_kl22, ↓ip_ki23, ↓ip_kl23, ↓ip_ki24, ↓ip_kl24, ↓ip_ki25, ↓ip_kl25, ↓ip_ki26, ↓ip_kl26, ↓ip_ki27, ↓ip_kl27, ↓ip_ki28, ↓ip_kl28, ↓ip_ki29, ↓ip_kl29, ↓ip_ki30, ↓ip_kl30, ↓ip_ki31, ↓ip_kl31, ↓ip_ki32, ↓ip_kl32, ↓ip_ki33, ↓ip_kl33, ↓ip_ki34, ↓ip_kl34, ↓ip_ki35, ↓ip_kl35, ↓ip_ki36, ↓ip_kl36, ↓ip_ki37, ↓ip_kl37, ↓ip_ki38, ↓ip_kl38, ↓ip_ki39, ↓ip_kl39, ↓ip_ki40, ↓ip_kl40, ↓ip_ki41, ↓ip_kl41, ↓ip_ki42, ↓ip_kl42, ↓ip_ki43, ↓ip_kl43, ↓ip_ki44, ↓ip_kl44, ↓ip_ki45, ↓ip_kl45, ↓ip_ki46, ↓ip_kl46, ↓ip_ki47, ↓ip_kl47, ↓ip_ki48, ↓ip_kl48, ↓ip_ki49, ↓ip_kl49, ↓ip_ki50, ↓ip_kl50, ↓ip_ki51, ↓ip_kl51, ip_get_0, ip_get_s, ip_ki_int, ip_kl_long, ip_ka_ref, ip_ka_scr, ip_set1, ip_set2, ip_clr_0, ip_clr_s, ip_cat_i, ip_cat_l, ip_cat_r, ip_cat_a, List.set_cons_zero, List.set_cons_succ, ip_uI_1, ip_uI_I, ip_uI_L, ip_uI_R, ip_uI_sh, ip_uL_1, ip_uL_I, ip_uL_L, ip_uL_R, ip_uL_sh, ip_vr_some, Option.toList_some, Option.toList_none, List.nil_append, List.cons_append, List.length_nil, List.length_cons, ↓reduceIte, Nat.reduceAdd, Nat.reduceLeDiff, Nat.reduceEqDiff, Nat.reduceLT, Nat.zero_add, Nat.zero_le, true_or, or_true, false_or, or_false, true_and, and_true, false_and, and_false, and_self, ne_eq, not_true_eq_false, not_false_eq_true, ip_sI_1, ip_sI_I, ip_sI_L, ip_sI_R, ip_sI_sh, ip_sL_1, ip_sL_I, ip_sL_L, ip_sL_R, ip_sL_sh, gG_uI, gG_uL, gG_cpI, gG_cpL, gG_sI, gG_sL, ip_b_t, ip_b_f, ip_b_0, ip_b_01, ip_b_1, Int32.reduceLT, Int32.reduceLE, Int32.reduceSub, Int32.reduceAdd, Int32.reduceMul, Int32.reduceToNatClampNeg, Int32.reduceToInt, Int64.reduceLT, Int64.reduceAdd, Int64.reduceMul, Int64.reduceSub, ip_ix_eq, ip_cmp_lt, ip_cmp_gt, ip_cmp_eq, ip_cpI_I, ip_cpI_L, ip_cpI_R, ip_cpI_sh, ip_cpL_I, ip_cpL_L, ip_cpL_R, ip_cpL_sh, Int64.reduceDiv, Int64.reduceLE, Int32.reduceDiv, Int32.reduceOfNat, List.getD_cons_zero, List.getD_cons_succ, Int.reduceSub, Int.reduceToNat, Int.reduceLT, ip_w_m12, ip_w_m11, ip_w_m10, ip_w_m9, ip_w_m8, ip_w_m7, ip_w_m6, ip_w_m5, ip_w_m4, ip_w_m3, ip_w_m2, ip_w_m1, ip_w_0, ip_w_1, ip_w_2, ip_w_3, ip_w_4, ip_w_5, ip_w_6, ip_w_7, ip_w_8, ip_w_9, ip_w_10, ip_w_11, ip_w_12, ip_w_13, ip_w_14, ip_w_15, ip_w_16, ip_w_17, ip_w_18, ip_w_19, ip_w_20, ip_w_21, ip_w_22, ip_w_23, ip_w_24, ip_w_25, ip_w_26, ip_w_27, ip_w_28, ip_w_29, ip_w_30, ip_w_31, ip_w_32, ip_w_33, ip_w_34, ip_w_35, ip_w_36, ip_w_37, ip_w_38, ip_w_39, ip_w_40, ip_w_41, ip_w_42, ip_w_43, ip_w_44, ip_w_45, ip_w_46, ip_w_47, ip_w_48, ip_w_49, ip_w_50, ip_w_51, ip_w_52, ip_w_53, ip_w_54, ip_w_55, ip_w_56, ip_w_57, ip_w_58, ip_w_59, ip_w_60, ip_w_61, ip_w_62, ip_w_63, ip_w_64, ip_w_65, ip_w_66, ip_w_67, ip_w_68, ip_w_69, ip_w_70, ip_w_71, ip_w_72, ip_w_73, ip_w_74, ip_w_75, ip_w_76, ip_w_77, ip_w_78, ip_w_79, ip_w_80, ip_w_81, ip_w_82, ip_w_83, ip_w_84, ip_w_85, ip_w_86, ip_w_87, ip_w_88, ip_w_89, ip_w_90, ip_w_91, ip_w_92, ip_w_93, ip_w_94, ip_w_95, ip_w_96, ip_w_97, ip_w_98, ip_w_99, ip_w_100, ip_w_150, ip_w_m150, ip_w_200, ip_w_999, ip_w_m999, ip_w_1000, ip_w_m4096, ip_w_4096, ip_w_1023, ip_w_1075, ip_w_m1075, ip_w_2047, ip_w_9999, ip_w_120, ip_w_121, ip_w_153, ip_w_157, ip_w_641, ip_n_m3, ip_n_m2, ip_n_m1, ip_n_0, ip_n_1, ip_n_2, ip_n_3, ip_n_4, ip_n_5, ip_n_6, ip_n_7, ip_n_8, ip_n_9, hx', h0]
        refine hk 0 (by decide) (by decide)
      · simp (config := { maxSteps := 10000000, maxDischargeDepth := 30, decide := true }) only [w291_0, w291_1, w291_2, w291_3, w291_4, w291_5, w291_6, w291_7, w291_10, w291_11, w291_14, w291_15, w291_16, w291_17, w291_18, w291_19, ↓ip_kas, ↓ip_ki0, ↓ip_kl0, ↓ip_ka0, ↓ip_ki1, ↓ip_kl1, ↓ip_ka1, ↓ip_ki2, ↓ip_kl2, ↓ip_ka2, ↓ip_ki3, ↓ip_kl3, ↓ip_ka3, ↓ip_ki4, ↓ip_kl4, ↓ip_ka4, ↓ip_ki5, ↓ip_kl5, ↓ip_ka5, ↓ip_ki6, ↓ip_kl6, ↓ip_ki7, ↓ip_kl7, ↓ip_ki8, ↓ip_kl8, ↓ip_ki9, ↓ip_kl9, ↓ip_ki10, ↓ip_kl10, ↓ip_ki11, ↓ip_kl11, ↓ip_ki12, ↓ip_kl12, ↓ip_ki13, ↓ip_kl13, ↓ip_ki14, ↓ip_kl14, ↓ip_ki15, ↓ip_kl15, ↓ip_ki16, ↓ip_kl16, ↓ip_ki17, ↓ip_kl17, ↓ip_ki18, ↓ip_kl18, ↓ip_ki19, ↓ip_kl19, ↓ip_ki20, ↓ip_kl20, ↓ip_ki21, ↓ip_kl21, ↓ip_ki22, ↓ip_kl22, ↓ip_ki23, ↓ip_kl23, ↓ip_ki24, ↓ip_kl24, ↓ip_ki25, ↓ip_kl25, ↓ip_ki26, ↓ip_kl26, ↓ip_ki27, ↓ip_kl27, ↓ip_ki28, ↓ip_kl28, ↓ip_ki29, ↓ip_kl29, ↓ip_ki30, ↓ip_kl30, ↓ip_ki31, ↓ip_kl31, ↓ip_ki32, ↓ip_kl32, ↓ip_ki33, ↓ip_kl33, ↓ip_ki34, ↓ip_kl34, ↓ip_ki35, ↓ip_kl35, ↓ip_ki36, ↓ip_kl36, ↓ip_ki37, ↓ip_kl37, ↓ip_ki38, ↓ip_kl38, ↓ip_ki39, ↓ip_kl39, ↓ip_ki40, ↓ip_kl40, ↓ip_ki41, ↓ip_kl41, ↓ip_ki42, ↓ip_kl42, ↓ip_ki43, ↓ip_kl43, ↓ip_ki44, ↓ip_kl44, ↓ip_ki45, ↓ip_kl45, ↓ip_ki46, ↓ip_kl46, ↓ip_ki47, ↓ip_kl47, ↓ip_ki48, ↓ip_kl48, ↓ip_ki49, ↓ip_kl49, ↓ip_ki50, ↓ip_kl50, ↓ip_ki51, ↓ip_kl51, ip_get_0, ip_get_s, ip_ki_int, ip_kl_long, ip_ka_ref, ip_ka_scr, ip_set1, ip_set2, ip_clr_0, ip_clr_s, ip_cat_i, ip_cat_l, ip_cat_r, ip_cat_a, List.set_cons_zero, List.set_cons_succ, ip_uI_1, ip_uI_I, ip_uI_L, ip_uI_R, ip_uI_sh, ip_uL_1, ip_uL_I, ip_uL_L, ip_uL_R, ip_uL_sh, ip_vr_some, Option.toList_some, Option.toList_none, List.nil_append, List.cons_append, List.length_nil, List.length_cons, ↓reduceIte, Nat.reduceAdd, Nat.reduceLeDiff, Nat.reduceEqDiff, Nat.reduceLT, Nat.zero_add, Nat.zero_le, true_or, or_true, false_or, or_false, true_and, and_true, false_and, and_false, and_self, ne_eq, not_true_eq_false, not_false_eq_true, ip_sI_1, ip_sI_I, ip_sI_L, ip_sI_R, ip_sI_sh, ip_sL_1, ip_sL_I, ip_sL_L, ip_sL_R, ip_sL_sh, gG_uI, gG_uL, gG_cpI, gG_cpL, gG_sI, gG_sL, ip_b_t, ip_b_f, ip_b_0, ip_b_01, ip_b_1, Int32.reduceLT, Int32.reduceLE, Int32.reduceSub, Int32.reduceAdd, Int32.reduceMul, Int32.reduceToNatClampNeg, Int32.reduceToInt, Int64.reduceLT, Int64.reduceAdd, Int64.reduceMul, Int64.reduceSub, ip_ix_eq, ip_cmp_lt, ip_cmp_gt, ip_cmp_eq, ip_cpI_I, ip_cpI_L, ip_cpI_R, ip_cpI_sh, ip_cpL_I, ip_cpL_L, ip_cpL_R, ip_cpL_sh, Int64.reduceDiv, Int64.reduceLE, Int32.reduceDiv, Int32.reduceOfNat, List.getD_cons_zero, List.getD_cons_succ, Int.reduceSub, Int.reduceToNat, Int.reduceLT, ip_w_m12, ip_w_m11, ip_w_m10, ip_w_m9, ip_w_m8, ip_w_m7, ip_w_m6, ip_w_m5, ip_w_m4, ip_w_m3, ip_w_m2, ip_w_m1, ip_w_0, ip_w_1, ip_w_2, ip_w_3, ip_w_4, ip_w_5, ip_w_6, ip_w_7, ip_w_8, ip_w_9, ip_w_10, ip_w_11, ip_w_12, ip_w_13, ip_w_14, ip_w_15, ip_w_16, ip_w_17, ip_w_18, ip_w_19, ip_w_20, ip_w_21, ip_w_22, ip_w_23, ip_w_24, ip_w_25, ip_w_26, ip_w_27, ip_w_28, ip_w_29, ip_w_30, ip_w_31, ip_w_32, ip_w_33, ip_w_34, ip_w_35, ip_w_36, ip_w_37, ip_w_38, ip_w_39, ip_w_40, ip_w_41, ip_w_42, ip_w_43, ip_w_44, ip_w_45, ip_w_46, ip_w_47, ip_w_48, ip_w_49, ip_w_50, ip_w_51, ip_w_52, ip_w_53, ip_w_54, ip_w_55, ip_w_56, ip_w_57, ip_w_58, ip_w_59, ip_w_60, ip_w_61, ip_w_62, ip_w_63, ip_w_64, ip_w_65, ip_w_66, ip_w_67, ip_w_68, ip_w_69, ip_w_70, ip_w_71, ip_w_72, ip_w_73, ip_w_74, ip_w_75, ip_w_76, ip_w_77, ip_w_78, ip_w_79, ip_w_80, ip_w_81, ip_w_82, ip_w_83, ip_w_84, ip_w_85, ip_w_86, ip_w_87, ip_w_88, ip_w_89, ip_w_90, ip_w_91, ip_w_92, ip_w_93, ip_w_94, ip_w_95, ip_w_96, ip_w_97, ip_w_98, ip_w_99, ip_w_100, ip_w_150, ip_w_m150, ip_w_200, ip_w_999, ip_w_m999, ip_w_1000, ip_w_m4096, ip_w_4096, ip_w_1023, ip_w_1075, ip_w_m1075, ip_w_2047, ip_w_9999, ip_w_120, ip_w_121, ip_w_153, ip_w_157, ip_w_641, ip_n_m3, ip_n_m2, ip_n_m1, ip_n_0, ip_n_1, ip_n_2, ip_n_3, ip_n_4, ip_n_5, ip_n_6, ip_n_7, ip_n_8, ip_n_9, hx', h0]
        have hneg : p.toInt.tmod 8 < 0 := by
          have k2 : (-p.toInt).tmod 8 = -(p.toInt.tmod 8) := Int.neg_tmod _ _
          have k3 := Int.tmod_nonneg 8 (show 0 ≤ -p.toInt by omega)
          have k4 : p.toInt.tmod 8 ≠ 0 := by
            intro z
            apply h0
            apply Int32.toInt_inj.mp
            rw [hr, z]
            rfl
          omega
        have e9 : (p - p / 8 * 8 + 8).toInt = p.toInt.tmod 8 + 8 := by
          rw [ai_32_add, hr, show (8 : Int32).toInt = 8 from rfl]
          refine ai_bm_fit ?_ ?_
          · unfold ai_mn; simp only [Bool.false_eq_true, ↓reduceIte]; omega
          · unfold ai_mx; simp only [Bool.false_eq_true, ↓reduceIte]; omega
        exact hk _ (by omega) (by omega)
    · have hx' : ¬ p ^^^ 8 < 0 := fun z => hp (hx.mp z)
      have := Int.tmod_nonneg 8 (show 0 ≤ p.toInt by omega)
      simp (config := { maxSteps := 10000000, maxDischargeDepth := 30, decide := true }) only [w291_0, w291_1, w291_2, w291_3, w291_4, w291_5, w291_6, w291_7, w291_10, w291_11, w291_14, w291_15, w291_16, w291_17, w291_18, w291_19, ↓ip_kas, ↓ip_ki0, ↓ip_kl0, ↓ip_ka0, ↓ip_ki1, ↓ip_kl1, ↓ip_ka1, ↓ip_ki2, ↓ip_kl2, ↓ip_ka2, ↓ip_ki3, ↓ip_kl3, ↓ip_ka3, ↓ip_ki4, ↓ip_kl4, ↓ip_ka4, ↓ip_ki5, ↓ip_kl5, ↓ip_ka5, ↓ip_ki6, ↓ip_kl6, ↓ip_ki7, ↓ip_kl7, ↓ip_ki8, ↓ip_kl8, ↓ip_ki9, ↓ip_kl9, ↓ip_ki10, ↓ip_kl10, ↓ip_ki11, ↓ip_kl11, ↓ip_ki12, ↓ip_kl12, ↓ip_ki13, ↓ip_kl13, ↓ip_ki14, ↓ip_kl14, ↓ip_ki15, ↓ip_kl15, ↓ip_ki16, ↓ip_kl16, ↓ip_ki17, ↓ip_kl17, ↓ip_ki18, ↓ip_kl18, ↓ip_ki19, ↓ip_kl19, ↓ip_ki20, ↓ip_kl20, ↓ip_ki21, ↓ip_kl21, ↓ip_ki22, ↓ip_kl22, ↓ip_ki23, ↓ip_kl23, ↓ip_ki24, ↓ip_kl24, ↓ip_ki25, ↓ip_kl25, ↓ip_ki26, ↓ip_kl26, ↓ip_ki27, ↓ip_kl27, ↓ip_ki28, ↓ip_kl28, ↓ip_ki29, ↓ip_kl29, ↓ip_ki30, ↓ip_kl30, ↓ip_ki31, ↓ip_kl31, ↓ip_ki32, ↓ip_kl32, ↓ip_ki33, ↓ip_kl33, ↓ip_ki34, ↓ip_kl34, ↓ip_ki35, ↓ip_kl35, ↓ip_ki36, ↓ip_kl36, ↓ip_ki37, ↓ip_kl37, ↓ip_ki38, ↓ip_kl38, ↓ip_ki39, ↓ip_kl39, ↓ip_ki40, ↓ip_kl40, ↓ip_ki41, ↓ip_kl41, ↓ip_ki42, ↓ip_kl42, ↓ip_ki43, ↓ip_kl43, ↓ip_ki44, ↓ip_kl44, ↓ip_ki45, ↓ip_kl45, ↓ip_ki46, ↓ip_kl46, ↓ip_ki47, ↓ip_kl47, ↓ip_ki48, ↓ip_kl48, ↓ip_ki49, ↓ip_kl49, ↓ip_ki50, ↓ip_kl50, ↓ip_ki51, ↓ip_kl51, ip_get_0, ip_get_s, ip_ki_int, ip_kl_long, ip_ka_ref, ip_ka_scr, ip_set1, ip_set2, ip_clr_0, ip_clr_s, ip_cat_i, ip_cat_l, ip_cat_r, ip_cat_a, List.set_cons_zero, List.set_cons_succ, ip_uI_1, ip_uI_I, ip_uI_L, ip_uI_R, ip_uI_sh, ip_uL_1, ip_uL_I, ip_uL_L, ip_uL_R, ip_uL_sh, ip_vr_some, Option.toList_some, Option.toList_none, List.nil_append, List.cons_append, List.length_nil, List.length_cons, ↓reduceIte, Nat.reduceAdd, Nat.reduceLeDiff, Nat.reduceEqDiff, Nat.reduceLT, Nat.zero_add, Nat.zero_le, true_or, or_true, false_or, or_false, true_and, and_true, false_and, and_false, and_self, ne_eq, not_true_eq_false, not_false_eq_true, ip_sI_1, ip_sI_I, ip_sI_L, ip_sI_R, ip_sI_sh, ip_sL_1, ip_sL_I, ip_sL_L, ip_sL_R, ip_sL_sh, gG_uI, gG_uL, gG_cpI, gG_cpL, gG_sI, gG_sL, ip_b_t, ip_b_f, ip_b_0, ip_b_01, ip_b_1, Int32.reduceLT, Int32.reduceLE, Int32.reduceSub, Int32.reduceAdd, Int32.reduceMul, Int32.reduceToNatClampNeg, Int32.reduceToInt, Int64.reduceLT, Int64.reduceAdd, Int64.reduceMul, Int64.reduceSub, ip_ix_eq, ip_cmp_lt, ip_cmp_gt, ip_cmp_eq, ip_cpI_I, ip_cpI_L, ip_cpI_R, ip_cpI_sh, ip_cpL_I, ip_cpL_L, ip_cpL_R, ip_cpL_sh, Int64.reduceDiv, Int64.reduceLE, Int32.reduceDiv, Int32.reduceOfNat, List.getD_cons_zero, List.getD_cons_succ, Int.reduceSub, Int.reduceToNat, Int.reduceLT, ip_w_m12, ip_w_m11, ip_w_m10, ip_w_m9, ip_w_m8, ip_w_m7, ip_w_m6, ip_w_m5, ip_w_m4, ip_w_m3, ip_w_m2, ip_w_m1, ip_w_0, ip_w_1, ip_w_2, ip_w_3, ip_w_4, ip_w_5, ip_w_6, ip_w_7, ip_w_8, ip_w_9, ip_w_10, ip_w_11, ip_w_12, ip_w_13, ip_w_14, ip_w_15, ip_w_16, ip_w_17, ip_w_18, ip_w_19, ip_w_20, ip_w_21, ip_w_22, ip_w_23, ip_w_24, ip_w_25, ip_w_26, ip_w_27, ip_w_28, ip_w_29, ip_w_30, ip_w_31, ip_w_32, ip_w_33, ip_w_34, ip_w_35, ip_w_36, ip_w_37, ip_w_38, ip_w_39, ip_w_40, ip_w_41, ip_w_42, ip_w_43, ip_w_44, ip_w_45, ip_w_46, ip_w_47, ip_w_48, ip_w_49, ip_w_50, ip_w_51, ip_w_52, ip_w_53, ip_w_54, ip_w_55, ip_w_56, ip_w_57, ip_w_58, ip_w_59, ip_w_60, ip_w_61, ip_w_62, ip_w_63, ip_w_64, ip_w_65, ip_w_66, ip_w_67, ip_w_68, ip_w_69, ip_w_70, ip_w_71, ip_w_72, ip_w_73, ip_w_74, ip_w_75, ip_w_76, ip_w_77, ip_w_78, ip_w_79, ip_w_80, ip_w_81, ip_w_82, ip_w_83, ip_w_84, ip_w_85, ip_w_86, ip_w_87, ip_w_88, ip_w_89, ip_w_90, ip_w_91, ip_w_92, ip_w_93, ip_w_94, ip_w_95, ip_w_96, ip_w_97, ip_w_98, ip_w_99, ip_w_100, ip_w_150, ip_w_m150, ip_w_200, ip_w_999, ip_w_m999, ip_w_1000, ip_w_m4096, ip_w_4096, ip_w_1023, ip_w_1075, ip_w_m1075, ip_w_2047, ip_w_9999, ip_w_120, ip_w_121, ip_w_153, ip_w_157, ip_w_641, ip_n_m3, ip_n_m2, ip_n_m1, ip_n_0, ip_n_1, ip_n_2, ip_n_3, ip_n_4, ip_n_5, ip_n_6, ip_n_7, ip_n_8, ip_n_9, hx']
      exact hk _ (by omega) (by omega)
end
noncomputable section
-- PART 60.math
-- NUMBERS: norms as whole numbers, never 0 in a field, floors' bounds, common divisors
def zN (p q r a b c : Int) : Int := a * a * a + a * a * b * p + a * a * c * (p * p + 2 * q) - a * b * b * q + a * b * c * (-(p * q) - 3 * r) + a * c * c * (q * q - 2 * p * r) + r * (b * b * b + b * b * c * p - b * c * c * q + c * c * c * r)
def zT (p q _r a b c : Int) : Int := 3 * a + b * p + c * (p * p + 2 * q)
def zS (p q r a b c : Int) : Int := 3 * a * a + 2 * a * b * p + 2 * a * c * (p * p + 2 * q) - b * b * q + b * c * (-(p * q) - 3 * r) + c * c * (q * q - 2 * p * r)
def zD (p q r : Int) : Int := p * p * q * q + 4 * q * q * q - 4 * p * p * p * r - 27 * r * r - 18 * p * q * r
def z7 : List Int := [-3, -2, -1, 0, 1, 2, 3]
/-- a field can be told by p, q, r -/
def zF (p q r : Int) : Bool := decide (-3 ≤ p) && (decide (p ≤ 3) && (decide (-3 ≤ q) && (decide (q ≤ 3) && (decide (-3 ≤ r) && (decide (r ≤ 3) && (decide (zD p q r < 0) && z7.all fun x => decide (x * x * x ≠ p * x * x + q * x + r)))))))
/-- no norm is 0 by l but that of 0 -/
def zI (p q r : Int) (l : Nat) : Bool := (zN p q r 0 0 1 % l != 0) && (((List.range l).all fun c => zN p q r 0 1 c % l != 0) && (((List.range l).all fun b => (List.range l).all fun c => zN p q r 1 b c % l != 0) && ((List.range l).all fun a => a == 0 || (List.range l).any fun b => a * b % l == 1)))
set_option maxRecDepth 1000000 in
theorem zI_ok : (z7.all fun p => z7.all fun q => z7.all fun r => !zF p q r || [2, 3, 5, 7, 11, 17].any fun l => zI p q r l) = true := by decide +kernel
theorem z7m {x : Int} (h1 : -3 ≤ x) (h2 : x ≤ 3) : x ∈ z7 := by
  have h : x = -3 ∨ x = -2 ∨ x = -1 ∨ x = 0 ∨ x = 1 ∨ x = 2 ∨ x = 3 := by omega
  rcases h with h | h | h | h | h | h | h <;> rw [h] <;> decide
theorem zF_b {p q r : Int} (h : zF p q r = true) : (-3 ≤ p ∧ p ≤ 3) ∧ (-3 ≤ q ∧ q ≤ 3) ∧ (-3 ≤ r ∧ r ≤ 3) := by
  simp only [zF, Bool.and_eq_true, decide_eq_true_eq] at h
  omega
theorem zF_l {p q r : Int} (h : zF p q r = true) : ∃ l : Nat, 1 < l ∧ zI p q r l = true := by
  obtain ⟨⟨a1, a2⟩, ⟨b1, b2⟩, ⟨c1, c2⟩⟩ := zF_b h
  have h1 := List.all_eq_true.mp zI_ok p (z7m a1 a2)
  have h2 := List.all_eq_true.mp h1 q (z7m b1 b2)
  have h3 := List.all_eq_true.mp h2 r (z7m c1 c2)
  rw [h, Bool.not_true, Bool.false_or] at h3
  obtain ⟨l, hl, h4⟩ := List.any_eq_true.mp h3
  refine ⟨l, ?_, h4⟩
  simp only [List.mem_cons, List.not_mem_nil, or_false] at hl
  omega
/-- alike but for multiples of l -/
def zc (l a b : Int) : Prop := ∃ k, a = b + l * k
theorem zc_r (l a : Int) : zc l a a := ⟨0, by omega⟩
theorem zc_add {l a b c d : Int} (h : zc l a b) (g : zc l c d) : zc l (a + c) (b + d) := by
  obtain ⟨k, rfl⟩ := h
  obtain ⟨m, rfl⟩ := g
  exact ⟨k + m, by rw [Int.mul_add]; omega⟩
theorem zc_sub {l a b c d : Int} (h : zc l a b) (g : zc l c d) : zc l (a - c) (b - d) := by
  obtain ⟨k, rfl⟩ := h
  obtain ⟨m, rfl⟩ := g
  exact ⟨k - m, by rw [Int.mul_sub]; omega⟩
theorem zc_mul {l a b c d : Int} (h : zc l a b) (g : zc l c d) : zc l (a * c) (b * d) := by
  obtain ⟨k, rfl⟩ := h
  obtain ⟨m, rfl⟩ := g
  exact ⟨k * d + b * m + k * l * m, by grind⟩
theorem zc_mod (l a : Int) : zc l a (a % l) := ⟨a / l, (Int.emod_add_mul_ediv a l).symm⟩
theorem zc_0 {l a : Int} (h : zc l 0 a) : a % l = 0 := by
  obtain ⟨k, h⟩ := h
  have : a = l * (-k) := by rw [Int.mul_neg]; omega
  rw [this]
  exact Int.mul_emod_right l (-k)
theorem zN_c (p q r : Int) {l a b c a' b' c' : Int} (ha : zc l a a') (hb : zc l b b') (hc : zc l c c') : zc l (zN p q r a b c) (zN p q r a' b' c') := by
  unfold zN
  exact zc_add (zc_add (zc_add (zc_sub (zc_add (zc_add (zc_mul (zc_mul ha ha) ha) (zc_mul (zc_mul (zc_mul ha ha) hb) (zc_r l p))) (zc_mul (zc_mul (zc_mul ha ha) hc) (zc_r l _))) (zc_mul (zc_mul (zc_mul ha hb) hb) (zc_r l q))) (zc_mul (zc_mul (zc_mul ha hb) hc) (zc_r l _))) (zc_mul (zc_mul (zc_mul ha hc) hc) (zc_r l _))) (zc_mul (zc_r l r) (zc_add (zc_sub (zc_add (zc_mul (zc_mul hb hb) hb) (zc_mul (zc_mul (zc_mul hb hb) hc) (zc_r l p))) (zc_mul (zc_mul (zc_mul hb hc) hc) (zc_r l q))) (zc_mul (zc_mul (zc_mul hc hc) hc) (zc_r l r))))
theorem zN_s (p q r l a b c : Int) : zN p q r (l * a) (l * b) (l * c) = l * (l * (l * zN p q r a b c)) := by
  unfold zN
  grind
theorem zc_inv {l n y : Nat} (h : n * y % l = 1) : zc l ((y : Int) * n) 1 := ⟨((n * y / l : Nat) : Int), by
  have e := Nat.div_add_mod (n * y) l
  rw [h] at e
  have e : ((l * (n * y / l) + 1 : Nat) : Int) = ((n * y : Nat) : Int) := congrArg _ e
  rw [Int.natCast_add, Int.natCast_mul, Int.natCast_mul n y] at e
  rw [Int.mul_comm, ← e, Int.add_comm]
  rfl⟩
theorem zI_use {p q r : Int} {l : Nat} (h : zI p q r l = true) {a b c : Int} (hl : 1 < l) (h0 : zN p q r a b c = 0) : a % l = 0 ∧ b % l = 0 ∧ c % l = 0 := by
  have hp : (0 : Int) < l := by omega
  have key : ∀ x : Int, ((x % l).toNat : Int) = x % l ∧ (x % l).toNat < l := by
    intro x
    have h1 := Int.emod_nonneg x (show (l : Int) ≠ 0 by omega)
    have h2 := Int.emod_lt_of_pos x hp
    omega
  simp only [zI, Bool.and_eq_true, List.all_eq_true, List.mem_range, List.any_eq_true, Bool.or_eq_true, beq_iff_eq, bne_iff_ne, ne_eq] at h
  obtain ⟨g1, g2, g3, g4⟩ := h
  have inv : ∀ x : Int, ¬ x % l = 0 → ∃ y : Int, zc l (y * x) 1 := by
    intro x hx
    obtain ⟨k1, k2⟩ := key x
    rcases g4 (x % l).toNat k2 with e | ⟨y, _, hy⟩
    · exact absurd (by omega) hx
    · refine ⟨y, ?_⟩
      obtain ⟨k, hk⟩ := zc_inv hy
      rw [k1] at hk
      obtain ⟨m, hm⟩ := zc_mul (zc_r l (y : Int)) (zc_mod l x)
      exact ⟨k + m, by rw [hm, hk, Int.mul_add, Int.add_assoc]⟩
  have use : ∀ y a' b' c' : Int, zc l (y * a) a' → zc l (y * b) b' → zc l (y * c) c' → zN p q r a' b' c' % l = 0 := by
    intro y a' b' c' ha hb hc
    have hz := zN_c p q r ha hb hc
    rw [zN_s, h0, Int.mul_zero, Int.mul_zero, Int.mul_zero] at hz
    exact zc_0 hz
  have z0 : ∀ x y : Int, x % l = 0 → zc l (y * x) 0 := by
    intro x y hx
    have h := zc_mul (zc_r l y) (zc_mod l x)
    rw [hx, Int.mul_zero] at h
    exact h
  have ha : a % l = 0 := by
    by_cases ha : a % l = 0
    · exact ha
    · obtain ⟨y, hy⟩ := inv a ha
      have u := use y 1 ((y * b) % l) ((y * c) % l) hy (zc_mod l _) (zc_mod l _)
      obtain ⟨kb1, kb2⟩ := key (y * b)
      obtain ⟨kc1, kc2⟩ := key (y * c)
      have g := g3 _ kb2 _ kc2
      rw [kb1, kc1] at g
      exact absurd u g
  have hb : b % l = 0 := by
    by_cases hb : b % l = 0
    · exact hb
    · obtain ⟨y, hy⟩ := inv b hb
      have u := use y 0 1 ((y * c) % l) (z0 a y ha) hy (zc_mod l _)
      obtain ⟨kc1, kc2⟩ := key (y * c)
      have g := g2 _ kc2
      rw [kc1] at g
      exact absurd u g
  refine ⟨ha, hb, ?_⟩
  by_cases hc : c % l = 0
  · exact hc
  · obtain ⟨y, hy⟩ := inv c hc
    exact absurd (use y 0 0 1 (z0 a y ha) (z0 b y hb) hy) g1
theorem zN_0 {p q r : Int} (hF : zF p q r = true) : ∀ (n : Nat) (a b c : Int), a.natAbs + b.natAbs + c.natAbs < n → zN p q r a b c = 0 → a = 0 ∧ b = 0 ∧ c = 0 := by
  obtain ⟨l, hl, hI⟩ := zF_l hF
  intro n
  induction n with
  | zero => intro a b c h; omega
  | succ n ih =>
    intro a b c h h0
    obtain ⟨h1, h2, h3⟩ := zI_use hI hl h0
    have ea := Int.emod_add_mul_ediv a l
    have eb := Int.emod_add_mul_ediv b l
    have ec := Int.emod_add_mul_ediv c l
    rw [h1, Int.zero_add] at ea
    rw [h2, Int.zero_add] at eb
    rw [h3, Int.zero_add] at ec
    generalize a / (l : Int) = a' at ea
    generalize b / (l : Int) = b' at eb
    generalize c / (l : Int) = c' at ec
    subst ea eb ec
    rw [zN_s] at h0
    have hl0 : (l : Int) ≠ 0 := by omega
    have h0' : zN p q r a' b' c' = 0 := by
      rcases Int.mul_eq_zero.mp h0 with g | g
      · exact absurd g hl0
      · rcases Int.mul_eq_zero.mp g with g | g
        · exact absurd g hl0
        · rcases Int.mul_eq_zero.mp g with g | g
          · exact absurd g hl0
          · exact g
    by_cases hz : a'.natAbs + b'.natAbs + c'.natAbs = 0
    · have e1 : a' = 0 := by omega
      have e2 : b' = 0 := by omega
      have e3 : c' = 0 := by omega
      rw [e1, e2, e3, Int.mul_zero]
      exact ⟨rfl, rfl, rfl⟩
    · have hm : ∀ x : Int, (l * x).natAbs = l * x.natAbs := fun x => by rw [Int.natAbs_mul, Int.natAbs_natCast]
      rw [hm, hm, hm, ← Nat.mul_add, ← Nat.mul_add] at h
      have : 2 * (a'.natAbs + b'.natAbs + c'.natAbs) ≤ l * (a'.natAbs + b'.natAbs + c'.natAbs) := Nat.mul_le_mul_right _ hl
      obtain ⟨g1, g2, g3⟩ := ih a' b' c' (by omega) h0'
      rw [g1, g2, g3, Int.mul_zero]
      exact ⟨rfl, rfl, rfl⟩
theorem zN_ne {p q r a b c : Int} (hF : zF p q r = true) (h : ¬ (a = 0 ∧ b = 0 ∧ c = 0)) : zN p q r a b c ≠ 0 := fun h0 => h (zN_0 hF _ a b c (Nat.lt_succ_self _) h0)
-- products within bounds
theorem z_mb {x y A B : Int} (h1 : -A ≤ x) (h2 : x ≤ A) (h3 : -B ≤ y) (h4 : y ≤ B) : -(A * B) ≤ x * y ∧ x * y ≤ A * B := by
  have hA : (0 : Int) ≤ A := by omega
  have hB : (0 : Int) ≤ B := by omega
  have hx : x.natAbs ≤ A.toNat := by omega
  have hy : y.natAbs ≤ B.toNat := by omega
  have hm := Nat.mul_le_mul hx hy
  rw [← Int.natAbs_mul] at hm
  have e : ((A.toNat * B.toNat : Nat) : Int) = A * B := by rw [Int.natCast_mul, Int.toNat_of_nonneg hA, Int.toNat_of_nonneg hB]
  omega
/-- within -n .. n -/
def zb (n x : Int) : Prop := -n ≤ x ∧ x ≤ n
theorem zb_m {x y A B C : Int} (h : zb A x) (g : zb B y) (e : A * B ≤ C) : zb C (x * y) := by
  have := z_mb h.1 h.2 g.1 g.2
  unfold zb
  omega
theorem zb_a {x y A B C : Int} (h : zb A x) (g : zb B y) (e : A + B ≤ C) : zb C (x + y) := by unfold zb at *; omega
theorem zb_s {x y A B C : Int} (h : zb A x) (g : zb B y) (e : A + B ≤ C) : zb C (x - y) := by unfold zb at *; omega
theorem zb_n {x A : Int} (h : zb A x) : zb A (-x) := by unfold zb at *; omega
theorem zb_w {x A B : Int} (h : zb A x) (e : A ≤ B) : zb B x := by unfold zb at *; omega
theorem zb_c (n x : Int) (h : -n ≤ x) (g : x ≤ n) : zb n x := ⟨h, g⟩
theorem z_sq {p q : Int} (hp : zb 3 p) (hq : zb 3 q) : zb 15 (p * p + 2 * q) := zb_a (zb_m hp hp (Int.le_refl _)) (zb_m (zb_c 2 2 (by decide) (by decide)) hq (Int.le_refl _)) (by decide)
theorem z_mx {p q r : Int} (hp : zb 3 p) (hq : zb 3 q) (hr : zb 3 r) : zb 18 (-(p * q) - 3 * r) := zb_s (zb_n (zb_m hp hq (Int.le_refl _))) (zb_m (zb_c 3 3 (by decide) (by decide)) hr (Int.le_refl _)) (by decide)
theorem z_pr {p q r : Int} (hp : zb 3 p) (hq : zb 3 q) (hr : zb 3 r) : zb 27 (q * q - 2 * p * r) := zb_s (zb_m hq hq (Int.le_refl _)) (zb_m (zb_m (zb_c 2 2 (by decide) (by decide)) hp (Int.le_refl _)) hr (Int.le_refl _)) (by decide)
/-- the norm by powers of a -/
theorem zN_a (p q r a b c : Int) : zN p q r a b c = a * (a * (a + (b * p + c * (p * p + 2 * q))) + (b * b * (-q) + b * c * (-(p * q) - 3 * r) + c * c * (q * q - 2 * p * r))) + r * (b * b * b + b * b * c * p - b * c * c * q + c * c * c * r) := by
  unfold zN
  grind
theorem zN_parts {p q r b c : Int} (hp : zb 3 p) (hq : zb 3 q) (hr : zb 3 r) (hb : zb 150 b) (hc : zb 150 c) : zb 2700 (b * p + c * (p * p + 2 * q)) ∧ zb 1080000 (b * b * (-q) + b * c * (-(p * q) - 3 * r) + c * c * (q * q - 2 * p * r)) ∧ zb 101250000 (r * (b * b * b + b * b * c * p - b * c * c * q + c * c * c * r)) := by
  have bb : zb 22500 (b * b) := zb_m hb hb (by decide)
  have bc : zb 22500 (b * c) := zb_m hb hc (by decide)
  have cc : zb 22500 (c * c) := zb_m hc hc (by decide)
  refine ⟨zb_a (zb_m hb hp (Int.le_refl _)) (zb_m hc (z_sq hp hq) (Int.le_refl _)) (by decide), ?_, ?_⟩
  · exact zb_a (zb_a (zb_m bb (zb_n hq) (Int.le_refl _)) (zb_m bc (z_mx hp hq hr) (Int.le_refl _)) (Int.le_refl _)) (zb_m cc (z_pr hp hq hr) (Int.le_refl _)) (by decide)
  · refine zb_m hr (B := 33750000) (zb_a (zb_s (zb_a (zb_m bb hb (Int.le_refl _)) (zb_m (zb_m bb hc (Int.le_refl _)) hp (Int.le_refl _)) (Int.le_refl _)) (zb_m (zb_m bc hc (Int.le_refl _)) hq (Int.le_refl _)) (Int.le_refl _)) (zb_m (zb_m cc hc (Int.le_refl _)) hr (Int.le_refl _)) (by decide)) (by decide)
theorem zN_pos {p q r a b c : Int} (hp : zb 3 p) (hq : zb 3 q) (hr : zb 3 r) (hb : zb 150 b) (hc : zb 150 c) (ha : 4000 ≤ a) : 0 < zN p q r a b c := by
  obtain ⟨h1, h2, h3⟩ := zN_parts hp hq hr hb hc
  rw [zN_a]
  generalize b * p + c * (p * p + 2 * q) = T at h1
  generalize b * b * (-q) + b * c * (-(p * q) - 3 * r) + c * c * (q * q - 2 * p * r) = S at h2
  generalize r * (b * b * b + b * b * c * p - b * c * c * q + c * c * c * r) = N at h3
  unfold zb at *
  have g1 : 4000 * 1300 ≤ a * (a + T) := Int.mul_le_mul ha (by omega) (by decide) (by omega)
  have g2 : 4000 * 4000000 ≤ a * (a * (a + T) + S) := Int.mul_le_mul ha (by omega) (by decide) (by omega)
  omega
theorem zN_neg {p q r a b c : Int} (hp : zb 3 p) (hq : zb 3 q) (hr : zb 3 r) (hb : zb 150 b) (hc : zb 150 c) (ha : a ≤ -4000) : zN p q r a b c < 0 := by
  have e : zN p q r a b c = -zN p q r (-a) (-b) (-c) := by unfold zN; grind
  have := zN_pos hp hq hr (zb_n hb) (zb_n hc) (show 4000 ≤ -a by omega)
  omega
/-- a bound of a norm: a within 700000, b, c within 20000 when a is; few are wanted -/
theorem zN_bnd {p q r a b c A B : Int} (hp : zb 3 p) (hq : zb 3 q) (hr : zb 3 r) (ha : zb A a) (hb : zb B b) (hc : zb B c) (C : Int) (h : A * A * A + A * A * B * 18 + A * B * B * 48 + B * B * B * 30 ≤ C) (hA : 0 ≤ A) (hB : 0 ≤ B) : zb C (zN p q r a b c) := by
  have aa := zb_m ha ha (Int.le_refl _)
  have aaa := zb_m aa ha (Int.le_refl _)
  have aab := zb_m (zb_m aa hb (Int.le_refl _)) hp (Int.le_refl _)
  have aac := zb_m (zb_m aa hc (Int.le_refl _)) (z_sq hp hq) (Int.le_refl _)
  have abb := zb_m (zb_m (zb_m ha hb (Int.le_refl _)) hb (Int.le_refl _)) hq (Int.le_refl _)
  have abc := zb_m (zb_m (zb_m ha hb (Int.le_refl _)) hc (Int.le_refl _)) (z_mx hp hq hr) (Int.le_refl _)
  have acc := zb_m (zb_m (zb_m ha hc (Int.le_refl _)) hc (Int.le_refl _)) (z_pr hp hq hr) (Int.le_refl _)
  have bb := zb_m hb hb (Int.le_refl _)
  have bbb := zb_m bb hb (Int.le_refl _)
  have bbc := zb_m (zb_m bb hc (Int.le_refl _)) hp (Int.le_refl _)
  have bcc := zb_m (zb_m (zb_m hb hc (Int.le_refl _)) hc (Int.le_refl _)) hq (Int.le_refl _)
  have ccc := zb_m (zb_m (zb_m hc hc (Int.le_refl _)) hc (Int.le_refl _)) hr (Int.le_refl _)
  have rr : zb (3 * (B * B * B + B * B * B * 3 + B * B * B * 3 + B * B * B * 3)) (r * (b * b * b + b * b * c * p - b * c * c * q + c * c * c * r)) := zb_m hr (zb_a (zb_s (zb_a bbb bbc (Int.le_refl _)) bcc (Int.le_refl _)) ccc (Int.le_refl _)) (Int.le_refl _)
  unfold zN
  refine zb_w (zb_a (zb_a (zb_a (zb_s (zb_a (zb_a aaa aab (Int.le_refl _)) aac (Int.le_refl _)) abb (Int.le_refl _)) abc (Int.le_refl _)) acc (Int.le_refl _)) rr (Int.le_refl _)) ?_
  refine Int.le_trans (Int.le_of_eq ?_) h
  grind
-- longs of whole numbers
theorem z_t {z : Int} (h1 : -9223372036854775808 ≤ z) (h2 : z ≤ 9223372036854775807) : (Int64.ofInt z).toInt = z := Int64.toInt_ofInt_of_le (by omega) (by omega)
theorem z_tb {n z : Int} (h : zb n z) (hn : n ≤ 9223372036854775807) : (Int64.ofInt z).toInt = z := by unfold zb at h; exact z_t (by omega) (by omega)
theorem z_ne {n z : Int} (h : zb n z) (hn : n ≤ 9223372036854775807) (h0 : z ≠ 0) : ¬ Int64.ofInt z = 0 := by
  intro e
  have := congrArg Int64.toInt e
  rw [z_tb h hn] at this
  exact h0 this
theorem z_w (x : Int32) : x.toInt64 = Int64.ofInt x.toInt := (Int64.ofInt_int32ToInt x).symm
theorem z_div {a b : Int} (ha : zb 9223372036854775807 a) (hb : zb 9223372036854775807 b) : Int64.ofInt a / Int64.ofInt b = Int64.ofInt (a.tdiv b) := by
  apply Int64.toInt_inj.mp
  unfold zb at *
  by_cases h0 : b = 0
  · subst h0
    rw [Int.tdiv_zero]
    have e : Int64.ofInt (0 : Int) = 0 := rfl
    rw [e, Int64.div_zero]
  rw [Int64.toInt_div, z_t (by omega) (by omega), z_t (by omega) (by omega)]
  have h1 : (a.tdiv b).natAbs ≤ a.natAbs := by rw [Int.natAbs_tdiv]; exact Nat.div_le_self _ _
  rw [z_t (by omega) (by omega)]
  exact Int.bmod_eq_of_le_mul_two (by omega) (by omega)
theorem z_lt {a b : Int} (ha : zb 9223372036854775807 a) (hb : zb 9223372036854775807 b) : (Int64.ofInt a < Int64.ofInt b) = (a < b) := by
  unfold zb at *
  rw [Int64.lt_iff_toInt_lt, z_t (by omega) (by omega), z_t (by omega) (by omega)]
-- Euclid's turns
def l_ab (x : Int64) : Int64 := if x < 0 then -x else x
theorem l_rem (x y : Int64) : x - x / y * y = x % y := by
  apply Int64.toInt_inj.mp
  have h1 := Int64.le_toInt (x % y)
  have h2 := Int64.toInt_lt (x % y)
  rw [Int64.toInt_sub, Int64.toInt_mul, Int64.toInt_div, Int.bmod_mul_bmod, Int.sub_bmod_bmod, Int.mul_comm (x.toInt.tdiv y.toInt), ← Int.tmod_def, ← Int64.toInt_mod]
  exact Int.bmod_eq_of_le_mul_two (by omega) (by omega)
theorem l_remz {x y : Nat} (hx : x < 9223372036854775808) (hy : y < 9223372036854775808) : Int64.ofInt (x : Int) - Int64.ofInt (x : Int) / Int64.ofInt (y : Int) * Int64.ofInt (y : Int) = Int64.ofInt ((x % y : Nat) : Int) := by
  rw [l_rem]
  apply Int64.toInt_inj.mp
  have h3 : x % y ≤ x := Nat.mod_le x y
  rw [Int64.toInt_mod, z_t (by omega) (by omega), z_t (by omega) (by omega), z_t (by omega) (by omega), Int.tmod_eq_emod_of_nonneg (by omega), Int.natCast_emod]
theorem l_ab_z {x : Int} (h : zb 9223372036854775807 x) : l_ab (Int64.ofInt x) = Int64.ofInt (x.natAbs : Int) := by
  unfold l_ab
  have hz : (Int64.ofInt x < 0) = (x < 0) := z_lt (b := 0) h ⟨by decide, by decide⟩
  by_cases hx : x < 0
  · rw [if_pos (by rw [hz]; exact hx), ← Int64.ofInt_neg]
    congr 1
    omega
  · rw [if_neg (by rw [hz]; exact hx)]
    congr 1
    omega
end
noncomputable section
-- PART 61.ref1
-- THE REFERENCE'S RECKONING, as equations over whole numbers
theorem z_l1 : (1 : Int64) = Int64.ofInt 1 := rfl
theorem z_l2 : (2 : Int64) = Int64.ofInt 2 := rfl
theorem z_l3 : (3 : Int64) = Int64.ofInt 3 := rfl
theorem z_l0 : (0 : Int64) = Int64.ofInt 0 := rfl
def q3 (x : Int32) : Bool := decide (-3 ≤ x.toInt) && decide (x.toInt ≤ 3)
theorem q3_b {x : Int32} : (q3 x = true) = (-3 ≤ x.toInt ∧ x.toInt ≤ 3) := by unfold q3; rw [Bool.and_eq_true, decide_eq_true_eq, decide_eq_true_eq]
theorem z_wn {x : Int32} (h : q3 x = true) : (-x).toInt64 = Int64.ofInt (-x.toInt) := by
  rw [q3_b] at h
  rw [z_w, Int32.toInt_neg, Int.bmod_eq_of_le_mul_two (by omega) (by omega)]
def z_sg (z : Int) : Int32 := if 0 < Int64.ofInt z then 1 else if Int64.ofInt z < 0 then -1 else 0
def z_flo (p q r a b c d : Int) : Nat → Int32 → Int32 → Int32
  | 0, lo, _ => lo
  | n + 1, lo, hi => if z_sg (zN p q r (a - ((lo + hi) / 2).toInt * d) b c) < 0 then z_flo p q r a b c d n lo ((lo + hi) / 2) else z_flo p q r a b c d n ((lo + hi) / 2) hi
def z_fl (p q r a b c d : Int) : Int32 := z_flo p q r a b c d 13 (-4096) 4096
def ip_cq : Nat → Int32 → Int32 → Bool
  | 0, lo, hi => decide (¬ 1 < hi - lo)
  | n + 1, lo, hi => decide (1 < hi - lo) && (decide ((lo + hi) >>> (1 &&& 31) = (lo + hi) / 2) && (ip_cq n lo ((lo + hi) / 2) && ip_cq n ((lo + hi) / 2) hi))
theorem cq_sr (s : Int32) : (s >>> (1 &&& 31)).toInt = s.toInt / 2 := by
  show (BitVec.sshiftRight' s.toBitVec ((1 &&& 31 : Int32).toBitVec.smod 32)).toInt = _
  rw [show ((1 &&& 31 : Int32).toBitVec.smod 32) = 1#32 by decide]
  show (s.toBitVec.sshiftRight (1#32).toNat).toInt = _
  rw [BitVec.toInt_sshiftRight, Int.shiftRight_eq_div_pow]
  rfl
theorem cq_s (lo hi : Int32) (m : Int) (h : hi.toInt = lo.toInt + 2 * m) (hm : 0 < m) (h1 : -4096 ≤ lo.toInt) (h2 : hi.toInt ≤ 4096) : (1 < hi - lo) ∧ ((lo + hi) >>> (1 &&& 31) = (lo + hi) / 2) ∧ ((lo + hi) / 2).toInt = lo.toInt + m := by
  have d : (hi - lo).toInt = 2 * m := by
    rw [Int32.toInt_sub, Int.bmod_eq_of_le_mul_two (by omega) (by omega)]
    omega
  have s : (lo + hi).toInt = 2 * (lo.toInt + m) := by
    rw [Int32.toInt_add, Int.bmod_eq_of_le_mul_two (by omega) (by omega)]
    omega
  have e : ((lo + hi) / 2).toInt = lo.toInt + m := by
    rw [Int32.toInt_div, s, show (2 : Int32).toInt = 2 from rfl, Int.mul_tdiv_cancel_left _ (by decide)]
    exact Int.bmod_eq_of_le_mul_two (by omega) (by omega)
  refine ⟨?_, ?_, e⟩
  · rw [Int32.lt_iff_toInt_lt, d, show (1 : Int32).toInt = 1 from rfl]
    omega
  · apply Int32.toInt_inj.mp
    rw [cq_sr, e, s]
    omega
theorem cq_ok : ∀ (n : Nat) (lo hi : Int32), hi.toInt = lo.toInt + ((2 ^ n : Nat) : Int) → -4096 ≤ lo.toInt → hi.toInt ≤ 4096 → ip_cq n lo hi = true
  | 0, lo, hi, h, h1, h2 => by
    have h : hi.toInt = lo.toInt + 1 := h
    have d : (hi - lo).toInt = 1 := by
      rw [Int32.toInt_sub, Int.bmod_eq_of_le_mul_two (by omega) (by omega)]
      omega
    refine decide_eq_true (fun g => ?_)
    rw [Int32.lt_iff_toInt_lt, d] at g
    exact absurd g (by decide)
  | n + 1, lo, hi, h, h1, h2 => by
    have p : ((2 ^ (n + 1) : Nat) : Int) = 2 * ((2 ^ n : Nat) : Int) := by
      rw [Nat.pow_succ, Nat.mul_comm, Int.natCast_mul]
      rfl
    have q : (0 : Int) < ((2 ^ n : Nat) : Int) := by
      have := Nat.two_pow_pos n
      omega
    rw [p] at h
    generalize hm : ((2 ^ n : Nat) : Int) = m at h q
    obtain ⟨a, b, c⟩ := cq_s lo hi m h q h1 h2
    have e1 := cq_ok n lo ((lo + hi) / 2) (by rw [hm]; exact c) h1 (by omega)
    have e2 := cq_ok n ((lo + hi) / 2) hi (by rw [hm, c]; omega) (by omega) h2
    exact Bool.and_eq_true_iff.mpr ⟨decide_eq_true a, Bool.and_eq_true_iff.mpr ⟨decide_eq_true b, Bool.and_eq_true_iff.mpr ⟨e1, e2⟩⟩⟩
theorem ip_cq13 : ip_cq 13 (-4096) 4096 = true := cq_ok 13 _ _ (by decide) (by decide) (by decide)
def ip_kc (m : Int32) : Nat → Int32 → Bool
  | 0, k => decide (¬ k < m)
  | n + 1, k => decide (k < m) && ip_kc m n (k + 1)
-- the four numbers of the reference's result
def ip_x4 (M : ip_H) (a b c d : Int) : ip_H := ip_uL (ip_uL (ip_uL (ip_uL M 108 13 (Int64.ofInt a)) 108 14 (Int64.ofInt b)) 108 15 (Int64.ofInt c)) 108 16 (Int64.ofInt d)
theorem ip_x4_1 (M : ip_H) (a b c d : Int) : (ip_x4 M a b c d).1 = M.1 := rfl
theorem ip_x4_I (M : ip_H) (a b c d : Int) : (ip_x4 M a b c d).2.1 = M.2.1 := rfl
theorem ip_x4_R (M : ip_H) (a b c d : Int) : (ip_x4 M a b c d).2.2.2 = M.2.2.2 := rfl
theorem ip_x4_sh (M : ip_H) (a b c d : Int) (k : Nat) : ip_sh (ip_x4 M a b c d) k = ip_sh M k := rfl
theorem gG_x4 (M : ip_H) (a b c d : Int) (h : ip_G M) : ip_G (ip_x4 M a b c d) := gG_uL _ _ _ _ (gG_uL _ _ _ _ (gG_uL _ _ _ _ (gG_uL _ _ _ _ h)))
theorem ip_x4_L (M : ip_H) (a b c d : Int) (p q : Nat) : (ip_x4 M a b c d).2.2.1 p q = if p = 108 ∧ q = 16 then Int64.ofInt d else if p = 108 ∧ q = 15 then Int64.ofInt c else if p = 108 ∧ q = 14 then Int64.ofInt b else if p = 108 ∧ q = 13 then Int64.ofInt a else M.2.2.1 p q := by
  unfold ip_x4
  simp only [ip_uL_L]
theorem ip_x4_x4 (M : ip_H) (a b c d a' b' c' d' : Int) : ip_x4 (ip_x4 M a b c d) a' b' c' d' = ip_x4 M a' b' c' d' := by
  have e : (ip_x4 (ip_x4 M a b c d) a' b' c' d').2.2.1 = (ip_x4 M a' b' c' d').2.2.1 := by
    funext p q
    simp only [ip_x4_L]
    split
    · rfl
    split
    · rfl
    split
    · rfl
    split
    · rfl
    rfl
  exact Prod.ext rfl (Prod.ext rfl (Prod.ext e rfl))
/-- the common divisor of four, with the sign of the last -/
def zg (a b c d : Int) : Int := if d < 0 then -((Int.gcd (Int.gcd a b) (Int.gcd c d) : Nat) : Int) else (Int.gcd (Int.gcd a b) (Int.gcd c d) : Nat)
theorem zgg_dvd (a b c d : Int) : ((Int.gcd (Int.gcd a b) (Int.gcd c d) : Nat) : Int) ∣ a ∧ ((Int.gcd (Int.gcd a b) (Int.gcd c d) : Nat) : Int) ∣ b ∧ ((Int.gcd (Int.gcd a b) (Int.gcd c d) : Nat) : Int) ∣ c ∧ ((Int.gcd (Int.gcd a b) (Int.gcd c d) : Nat) : Int) ∣ d :=
  ⟨Int.dvd_trans (Int.gcd_dvd_left _ _) (Int.gcd_dvd_left _ _), Int.dvd_trans (Int.gcd_dvd_left _ _) (Int.gcd_dvd_right _ _), Int.dvd_trans (Int.gcd_dvd_right _ _) (Int.gcd_dvd_left _ _), Int.dvd_trans (Int.gcd_dvd_right _ _) (Int.gcd_dvd_right _ _)⟩
theorem zgg_pos {a b c d : Int} (hd : d ≠ 0) : 0 < Int.gcd (Int.gcd a b) (Int.gcd c d) := Int.gcd_pos_of_ne_zero_right _ (by have := Int.gcd_pos_of_ne_zero_right c hd; omega)
theorem zg_ne {a b c d : Int} (hd : d ≠ 0) : zg a b c d ≠ 0 := by
  have := zgg_pos (a := a) (b := b) (c := c) hd
  unfold zg
  split <;> omega
theorem zgg_le {a b c d : Int} (hd : d ≠ 0) : Int.gcd (Int.gcd a b) (Int.gcd c d) ≤ d.natAbs := by
  have h := (zgg_dvd a b c d).2.2.2
  exact Nat.le_of_dvd (by omega) (Int.ofNat_dvd_left.mp h)
theorem z_le_of_dvd {g : Nat} {x : Int} (h : (g : Int) ∣ x) (hx : x ≠ 0) : g ≤ x.natAbs := Nat.le_of_dvd (by omega) (Int.ofNat_dvd_left.mp h)
theorem zg_b {a b c d n : Int} (hd : d ≠ 0) (h : zb n d) : zb n (zg a b c d) := by
  have := zgg_le (a := a) (b := b) (c := c) hd
  unfold zg zb at *
  split <;> omega
theorem zgcd_b {x y n : Int} (hx : zb n x) (hy : zb n y) : zb n (Int.gcd x y : Nat) := by
  unfold zb at *
  by_cases h0 : x = 0
  · subst h0
    rw [Int.gcd_zero_left]
    omega
  · have := z_le_of_dvd (Int.gcd_dvd_left x y) h0
    omega
/-- a number by another that divides it: no greater, the same sign as d when by d's own divisor -/
theorem z_tdiv_b {x y n : Int} (h : zb n x) : zb n (x.tdiv y) := by
  have h1 : (x.tdiv y).natAbs ≤ x.natAbs := by rw [Int.natAbs_tdiv]; exact Nat.div_le_self _ _
  unfold zb at *
  omega
theorem zg_d {a b c d : Int} (hd : d ≠ 0) : 1 ≤ d.tdiv (zg a b c d) := by
  obtain ⟨k, hk⟩ := (zgg_dvd a b c d).2.2.2
  have hp := zgg_pos (a := a) (b := b) (c := c) hd
  unfold zg
  generalize Int.gcd (Int.gcd a b) (Int.gcd c d) = g at *
  have hg : (g : Int) ≠ 0 := by omega
  have key : ∀ z : Int, 0 < (g : Int) * z → 1 ≤ z := fun z h => by
    rcases Int.lt_or_le 0 z with q | q
    · omega
    · have := Int.mul_le_mul_of_nonneg_left q (show 0 ≤ (g : Int) by omega)
      omega
  split
  · rename_i h
    rw [Int.tdiv_neg, hk, Int.mul_tdiv_cancel_left _ hg]
    exact key (-k) (by rw [Int.mul_neg]; omega)
  · rw [hk, Int.mul_tdiv_cancel_left _ hg]
    exact key k (by omega)

set_option maxHeartbeats 40000000 in
set_option maxRecDepth 100000 in
theorem s_176 (X : ip_X) (M : ip_H) (K : Option Value → ip_H → Prop) (hG : ip_G M) : ip_wp X 176 0 [.ref 108] [] M K = K (some (.long (Int64.ofInt ((M.2.1 109 0).toInt)))) M := by
  simp (config := { maxSteps := 10000000, maxDischargeDepth := 30, decide := true }) only [w176_0, w176_1, w176_4, w176_5, w176_6, w176_7, ↓ip_ka0, ip_vr_some, Int32.reduceToNatClampNeg, ip_ix_eq, gS_108 hG, gS_109 hG, gR_108_1 hG, z_w]

set_option maxHeartbeats 40000000 in
set_option maxRecDepth 100000 in
theorem s_177 (X : ip_X) (M : ip_H) (K : Option Value → ip_H → Prop) (hG : ip_G M) (hq : q3 (M.2.1 109 1) = true) : ip_wp X 177 0 [.ref 108] [] M K = K (some (.long (Int64.ofInt (-(M.2.1 109 1).toInt)))) M := by
  simp (config := { maxSteps := 10000000, maxDischargeDepth := 30, decide := true }) only [w177_0, w177_1, w177_4, w177_5, w177_6, w177_7, w177_8, ↓ip_ka0, ip_vr_some, Int32.reduceToNatClampNeg, ip_ix_eq, gS_108 hG, gS_109 hG, gR_108_1 hG, z_wn hq]

set_option maxHeartbeats 40000000 in
set_option maxRecDepth 100000 in
theorem s_178 (X : ip_X) (M : ip_H) (K : Option Value → ip_H → Prop) (hG : ip_G M) : ip_wp X 178 0 [.ref 108] [] M K = K (some (.long (Int64.ofInt ((M.2.1 109 2).toInt)))) M := by
  simp (config := { maxSteps := 10000000, maxDischargeDepth := 30, decide := true }) only [w178_0, w178_1, w178_4, w178_5, w178_6, w178_7, ↓ip_ka0, ip_vr_some, Int32.reduceToNatClampNeg, ip_ix_eq, gS_108 hG, gS_109 hG, gR_108_1 hG, z_w]

set_option maxHeartbeats 40000000 in
set_option maxRecDepth 100000 in
theorem s_179 (X : ip_X) (M : ip_H) (K : Option Value → ip_H → Prop) (hG : ip_G M) (hq : q3 (M.2.1 109 1) = true) : ip_wp X 179 0 [.ref 108] [] M K = K (some (.long (Int64.ofInt ((M.2.1 109 0).toInt * (M.2.1 109 0).toInt + 2 * (M.2.1 109 1).toInt)))) M := by
  have key : ∀ n : Int, n = (M.2.1 109 0).toInt * (M.2.1 109 0).toInt + 2 * (M.2.1 109 1).toInt → K (some (.long (Int64.ofInt n))) M = K (some (.long (Int64.ofInt ((M.2.1 109 0).toInt * (M.2.1 109 0).toInt + 2 * (M.2.1 109 1).toInt)))) M := fun n h => by rw [h]
  simp (config := { maxSteps := 10000000, maxDischargeDepth := 30, decide := true }) only [w179_0, w179_1, w179_4, w179_5, w179_8, w179_9, w179_12, w179_13, w179_16, w179_17, w179_18, ↓ip_ka0, Option.toList_some, List.nil_append, List.cons_append, List.length_nil, List.length_cons, Nat.reduceAdd, Nat.reduceLeDiff, Nat.zero_add, Nat.zero_le, gS_108 hG, s_176, s_177, s_178, hG, hq, z_l2, ← Int64.ofInt_mul, ← Int64.ofInt_sub]
  exact key _ (by clear key; grind)

set_option maxHeartbeats 40000000 in
set_option maxRecDepth 100000 in
theorem s_180 (X : ip_X) (M : ip_H) (K : Option Value → ip_H → Prop) (hG : ip_G M) (hq : q3 (M.2.1 109 1) = true) : ip_wp X 180 0 [.ref 108] [] M K = K (some (.long (Int64.ofInt (-((M.2.1 109 0).toInt * (M.2.1 109 1).toInt) - 3 * (M.2.1 109 2).toInt)))) M := by
  have key : ∀ n : Int, n = -((M.2.1 109 0).toInt * (M.2.1 109 1).toInt) - 3 * (M.2.1 109 2).toInt → K (some (.long (Int64.ofInt n))) M = K (some (.long (Int64.ofInt (-((M.2.1 109 0).toInt * (M.2.1 109 1).toInt) - 3 * (M.2.1 109 2).toInt)))) M := fun n h => by rw [h]
  simp (config := { maxSteps := 10000000, maxDischargeDepth := 30, decide := true }) only [w180_0, w180_1, w180_4, w180_5, w180_8, w180_9, w180_12, w180_13, w180_16, w180_17, w180_18, ↓ip_ka0, Option.toList_some, List.nil_append, List.cons_append, List.length_nil, List.length_cons, Nat.reduceAdd, Nat.reduceLeDiff, Nat.zero_add, Nat.zero_le, gS_108 hG, s_176, s_177, s_178, s_179, hG, hq, z_l3, ← Int64.ofInt_mul, ← Int64.ofInt_sub]
  exact key _ (by clear key; grind)

set_option maxHeartbeats 40000000 in
set_option maxRecDepth 100000 in
theorem s_181 (X : ip_X) (M : ip_H) (K : Option Value → ip_H → Prop) (hG : ip_G M) (hq : q3 (M.2.1 109 1) = true) : ip_wp X 181 0 [.ref 108] [] M K = K (some (.long (Int64.ofInt ((M.2.1 109 1).toInt * (M.2.1 109 1).toInt - 2 * (M.2.1 109 0).toInt * (M.2.1 109 2).toInt)))) M := by
  have key : ∀ n : Int, n = (M.2.1 109 1).toInt * (M.2.1 109 1).toInt - 2 * (M.2.1 109 0).toInt * (M.2.1 109 2).toInt → K (some (.long (Int64.ofInt n))) M = K (some (.long (Int64.ofInt ((M.2.1 109 1).toInt * (M.2.1 109 1).toInt - 2 * (M.2.1 109 0).toInt * (M.2.1 109 2).toInt)))) M := fun n h => by rw [h]
  simp (config := { maxSteps := 10000000, maxDischargeDepth := 30, decide := true }) only [w181_0, w181_1, w181_4, w181_5, w181_8, w181_9, w181_12, w181_13, w181_16, w181_17, w181_18, w181_21, w181_22, w181_23, ↓ip_ka0, Option.toList_some, List.nil_append, List.cons_append, List.length_nil, List.length_cons, Nat.reduceAdd, Nat.reduceLeDiff, Nat.zero_add, Nat.zero_le, gS_108 hG, s_176, s_177, s_178, s_179, s_180, hG, hq, z_l2, ← Int64.ofInt_mul, ← Int64.ofInt_sub]
  exact key _ (by clear key; grind)

set_option maxHeartbeats 40000000 in
set_option maxRecDepth 100000 in
theorem s_182 (X : ip_X) (M : ip_H) (K : Option Value → ip_H → Prop) (a b c : Int) (hG : ip_G M) (hq : q3 (M.2.1 109 1) = true) : ip_wp X 182 0 [.ref 108, .long (Int64.ofInt a), .retAddr 1, .long (Int64.ofInt b), .retAddr 1, .long (Int64.ofInt c), .retAddr 1] [] M K = K (some (.long (Int64.ofInt (zT (M.2.1 109 0).toInt (M.2.1 109 1).toInt (M.2.1 109 2).toInt a b c)))) M := by
  have key : ∀ n : Int, n = zT (M.2.1 109 0).toInt (M.2.1 109 1).toInt (M.2.1 109 2).toInt a b c → K (some (.long (Int64.ofInt n))) M = K (some (.long (Int64.ofInt (zT (M.2.1 109 0).toInt (M.2.1 109 1).toInt (M.2.1 109 2).toInt a b c)))) M := fun n h => by rw [h]
  simp (config := { maxSteps := 10000000, maxDischargeDepth := 30, decide := true }) only [w182_0, w182_3, w182_4, w182_5, w182_6, w182_7, w182_10, w182_11, w182_12, w182_14, w182_15, w182_18, w182_19, w182_20, ↓ip_ka0, ↓ip_kl1, ↓ip_kl3, ↓ip_kl5, Option.toList_some, List.nil_append, List.cons_append, List.length_nil, List.length_cons, Nat.reduceAdd, Nat.reduceLeDiff, Nat.zero_add, gS_108 hG, s_176, s_177, s_178, s_179, s_180, s_181, hG, hq, z_l3, ← Int64.ofInt_mul, ← Int64.ofInt_add]
  exact key _ (by clear key; unfold zT; grind)

set_option maxHeartbeats 40000000 in
set_option maxRecDepth 100000 in
theorem s_183 (X : ip_X) (M : ip_H) (K : Option Value → ip_H → Prop) (a b c : Int) (hG : ip_G M) (hq : q3 (M.2.1 109 1) = true) : ip_wp X 183 0 [.ref 108, .long (Int64.ofInt a), .retAddr 1, .long (Int64.ofInt b), .retAddr 1, .long (Int64.ofInt c), .retAddr 1] [] M K = K (some (.long (Int64.ofInt (zS (M.2.1 109 0).toInt (M.2.1 109 1).toInt (M.2.1 109 2).toInt a b c)))) M := by
  have key : ∀ n : Int, n = zS (M.2.1 109 0).toInt (M.2.1 109 1).toInt (M.2.1 109 2).toInt a b c → K (some (.long (Int64.ofInt n))) M = K (some (.long (Int64.ofInt (zS (M.2.1 109 0).toInt (M.2.1 109 1).toInt (M.2.1 109 2).toInt a b c)))) M := fun n h => by rw [h]
  simp (config := { maxSteps := 10000000, maxDischargeDepth := 30, decide := true }) only [w183_0, w183_3, w183_4, w183_5, w183_6, w183_7, w183_10, w183_11, w183_12, w183_13, w183_14, w183_15, w183_18, w183_19, w183_20, w183_23, w183_24, w183_25, w183_27, w183_28, w183_29, w183_32, w183_33, w183_34, w183_35, w183_36, w183_37, w183_38, w183_41, w183_42, w183_43, w183_44, w183_46, w183_47, w183_48, w183_51, w183_52, w183_53, w183_55, w183_57, w183_58, w183_59, w183_62, w183_63, w183_64, ↓ip_ka0, ↓ip_kl1, ↓ip_kl3, ↓ip_kl5, Option.toList_some, List.nil_append, List.cons_append, List.length_nil, List.length_cons, Nat.reduceAdd, Nat.reduceLeDiff, Nat.zero_add, gS_108 hG, s_176, s_177, s_178, s_179, s_180, s_181, s_182, hG, hq, z_l2, z_l3, ← Int64.ofInt_mul, ← Int64.ofInt_add]
  exact key _ (by clear key; unfold zS; grind)

set_option maxHeartbeats 40000000 in
set_option maxRecDepth 100000 in
theorem s_184 (X : ip_X) (M : ip_H) (K : Option Value → ip_H → Prop) (a b c : Int) (hG : ip_G M) (hq : q3 (M.2.1 109 1) = true) : ip_wp X 184 0 [.ref 108, .long (Int64.ofInt a), .retAddr 1, .long (Int64.ofInt b), .retAddr 1, .long (Int64.ofInt c), .retAddr 1, .retAddr 1, .retAddr 1] [] M K = K (some (.long (Int64.ofInt (zN (M.2.1 109 0).toInt (M.2.1 109 1).toInt (M.2.1 109 2).toInt a b c)))) M := by
  have key : ∀ n : Int, n = zN (M.2.1 109 0).toInt (M.2.1 109 1).toInt (M.2.1 109 2).toInt a b c → K (some (.long (Int64.ofInt n))) M = K (some (.long (Int64.ofInt (zN (M.2.1 109 0).toInt (M.2.1 109 1).toInt (M.2.1 109 2).toInt a b c)))) M := fun n h => by rw [h]
  simp (config := { maxSteps := 10000000, maxDischargeDepth := 30, decide := true }) only [w184_0, w184_1, w184_2, w184_3, w184_4, w184_5, w184_6, w184_7, w184_8, w184_9, w184_10, w184_11, w184_14, w184_15, w184_16, w184_17, w184_18, w184_19, w184_21, w184_22, w184_23, w184_26, w184_27, w184_28, w184_29, w184_30, w184_31, w184_32, w184_33, w184_34, w184_37, w184_38, w184_39, w184_40, w184_41, w184_42, w184_44, w184_45, w184_46, w184_49, w184_50, w184_51, w184_52, w184_54, w184_55, w184_57, w184_58, w184_59, w184_62, w184_63, w184_64, w184_66, w184_68, w184_69, w184_72, w184_73, w184_74, w184_75, w184_76, w184_77, w184_78, w184_79, w184_80, w184_82, w184_83, w184_84, w184_87, w184_88, w184_89, w184_90, w184_92, w184_93, w184_95, w184_96, w184_97, w184_100, w184_101, w184_102, w184_104, w184_106, w184_107, w184_109, w184_110, w184_111, w184_114, w184_115, w184_116, w184_117, w184_118, ↓ip_ka0, ↓ip_kl1, ↓ip_kl3, ↓ip_kl5, ↓ip_kl7, ip_get_0, ip_get_s, ip_set2, ip_clr_s, ip_cat_a, List.set_cons_zero, List.set_cons_succ, Option.toList_some, List.nil_append, List.cons_append, List.length_nil, List.length_cons, ↓reduceIte, Nat.reduceAdd, Nat.reduceLeDiff, Nat.reduceEqDiff, Nat.zero_add, gS_108 hG, s_176, s_177, s_178, s_179, s_180, s_181, s_182, s_183, hG, hq, ← Int64.ofInt_mul, ← Int64.ofInt_add]
  exact key _ (by clear key; unfold zN; grind)

set_option maxHeartbeats 40000000 in
set_option maxRecDepth 100000 in
theorem s_185 (X : ip_X) (M : ip_H) (K : Option Value → ip_H → Prop) (a b c : Int) (hG : ip_G M) (hq : q3 (M.2.1 109 1) = true) : ip_wp X 185 0 [.ref 108, .long (Int64.ofInt a), .retAddr 1, .long (Int64.ofInt b), .retAddr 1, .long (Int64.ofInt c), .retAddr 1, .retAddr 1, .retAddr 1] [] M K = K (some (.int (z_sg (zN (M.2.1 109 0).toInt (M.2.1 109 1).toInt (M.2.1 109 2).toInt a b c)))) M := by
  unfold z_sg
  by_cases h1 : 0 < Int64.ofInt (zN (M.2.1 109 0).toInt (M.2.1 109 1).toInt (M.2.1 109 2).toInt a b c)
  · simp (config := { maxSteps := 10000000, maxDischargeDepth := 30, decide := true }) only [w185_0, w185_1, w185_2, w185_3, w185_5, w185_8, w185_10, w185_12, w185_13, w185_14, w185_17, w185_18, w185_21, w185_23, w185_24, w185_25, w185_28, w185_29, w185_32, w185_33, ↓ip_ka0, ↓ip_kl1, ↓ip_kl3, ↓ip_kl5, ↓ip_kl7, ip_get_0, ip_get_s, ip_set2, ip_clr_s, ip_cat_a, List.set_cons_zero, List.set_cons_succ, Option.toList_some, List.nil_append, List.cons_append, List.length_nil, ↓reduceIte, Nat.reduceAdd, Nat.reduceEqDiff, Nat.zero_le, ip_cmp_gt, gS_108 hG, s_184, hG, hq, h1]
  · by_cases h2 : Int64.ofInt (zN (M.2.1 109 0).toInt (M.2.1 109 1).toInt (M.2.1 109 2).toInt a b c) < 0
    · simp (config := { maxSteps := 10000000, maxDischargeDepth := 30, decide := true }) only [w185_0, w185_1, w185_2, w185_3, w185_5, w185_8, w185_10, w185_12, w185_13, w185_14, w185_17, w185_18, w185_21, w185_23, w185_24, w185_25, w185_28, w185_29, w185_32, w185_33, ↓ip_ka0, ↓ip_kl1, ↓ip_kl3, ↓ip_kl5, ↓ip_kl7, ip_get_0, ip_get_s, ip_set2, ip_clr_s, ip_cat_a, List.set_cons_zero, List.set_cons_succ, Option.toList_some, List.nil_append, List.cons_append, List.length_nil, ↓reduceIte, Nat.reduceAdd, Nat.reduceEqDiff, Nat.zero_le, ip_cmp_lt, ip_cmp_gt, gS_108 hG, s_184, hG, hq, h1, h2]
    · simp (config := { maxSteps := 10000000, maxDischargeDepth := 30, decide := true }) only [w185_0, w185_1, w185_2, w185_3, w185_5, w185_8, w185_10, w185_12, w185_13, w185_14, w185_17, w185_18, w185_21, w185_23, w185_24, w185_25, w185_28, w185_29, w185_32, w185_33, ↓ip_ka0, ↓ip_kl1, ↓ip_kl3, ↓ip_kl5, ↓ip_kl7, ip_get_0, ip_get_s, ip_set2, ip_clr_s, ip_cat_a, List.set_cons_zero, List.set_cons_succ, Option.toList_some, List.nil_append, List.cons_append, List.length_nil, ↓reduceIte, Nat.reduceAdd, Nat.reduceEqDiff, Nat.zero_le, ip_cmp_lt, ip_cmp_gt, gS_108 hG, s_184, hG, hq, h1, h2]

set_option maxHeartbeats 40000000 in
set_option maxRecDepth 100000 in
theorem s_186l (X : ip_X) (M : ip_H) (K : Option Value → ip_H → Prop) (a b c d : Int) (hG : ip_G M) (hq : q3 (M.2.1 109 1) = true) : ∀ (n : Nat) (lo hi : Int32) (w : Value), ip_cq n lo hi = true → ip_wp X 186 10 [.ref 108, .long (Int64.ofInt a), .retAddr 1, .long (Int64.ofInt b), .retAddr 1, .long (Int64.ofInt c), .retAddr 1, .long (Int64.ofInt d), .retAddr 1, .int lo, .int hi, w] [] M K = K (some (.int (z_flo (M.2.1 109 0).toInt (M.2.1 109 1).toInt (M.2.1 109 2).toInt a b c d n lo hi))) M := by
  intro n
  induction n with
  | zero =>
    intro lo hi w hc
    have hc' : ¬ 1 < hi - lo := by simpa only [ip_cq, decide_eq_true_eq] using hc
    simp (config := { maxSteps := 10000000, maxDischargeDepth := 30, decide := true }) only [w186_0, w186_3, w186_5, w186_8, w186_10, w186_12, w186_14, w186_15, w186_16, w186_19, w186_21, w186_23, w186_24, w186_25, w186_26, w186_28, w186_29, w186_30, w186_32, w186_33, w186_35, w186_36, w186_37, w186_38, w186_40, w186_43, w186_46, w186_48, w186_50, w186_53, w186_55, w186_57, w186_60, w186_62, ↓ip_ki9, ↓ip_ki10, ↓reduceIte, hc']
    rfl
  | succ n ih =>
    intro lo hi w hc
    simp only [ip_cq, Bool.and_eq_true, decide_eq_true_eq] at hc
    obtain ⟨hc1, hc2, hc3, hc4⟩ := hc
    rw [z_flo]
    simp (config := { maxSteps := 10000000, maxDischargeDepth := 30, decide := true }) only [w186_0, w186_3, w186_5, w186_8, w186_10, w186_12, w186_14, w186_15, w186_16, w186_19, w186_21, w186_23, w186_24, w186_25, w186_26, w186_28, w186_29, w186_30, w186_32, w186_33, w186_35, w186_36, w186_37, w186_38, w186_40, w186_43, w186_46, w186_48, w186_50, w186_53, w186_55, w186_60, w186_62, ↓ip_ka0, ↓ip_kl1, ↓ip_kl3, ↓ip_kl5, ↓ip_kl7, ↓ip_ki9, ↓ip_ki10, ↓ip_ki11, ip_get_0, ip_get_s, ip_set1, ip_clr_s, ip_cat_i, ip_cat_a, List.set_cons_zero, List.set_cons_succ, Option.toList_some, List.nil_append, List.cons_append, List.length_nil, ↓reduceIte, Nat.reduceEqDiff, Nat.zero_le, not_false_eq_true, gS_108 hG, hc1, s_185, hG, hq, z_w, ← Int64.ofInt_mul, ← Int64.ofInt_sub]
    split
    · rw [w186_57]; exact ih _ _ _ hc3
    · rw [w186_57]; exact ih _ _ _ hc4

set_option maxHeartbeats 40000000 in
set_option maxRecDepth 100000 in
theorem s_186 (X : ip_X) (M : ip_H) (K : Option Value → ip_H → Prop) (a b c d : Int) (hG : ip_G M) (hq : q3 (M.2.1 109 1) = true) : ip_wp X 186 0 [.ref 108, .long (Int64.ofInt a), .retAddr 1, .long (Int64.ofInt b), .retAddr 1, .long (Int64.ofInt c), .retAddr 1, .long (Int64.ofInt d), .retAddr 1, .retAddr 1, .retAddr 1, .retAddr 1] [] M K = K (some (.int (z_fl (M.2.1 109 0).toInt (M.2.1 109 1).toInt (M.2.1 109 2).toInt a b c d))) M := by
  simp (config := { maxSteps := 10000000, maxDischargeDepth := 30, decide := true }) only [w186_0, w186_3, w186_5, w186_8, ip_get_0, ip_get_s, ip_set1, ip_clr_s, ip_cat_i, ip_cat_a, List.set_cons_zero, List.set_cons_succ, ↓reduceIte, Nat.reduceEqDiff]
  exact s_186l X M K a b c d hG hq 13 _ _ _ ip_cq13

theorem z_i0 : Int64.ofInt ((0 : Nat) : Int) = 0 := rfl
set_option maxHeartbeats 40000000 in
set_option maxRecDepth 100000 in
theorem s_187l (X : ip_X) (M : ip_H) (K : Option Value → ip_H → Prop) (x0 y0 : Int64) : ∀ (n x y : Nat) (w w1 : Value), x < 9223372036854775808 → y < 9223372036854775808 → y < n → ip_wp X 187 28 [.long x0, .retAddr 1, .long y0, .retAddr 1, .long (Int64.ofInt (x : Int)), .retAddr 1, .long (Int64.ofInt (y : Int)), .retAddr 1, w, w1] [] M K = K (some (.long (Int64.ofInt (Nat.gcd x y : Nat)))) M := by
  intro n
  induction n with
  | zero => intro x y w w1 hx hy h; omega
  | succ n ih =>
    intro x y w w1 hx hy h
    by_cases h0 : y = 0
    · subst h0
      rw [Nat.gcd_zero_right]
      simp (config := { maxSteps := 10000000, maxDischargeDepth := 30, decide := true }) only [w187_0, w187_1, w187_2, w187_3, w187_6, w187_7, w187_8, w187_11, w187_12, w187_14, w187_15, w187_16, w187_17, w187_20, w187_21, w187_22, w187_25, w187_26, w187_28, w187_30, w187_31, w187_32, w187_35, w187_37, w187_39, w187_40, w187_42, w187_44, w187_46, w187_48, w187_50, w187_53, w187_55, ↓ip_kl4, ↓ip_kl6, ↓reduceIte, z_i0]
    · have y0 : ¬ Int64.ofInt (y : Int) = 0 := z_ne (n := 9223372036854775807) ⟨by omega, by omega⟩ (by decide) (by omega)
      have hr : x % y < y := Nat.mod_lt _ (by omega)
      rw [Nat.gcd_comm x y, Nat.gcd_rec y x, Nat.gcd_comm (x % y) y]
      simp (config := { maxSteps := 10000000, maxDischargeDepth := 30, decide := true }) only [w187_0, w187_1, w187_2, w187_3, w187_6, w187_7, w187_8, w187_11, w187_12, w187_14, w187_15, w187_16, w187_17, w187_20, w187_21, w187_22, w187_25, w187_26, w187_28, w187_30, w187_31, w187_32, w187_35, w187_37, w187_39, w187_40, w187_42, w187_44, w187_46, w187_48, w187_53, w187_55, ↓ip_kl4, ↓ip_kl6, ↓ip_kl8, ip_get_0, ip_get_s, ip_set2, ip_clr_s, ip_cat_a, List.set_cons_zero, List.set_cons_succ, ↓reduceIte, Nat.reduceAdd, Nat.reduceEqDiff, not_false_eq_true, ip_cmp_eq, y0]
      rw [w187_50, l_remz hx hy]
      exact ih _ _ _ _ hy (by omega) (by omega)

set_option maxHeartbeats 40000000 in
set_option maxRecDepth 100000 in
theorem s_187 (X : ip_X) (M : ip_H) (K : Option Value → ip_H → Prop) (x y : Int) (hx : zb 9223372036854775807 x) (hy : zb 9223372036854775807 y) : ip_wp X 187 0 [.long (Int64.ofInt x), .retAddr 1, .long (Int64.ofInt y), .retAddr 1, .retAddr 1, .retAddr 1, .retAddr 1, .retAddr 1, .retAddr 1, .retAddr 1] [] M K = K (some (.long (Int64.ofInt (Int.gcd x y : Nat)))) M := by
  have key : ip_wp X 187 28 [.long (Int64.ofInt x), .retAddr 1, .long (Int64.ofInt y), .retAddr 1, .long (l_ab (Int64.ofInt x)), .retAddr 1, .long (l_ab (Int64.ofInt y)), .retAddr 1, .retAddr 1, .retAddr 1] [] M K = K (some (.long (Int64.ofInt (Int.gcd x y : Nat)))) M := by
    rw [l_ab_z hx, l_ab_z hy]
    unfold zb at hx hy
    exact s_187l X M K _ _ _ _ _ _ _ (by omega) (by omega) (Nat.lt_succ_self _)
  unfold l_ab at key
  by_cases hx2 : Int64.ofInt x < 0 <;> by_cases hy2 : Int64.ofInt y < 0 <;> simp only [hx2, hy2, ↓reduceIte] at key <;> simp (config := { maxSteps := 10000000, maxDischargeDepth := 30, decide := true }) only [w187_0, w187_1, w187_2, w187_3, w187_6, w187_7, w187_8, w187_11, w187_12, w187_14, w187_15, w187_16, w187_17, w187_20, w187_21, w187_22, w187_25, w187_26, ↓ip_kl0, ↓ip_kl2, ip_get_0, ip_get_s, ip_set2, ip_clr_s, ip_cat_a, List.set_cons_zero, List.set_cons_succ, ↓reduceIte, Nat.reduceAdd, Nat.reduceEqDiff, ip_cmp_lt, hx2, hy2, key]

set_option maxHeartbeats 40000000 in
set_option maxRecDepth 100000 in
theorem s_188 (X : ip_X) (M : ip_H) (K : Option Value → ip_H → Prop) (a b c d : Int) (hG : ip_G M) (ha : zb 9223372036854775807 a) (hb : zb 9223372036854775807 b) (hc : zb 9223372036854775807 c) (hd : zb 9223372036854775807 d) (h0 : d ≠ 0) : ip_wp X 188 0 [.ref 108, .long (Int64.ofInt a), .retAddr 1, .long (Int64.ofInt b), .retAddr 1, .long (Int64.ofInt c), .retAddr 1, .long (Int64.ofInt d), .retAddr 1, .retAddr 1, .retAddr 1] [] M K = K none (ip_x4 M (a.tdiv (zg a b c d)) (b.tdiv (zg a b c d)) (c.tdiv (zg a b c d)) (d.tdiv (zg a b c d))) := by
  have h1 := zgcd_b ha hb
  have h2 := zgcd_b hc hd
  have h3 := zg_b (a := a) (b := b) (c := c) h0 hd
  have h4 := z_ne h3 (by decide) (zg_ne h0)
  unfold ip_x4
  rw [← z_div ha h3, ← z_div hb h3, ← z_div hc h3, ← z_div hd h3]
  have hz : (Int64.ofInt d < 0) = (d < 0) := by rw [z_l0]; exact z_lt hd ⟨by decide, by decide⟩
  unfold zg at h4 ⊢
  by_cases hn : d < 0
  · rw [if_pos hn] at h4 ⊢
    rw [Int64.ofInt_neg] at h4 ⊢
    simp (config := { maxSteps := 10000000, maxDischargeDepth := 30, decide := true }) only [w188_0, w188_1, w188_2, w188_5, w188_7, w188_9, w188_12, w188_15, w188_17, w188_19, w188_20, w188_21, w188_24, w188_26, w188_27, w188_29, w188_30, w188_31, w188_33, w188_34, w188_37, w188_38, w188_39, w188_41, w188_42, w188_45, w188_46, w188_48, w188_50, w188_51, w188_54, w188_55, w188_57, w188_59, w188_60, w188_63, ↓ip_ka0, ↓ip_kl1, ↓ip_kl3, ↓ip_kl5, ↓ip_kl7, ↓ip_kl9, ip_get_0, ip_get_s, ip_set2, ip_clr_s, ip_cat_a, List.set_cons_zero, List.set_cons_succ, ip_uL_sh, Option.toList_some, List.nil_append, List.cons_append, List.length_nil, List.length_cons, ↓reduceIte, Nat.reduceAdd, Nat.reduceLeDiff, Nat.reduceEqDiff, Nat.zero_add, Nat.zero_le, not_false_eq_true, ip_cmp_lt, gS_108 hG, s_187, ha, hb, hc, hd, h1, h2, hz, hn, h4]
  · rw [if_neg hn] at h4 ⊢
    simp (config := { maxSteps := 10000000, maxDischargeDepth := 30, decide := true }) only [w188_0, w188_1, w188_2, w188_5, w188_7, w188_9, w188_12, w188_15, w188_17, w188_19, w188_20, w188_21, w188_24, w188_26, w188_27, w188_29, w188_30, w188_31, w188_33, w188_34, w188_37, w188_38, w188_39, w188_41, w188_42, w188_45, w188_46, w188_48, w188_50, w188_51, w188_54, w188_55, w188_57, w188_59, w188_60, w188_63, ↓ip_ka0, ↓ip_kl1, ↓ip_kl3, ↓ip_kl5, ↓ip_kl7, ↓ip_kl9, ip_get_0, ip_get_s, ip_set2, ip_clr_s, ip_cat_a, List.set_cons_zero, List.set_cons_succ, ip_uL_sh, Option.toList_some, List.nil_append, List.cons_append, List.length_nil, List.length_cons, ↓reduceIte, Nat.reduceAdd, Nat.reduceLeDiff, Nat.reduceEqDiff, Nat.zero_add, Nat.zero_le, not_false_eq_true, ip_cmp_lt, gS_108 hG, s_187, ha, hb, hc, hd, h1, h2, hz, hn, h4]
end
noncomputable section
-- PART 62.ref2
-- PRODUCTS AND QUOTIENTS of the reference
def zA (p _q r a b c f g h : Int) : Int := a * f + (b * h + c * g) * r + c * h * p * r
def zB (p q r a b c f g h : Int) : Int := a * g + b * f + (b * h + c * g) * q + c * h * (p * q + r)
def zC (p q _r a b c f g h : Int) : Int := a * h + b * g + c * f + (b * h + c * g) * p + c * h * (p * p + q)
def zU (p q r f g h : Int) : Int := f * f + 2 * g * h * r + h * h * p * r - zT p q r f g h * f + zS p q r f g h
def zV (p q r f g h : Int) : Int := 2 * f * g + 2 * g * h * q + h * h * (p * q + r) - zT p q r f g h * g
def zW (p q r f g h : Int) : Int := 2 * f * h + g * g + 2 * g * h * p + h * h * (p * p + q) - zT p q r f g h * h
theorem zT_b {p q r a b c A B C : Int} (hp : zb 3 p) (hq : zb 3 q) (ha : zb A a) (hb : zb B b) (hc : zb B c) (h : 3 * A + B * 3 + B * 15 ≤ C) : zb C (zT p q r a b c) := by
  unfold zT
  exact zb_w (zb_a (zb_a (zb_m (zb_c 3 3 (by decide) (by decide)) ha (Int.le_refl _)) (zb_m hb hp (Int.le_refl _)) (Int.le_refl _)) (zb_m hc (z_sq hp hq) (Int.le_refl _)) (Int.le_refl _)) h
theorem zS_b {p q r a b c A B C : Int} (hp : zb 3 p) (hq : zb 3 q) (hr : zb 3 r) (ha : zb A a) (hb : zb B b) (hc : zb B c) (h : 3 * A * A + 2 * A * B * 3 + 2 * A * B * 15 + B * B * 3 + B * B * 18 + B * B * 27 ≤ C) : zb C (zS p q r a b c) := by
  unfold zS
  have t3 : zb 3 (3 : Int) := zb_c 3 3 (by decide) (by decide)
  have t2 : zb 2 (2 : Int) := zb_c 2 2 (by decide) (by decide)
  have le := fun {x : Int} => Int.le_refl x
  exact zb_w (zb_a (zb_a (zb_s (zb_a (zb_a (zb_m (zb_m t3 ha le) ha le) (zb_m (zb_m (zb_m t2 ha le) hb le) hp le) le) (zb_m (zb_m (zb_m t2 ha le) hc le) (z_sq hp hq) le) le) (zb_m (zb_m hb hb le) hq le) le) (zb_m (zb_m hb hc le) (z_mx hp hq hr) le) le) (zb_m (zb_m hc hc le) (z_pr hp hq hr) le) le) h
theorem z_pqr {p q r : Int} (hp : zb 3 p) (hq : zb 3 q) (hr : zb 3 r) : zb 12 (p * q + r) ∧ zb 12 (p * p + q) := ⟨zb_a (zb_m hp hq (Int.le_refl _)) hr (by decide), zb_a (zb_m hp hp (Int.le_refl _)) hq (by decide)⟩
theorem zU_b {p q r f g h : Int} (hp : zb 3 p) (hq : zb 3 q) (hr : zb 3 r) (hf : zb 20000 f) (hg : zb 200 g) (hh : zb 200 h) : zb 4000000000 (zU p q r f g h) := by
  have t2 : zb 2 (2 : Int) := zb_c 2 2 (by decide) (by decide)
  have le := fun {x : Int} => Int.le_refl x
  unfold zU
  exact zb_w (zb_a (zb_s (zb_a (zb_a (zb_m hf hf le) (zb_m (zb_m (zb_m t2 hg le) hh le) hr le) le) (zb_m (zb_m (zb_m hh hh le) hp le) hr le) le) (zb_m (zT_b (C := 63600) hp hq hf hg hh (by decide)) hf le) le) (zS_b (C := 1346000000) hp hq hr hf hg hh (by decide)) le) (by decide)
theorem zV_b {p q r f g h : Int} (hp : zb 3 p) (hq : zb 3 q) (hr : zb 3 r) (hf : zb 20000 f) (hg : zb 200 g) (hh : zb 200 h) : zb 30000000 (zV p q r f g h) := by
  have t2 : zb 2 (2 : Int) := zb_c 2 2 (by decide) (by decide)
  have le := fun {x : Int} => Int.le_refl x
  unfold zV
  exact zb_w (zb_s (zb_a (zb_a (zb_m (zb_m t2 hf le) hg le) (zb_m (zb_m (zb_m t2 hg le) hh le) hq le) le) (zb_m (zb_m hh hh le) (z_pqr hp hq hr).1 le) le) (zb_m (zT_b (C := 63600) hp hq hf hg hh (by decide)) hg le) le) (by decide)
theorem zW_b {p q r f g h : Int} (hp : zb 3 p) (hq : zb 3 q) (hr : zb 3 r) (hf : zb 20000 f) (hg : zb 200 g) (hh : zb 200 h) : zb 30000000 (zW p q r f g h) := by
  have t2 : zb 2 (2 : Int) := zb_c 2 2 (by decide) (by decide)
  have le := fun {x : Int} => Int.le_refl x
  unfold zW
  exact zb_w (zb_s (zb_a (zb_a (zb_a (zb_m (zb_m t2 hf le) hh le) (zb_m hg hg le) le) (zb_m (zb_m (zb_m t2 hg le) hh le) hp le) le) (zb_m (zb_m hh hh le) (z_pqr hp hq hr).2 le) le) (zb_m (zT_b (C := 63600) hp hq hf hg hh (by decide)) hh le) le) (by decide)
theorem zN_b {p q r f g h : Int} (hp : zb 3 p) (hq : zb 3 q) (hr : zb 3 r) (hf : zb 20000 f) (hg : zb 200 g) (hh : zb 200 h) : zb 10000000000000 (zN p q r f g h) := zN_bnd hp hq hr hf hg hh _ (by decide) (by decide) (by decide)
theorem zA_b {p q r a b c f g h : Int} (hp : zb 3 p) (hq : zb 3 q) (hr : zb 3 r) (ha : zb 20000 a) (hb : zb 200 b) (hc : zb 200 c) (hf : zb 4000000000 f) (hg : zb 30000000 g) (hh : zb 30000000 h) : zb 90000000000000 (zA p q r a b c f g h) := by
  have le := fun {x : Int} => Int.le_refl x
  unfold zA
  exact zb_w (zb_a (zb_a (zb_m ha hf le) (zb_m (zb_a (zb_m hb hh le) (zb_m hc hg le) le) hr le) le) (zb_m (zb_m (zb_m hc hh le) hp le) hr le) le) (by decide)
theorem zB_b {p q r a b c f g h : Int} (hp : zb 3 p) (hq : zb 3 q) (hr : zb 3 r) (ha : zb 20000 a) (hb : zb 200 b) (hc : zb 200 c) (hf : zb 4000000000 f) (hg : zb 30000000 g) (hh : zb 30000000 h) : zb 90000000000000 (zB p q r a b c f g h) := by
  have le := fun {x : Int} => Int.le_refl x
  unfold zB
  exact zb_w (zb_a (zb_a (zb_a (zb_m ha hg le) (zb_m hb hf le) le) (zb_m (zb_a (zb_m hb hh le) (zb_m hc hg le) le) hq le) le) (zb_m (zb_m hc hh le) (z_pqr hp hq hr).1 le) le) (by decide)
theorem zC_b {p q r a b c f g h : Int} (hp : zb 3 p) (hq : zb 3 q) (hr : zb 3 r) (ha : zb 20000 a) (hb : zb 200 b) (hc : zb 200 c) (hf : zb 4000000000 f) (hg : zb 30000000 g) (hh : zb 30000000 h) : zb 90000000000000 (zC p q r a b c f g h) := by
  have le := fun {x : Int} => Int.le_refl x
  unfold zC
  exact zb_w (zb_a (zb_a (zb_a (zb_a (zb_m ha hh le) (zb_m hb hg le) le) (zb_m hc hf le) le) (zb_m (zb_a (zb_m hb hh le) (zb_m hc hg le) le) hp le) le) (zb_m (zb_m hc hh le) (z_pqr hp hq hr).2 le) le) (by decide)
theorem zg_1 (a b c : Int) : zg a b c 1 = 1 := by
  have h1 := (zgg_dvd a b c 1).2.2.2
  have h2 := z_le_of_dvd h1 (by decide)
  have h3 := zgg_pos (a := a) (b := b) (c := c) (d := 1) (by decide)
  have e1 : (1 : Int).natAbs = 1 := rfl
  unfold zg
  rw [if_neg (by decide)]
  omega
/-- the quotient's numbers, ahead of lowest terms -/
def zQ (p q r a b c d f g h e : Int) : Int × Int × Int × Int :=
  let G := zg (zU p q r f g h) (zV p q r f g h) (zW p q r f g h) (zN p q r f g h)
  let k := (zU p q r f g h).tdiv G
  let l := (zV p q r f g h).tdiv G
  let m := (zW p q r f g h).tdiv G
  let x := (zN p q r f g h).tdiv G
  let y := e.tdiv (Int.gcd e x : Nat)
  (zA p q r a b c k l m * y, zB p q r a b c k l m * y, zC p q r a b c k l m * y, d * x.tdiv (Int.gcd e x : Nat))

set_option maxHeartbeats 40000000 in
set_option maxRecDepth 100000 in
theorem s_191 (X : ip_X) (M : ip_H) (K : Option Value → ip_H → Prop) (a b c f g h d : Int) (hG : ip_G M) (hA : zb 9223372036854775807 (zA (M.2.1 109 0).toInt (M.2.1 109 1).toInt (M.2.1 109 2).toInt a b c f g h)) (hB : zb 9223372036854775807 (zB (M.2.1 109 0).toInt (M.2.1 109 1).toInt (M.2.1 109 2).toInt a b c f g h)) (hC : zb 9223372036854775807 (zC (M.2.1 109 0).toInt (M.2.1 109 1).toInt (M.2.1 109 2).toInt a b c f g h)) (hd : zb 9223372036854775807 d) (h0 : d ≠ 0) : ip_wp X 191 0 [.ref 108, .long (Int64.ofInt a), .retAddr 1, .long (Int64.ofInt b), .retAddr 1, .long (Int64.ofInt c), .retAddr 1, .long (Int64.ofInt f), .retAddr 1, .long (Int64.ofInt g), .retAddr 1, .long (Int64.ofInt h), .retAddr 1, .long (Int64.ofInt d), .retAddr 1, .retAddr 1, .retAddr 1, .retAddr 1, .retAddr 1, .retAddr 1, .retAddr 1, .retAddr 1, .retAddr 1, .retAddr 1, .retAddr 1] [] M K = K none (ip_x4 M ((zA (M.2.1 109 0).toInt (M.2.1 109 1).toInt (M.2.1 109 2).toInt a b c f g h).tdiv (zg (zA (M.2.1 109 0).toInt (M.2.1 109 1).toInt (M.2.1 109 2).toInt a b c f g h) (zB (M.2.1 109 0).toInt (M.2.1 109 1).toInt (M.2.1 109 2).toInt a b c f g h) (zC (M.2.1 109 0).toInt (M.2.1 109 1).toInt (M.2.1 109 2).toInt a b c f g h) d)) ((zB (M.2.1 109 0).toInt (M.2.1 109 1).toInt (M.2.1 109 2).toInt a b c f g h).tdiv (zg (zA (M.2.1 109 0).toInt (M.2.1 109 1).toInt (M.2.1 109 2).toInt a b c f g h) (zB (M.2.1 109 0).toInt (M.2.1 109 1).toInt (M.2.1 109 2).toInt a b c f g h) (zC (M.2.1 109 0).toInt (M.2.1 109 1).toInt (M.2.1 109 2).toInt a b c f g h) d)) ((zC (M.2.1 109 0).toInt (M.2.1 109 1).toInt (M.2.1 109 2).toInt a b c f g h).tdiv (zg (zA (M.2.1 109 0).toInt (M.2.1 109 1).toInt (M.2.1 109 2).toInt a b c f g h) (zB (M.2.1 109 0).toInt (M.2.1 109 1).toInt (M.2.1 109 2).toInt a b c f g h) (zC (M.2.1 109 0).toInt (M.2.1 109 1).toInt (M.2.1 109 2).toInt a b c f g h) d)) (d.tdiv (zg (zA (M.2.1 109 0).toInt (M.2.1 109 1).toInt (M.2.1 109 2).toInt a b c f g h) (zB (M.2.1 109 0).toInt (M.2.1 109 1).toInt (M.2.1 109 2).toInt a b c f g h) (zC (M.2.1 109 0).toInt (M.2.1 109 1).toInt (M.2.1 109 2).toInt a b c f g h) d))) := by
  simp (config := { maxSteps := 10000000, maxDischargeDepth := 30, decide := true }) only [w191_0, w191_1, w191_3, w191_4, w191_6, w191_8, w191_9, w191_10, w191_12, w191_14, w191_16, w191_17, w191_19, w191_20, w191_23, w191_24, w191_25, w191_26, w191_28, w191_29, w191_32, w191_33, w191_34, w191_35, w191_37, w191_38, w191_41, w191_42, w191_43, w191_44, w191_46, w191_47, w191_48, w191_50, w191_51, w191_53, w191_55, w191_56, w191_57, w191_59, w191_61, w191_62, w191_64, w191_65, w191_66, w191_67, w191_69, w191_70, w191_71, w191_73, w191_74, w191_75, w191_77, w191_79, w191_80, w191_81, w191_83, w191_85, w191_87, w191_88, w191_90, w191_91, w191_92, w191_93, w191_94, w191_96, w191_97, w191_98, w191_100, w191_101, w191_102, w191_104, w191_106, w191_107, w191_108, w191_110, w191_112, w191_113, w191_114, w191_116, w191_118, w191_120, w191_121, w191_123, w191_124, w191_125, w191_126, w191_128, w191_131, ↓ip_ka0, ↓ip_kl1, ↓ip_kl3, ↓ip_kl5, ↓ip_kl7, ↓ip_kl9, ↓ip_kl11, ↓ip_kl13, ↓ip_kl15, ↓ip_kl17, ↓ip_kl19, ↓ip_kl21, ↓ip_kl23, ip_get_0, ip_get_s, ip_set2, ip_clr_s, ip_cat_a, List.set_cons_zero, List.set_cons_succ, ip_vr_some, List.length_nil, ↓reduceIte, Nat.reduceAdd, Nat.reduceEqDiff, Nat.zero_le, Int32.reduceToNatClampNeg, ip_ix_eq, gS_108 hG, gS_109 hG, gR_108_1 hG, z_w, ← Int64.ofInt_mul, ← Int64.ofInt_add]
  refine (s_188 X M _ _ _ _ _ hG hA hB hC hd h0).trans ?_
  simp (config := { maxSteps := 10000000, maxDischargeDepth := 30, decide := true }) only [w191_131, Option.toList_none, List.nil_append]

set_option maxHeartbeats 40000000 in
set_option maxRecDepth 100000 in
theorem s_193 (X : ip_X) (M : ip_H) (K : Option Value → ip_H → Prop) (b x : Int) (hG : ip_G M) (h : M.2.2.1 108 13 = Int64.ofInt x) : ip_wp X 193 0 [.ref 108, .long (Int64.ofInt b), .retAddr 1] [] M K = K (some (.long (Int64.ofInt (x * b)))) M := by
  simp (config := { maxSteps := 10000000, maxDischargeDepth := 30, decide := true }) only [w193_0, w193_1, w193_4, w193_5, w193_6, ↓ip_ka0, ↓ip_kl1, gS_108 hG, h, ← Int64.ofInt_mul]

set_option maxHeartbeats 40000000 in
set_option maxRecDepth 100000 in
theorem s_194 (X : ip_X) (M : ip_H) (K : Option Value → ip_H → Prop) (b x : Int) (hG : ip_G M) (h : M.2.2.1 108 14 = Int64.ofInt x) : ip_wp X 194 0 [.ref 108, .long (Int64.ofInt b), .retAddr 1] [] M K = K (some (.long (Int64.ofInt (x * b)))) M := by
  simp (config := { maxSteps := 10000000, maxDischargeDepth := 30, decide := true }) only [w194_0, w194_1, w194_4, w194_5, w194_6, ↓ip_ka0, ↓ip_kl1, gS_108 hG, h, ← Int64.ofInt_mul]

set_option maxHeartbeats 40000000 in
set_option maxRecDepth 100000 in
theorem s_195 (X : ip_X) (M : ip_H) (K : Option Value → ip_H → Prop) (b x : Int) (hG : ip_G M) (h : M.2.2.1 108 15 = Int64.ofInt x) : ip_wp X 195 0 [.ref 108, .long (Int64.ofInt b), .retAddr 1] [] M K = K (some (.long (Int64.ofInt (x * b)))) M := by
  simp (config := { maxSteps := 10000000, maxDischargeDepth := 30, decide := true }) only [w195_0, w195_1, w195_4, w195_5, w195_6, ↓ip_ka0, ↓ip_kl1, gS_108 hG, h, ← Int64.ofInt_mul]

set_option maxHeartbeats 40000000 in
set_option maxRecDepth 100000 in
theorem s_192b (X : ip_X) (M : ip_H) (K : Option Value → ip_H → Prop) (a b c d e k l m x : Int) (y9 y11 y13 y17 y19 y21 y23 y25 y27 y29 y31 y33 y35 y37 : Int64) (hG : ip_G M) (hp : zb 3 (M.2.1 109 0).toInt) (hq : zb 3 (M.2.1 109 1).toInt) (hr : zb 3 (M.2.1 109 2).toInt) (ha : zb 20000 a) (hb : zb 200 b) (hc : zb 200 c) (hd : 1 ≤ d ∧ d ≤ 150) (he : 1 ≤ e ∧ e ≤ 150) (hk : zb 4000000000 k) (hl : zb 30000000 l) (hm : zb 30000000 m) (hx : 1 ≤ x ∧ x ≤ 10000000000000) : ip_wp X 192 200 [.ref 108, .long (Int64.ofInt a), .retAddr 1, .long (Int64.ofInt b), .retAddr 1, .long (Int64.ofInt c), .retAddr 1, .long (Int64.ofInt d), .retAddr 1, .long y9, .retAddr 1, .long y11, .retAddr 1, .long y13, .retAddr 1, .long (Int64.ofInt e), .retAddr 1, .long y17, .retAddr 1, .long y19, .retAddr 1, .long y21, .retAddr 1, .long y23, .retAddr 1, .long y25, .retAddr 1, .long y27, .retAddr 1, .long y29, .retAddr 1, .long y31, .retAddr 1, .long y33, .retAddr 1, .long y35, .retAddr 1, .long y37, .retAddr 1, .retAddr 1, .retAddr 1, .retAddr 1, .retAddr 1, .retAddr 1, .retAddr 1, .retAddr 1, .retAddr 1, .retAddr 1, .retAddr 1] [] (ip_x4 M k l m x) K = K none (ip_x4 M (((zA (M.2.1 109 0).toInt (M.2.1 109 1).toInt (M.2.1 109 2).toInt a b c k l m) * e.tdiv (Int.gcd e x : Nat)).tdiv (zg ((zA (M.2.1 109 0).toInt (M.2.1 109 1).toInt (M.2.1 109 2).toInt a b c k l m) * e.tdiv (Int.gcd e x : Nat)) ((zB (M.2.1 109 0).toInt (M.2.1 109 1).toInt (M.2.1 109 2).toInt a b c k l m) * e.tdiv (Int.gcd e x : Nat)) ((zC (M.2.1 109 0).toInt (M.2.1 109 1).toInt (M.2.1 109 2).toInt a b c k l m) * e.tdiv (Int.gcd e x : Nat)) (d * x.tdiv (Int.gcd e x : Nat)))) (((zB (M.2.1 109 0).toInt (M.2.1 109 1).toInt (M.2.1 109 2).toInt a b c k l m) * e.tdiv (Int.gcd e x : Nat)).tdiv (zg ((zA (M.2.1 109 0).toInt (M.2.1 109 1).toInt (M.2.1 109 2).toInt a b c k l m) * e.tdiv (Int.gcd e x : Nat)) ((zB (M.2.1 109 0).toInt (M.2.1 109 1).toInt (M.2.1 109 2).toInt a b c k l m) * e.tdiv (Int.gcd e x : Nat)) ((zC (M.2.1 109 0).toInt (M.2.1 109 1).toInt (M.2.1 109 2).toInt a b c k l m) * e.tdiv (Int.gcd e x : Nat)) (d * x.tdiv (Int.gcd e x : Nat)))) (((zC (M.2.1 109 0).toInt (M.2.1 109 1).toInt (M.2.1 109 2).toInt a b c k l m) * e.tdiv (Int.gcd e x : Nat)).tdiv (zg ((zA (M.2.1 109 0).toInt (M.2.1 109 1).toInt (M.2.1 109 2).toInt a b c k l m) * e.tdiv (Int.gcd e x : Nat)) ((zB (M.2.1 109 0).toInt (M.2.1 109 1).toInt (M.2.1 109 2).toInt a b c k l m) * e.tdiv (Int.gcd e x : Nat)) ((zC (M.2.1 109 0).toInt (M.2.1 109 1).toInt (M.2.1 109 2).toInt a b c k l m) * e.tdiv (Int.gcd e x : Nat)) (d * x.tdiv (Int.gcd e x : Nat)))) ((d * x.tdiv (Int.gcd e x : Nat)).tdiv (zg ((zA (M.2.1 109 0).toInt (M.2.1 109 1).toInt (M.2.1 109 2).toInt a b c k l m) * e.tdiv (Int.gcd e x : Nat)) ((zB (M.2.1 109 0).toInt (M.2.1 109 1).toInt (M.2.1 109 2).toInt a b c k l m) * e.tdiv (Int.gcd e x : Nat)) ((zC (M.2.1 109 0).toInt (M.2.1 109 1).toInt (M.2.1 109 2).toInt a b c k l m) * e.tdiv (Int.gcd e x : Nat)) (d * x.tdiv (Int.gcd e x : Nat))))) := by
  have bA : zb 90000000000000 (zA (M.2.1 109 0).toInt (M.2.1 109 1).toInt (M.2.1 109 2).toInt a b c k l m) := zA_b hp hq hr ha hb hc hk hl hm
  have bB : zb 90000000000000 (zB (M.2.1 109 0).toInt (M.2.1 109 1).toInt (M.2.1 109 2).toInt a b c k l m) := zB_b hp hq hr ha hb hc hk hl hm
  have bC : zb 90000000000000 (zC (M.2.1 109 0).toInt (M.2.1 109 1).toInt (M.2.1 109 2).toInt a b c k l m) := zC_b hp hq hr ha hb hc hk hl hm
  have hG1 : ip_G (ip_x4 M k l m x) := gG_x4 _ _ _ _ _ hG
  simp (config := { maxSteps := 10000000, maxDischargeDepth := 30, decide := true }) only [w192_200, w192_201, w192_204, w192_206, w192_207, w192_210, w192_212, w192_213, w192_216, w192_218, w192_219, w192_222, w192_224, w192_225, w192_226, w192_227, w192_229, w192_231, w192_233, w192_235, w192_236, w192_239, ↓ip_ka0, ↓ip_kl1, ↓ip_kl3, ↓ip_kl5, ↓ip_kl15, ↓ip_kl39, ↓ip_kl41, ↓ip_kl43, ip_get_0, ip_get_s, ip_set2, ip_clr_s, ip_cat_a, List.set_cons_zero, List.set_cons_succ, List.length_nil, ↓reduceIte, Nat.reduceAdd, Nat.reduceEqDiff, Nat.zero_le, gS_108 hG, ip_x4_L, ip_x4_sh, z_l1]
  refine (s_191 X (ip_x4 M k l m x) _ a b c k l m 1 hG1 (zb_w bA (by decide)) (zb_w bB (by decide)) (zb_w bC (by decide)) (zb_c _ _ (by decide) (by decide)) (by decide)).trans ?_
  simp only [zg_1, Int.tdiv_one, ip_x4_x4, ip_x4_I]
  generalize (zA (M.2.1 109 0).toInt (M.2.1 109 1).toInt (M.2.1 109 2).toInt a b c k l m) = A at bA ⊢
  generalize (zB (M.2.1 109 0).toInt (M.2.1 109 1).toInt (M.2.1 109 2).toInt a b c k l m) = B at bB ⊢
  generalize (zC (M.2.1 109 0).toInt (M.2.1 109 1).toInt (M.2.1 109 2).toInt a b c k l m) = C at bC ⊢
  have he' : zb 150 e := ⟨by omega, by omega⟩
  have hx' : zb 10000000000000 x := ⟨by omega, by omega⟩
  have hd' : zb 150 d := ⟨by omega, by omega⟩
  have hgp : 0 < Int.gcd e x := Int.gcd_pos_of_ne_zero_left _ (by omega)
  have hgb : zb 150 (Int.gcd e x : Nat) := by
    have := z_le_of_dvd (Int.gcd_dvd_left e x) (by omega)
    unfold zb
    omega
  have hdx := Int.gcd_dvd_right e x
  have hx1 : 1 ≤ x.tdiv (Int.gcd e x : Nat) := by
    obtain ⟨t, ht⟩ := hdx
    have hg0 : ((Int.gcd e x : Nat) : Int) ≠ 0 := by omega
    generalize Int.gcd e x = G at *
    rw [ht, Int.mul_tdiv_cancel_left _ hg0]
    rcases Int.lt_or_le 0 t with w | w
    · omega
    · have := Int.mul_le_mul_of_nonneg_left w (show 0 ≤ (G : Int) by omega)
      omega
  have hy : zb 150 (e.tdiv (Int.gcd e x : Nat)) := z_tdiv_b he'
  have hz : zb 10000000000000 (x.tdiv (Int.gcd e x : Nat)) := z_tdiv_b hx'
  have hD : zb 1500000000000000 (d * x.tdiv (Int.gcd e x : Nat)) := zb_m hd' hz (by decide)
  have hD0 : d * x.tdiv (Int.gcd e x : Nat) ≠ 0 := by
    intro w
    rcases Int.mul_eq_zero.mp w with w | w <;> omega
  have hA' : zb 13500000000000000 (A * e.tdiv (Int.gcd e x : Nat)) := zb_m bA hy (by decide)
  have hB' : zb 13500000000000000 (B * e.tdiv (Int.gcd e x : Nat)) := zb_m bB hy (by decide)
  have hC' : zb 13500000000000000 (C * e.tdiv (Int.gcd e x : Nat)) := zb_m bC hy (by decide)
  have hn : ¬ Int64.ofInt ((Int.gcd e x : Nat) : Int) = 0 := z_ne hgb (by decide) (by omega)
  have e1 := z_div (zb_w he' (by decide)) (zb_w hgb (by decide))
  have e2 := z_div (zb_w hx' (by decide)) (zb_w hgb (by decide))
  have he2 : zb 9223372036854775807 e := zb_w he' (by decide)
  have hx2 : zb 9223372036854775807 x := zb_w hx' (by decide)
  have hG2 : ip_G (ip_x4 M A B C 1) := gG_x4 _ _ _ _ _ hG
  have r1 : (ip_x4 M A B C 1).2.2.1 108 13 = Int64.ofInt A := by rw [ip_x4_L]; rfl
  have r2 : (ip_x4 M A B C 1).2.2.1 108 14 = Int64.ofInt B := by rw [ip_x4_L]; rfl
  have r3 : (ip_x4 M A B C 1).2.2.1 108 15 = Int64.ofInt C := by rw [ip_x4_L]; rfl
  have gS : ip_sh (ip_x4 M A B C 1) 108 = (0, 11, 48) := gS_108 hG
  simp (config := { maxSteps := 10000000, maxDischargeDepth := 30, decide := true }) only [w192_239, w192_241, w192_243, w192_246, w192_248, w192_249, w192_250, w192_252, w192_254, w192_255, w192_258, w192_259, w192_261, w192_263, w192_264, w192_267, w192_268, w192_270, w192_272, w192_273, w192_276, w192_278, w192_280, w192_282, w192_283, w192_284, ↓ip_ka0, ↓ip_kl7, ↓ip_kl15, ↓ip_kl45, ↓ip_kl47, ip_get_0, ip_get_s, ip_set2, ip_clr_s, ip_cat_a, List.set_cons_zero, List.set_cons_succ, Option.toList_some, Option.toList_none, List.nil_append, List.cons_append, List.length_nil, List.length_cons, ↓reduceIte, Nat.reduceAdd, Nat.reduceLeDiff, Nat.reduceEqDiff, Nat.zero_add, Nat.zero_le, not_false_eq_true, gS, hG2, s_187, he2, hx2, hn, e1, e2, s_193 _ _ _ _ A, s_194 _ _ _ _ B, s_195 _ _ _ _ C, r1, r2, r3, ← Int64.ofInt_mul]
  refine (s_188 X (ip_x4 M A B C 1) _ _ _ _ _ hG2 (zb_w hA' (by decide)) (zb_w hB' (by decide)) (zb_w hC' (by decide)) (zb_w hD (by decide)) hD0).trans ?_
  simp only [ip_x4_x4]
  simp (config := { maxSteps := 10000000, maxDischargeDepth := 30, decide := true }) only [w192_287, Option.toList_none, List.nil_append]

set_option maxHeartbeats 40000000 in
set_option maxRecDepth 100000 in
theorem s_192 (X : ip_X) (M : ip_H) (K : Option Value → ip_H → Prop) (a b c d f g h e : Int) (hG : ip_G M) (hF : zF (M.2.1 109 0).toInt (M.2.1 109 1).toInt (M.2.1 109 2).toInt = true) (ha : zb 20000 a) (hb : zb 200 b) (hc : zb 200 c) (hd : 1 ≤ d ∧ d ≤ 150) (he : 1 ≤ e ∧ e ≤ 150) (hf : zb 20000 f) (hg : zb 200 g) (hh : zb 200 h) (h0 : ¬ (f = 0 ∧ g = 0 ∧ h = 0)) : ip_wp X 192 0 [.ref 108, .long (Int64.ofInt a), .retAddr 1, .long (Int64.ofInt b), .retAddr 1, .long (Int64.ofInt c), .retAddr 1, .long (Int64.ofInt d), .retAddr 1, .long (Int64.ofInt f), .retAddr 1, .long (Int64.ofInt g), .retAddr 1, .long (Int64.ofInt h), .retAddr 1, .long (Int64.ofInt e), .retAddr 1, .retAddr 1, .retAddr 1, .retAddr 1, .retAddr 1, .retAddr 1, .retAddr 1, .retAddr 1, .retAddr 1, .retAddr 1, .retAddr 1, .retAddr 1, .retAddr 1, .retAddr 1, .retAddr 1, .retAddr 1, .retAddr 1, .retAddr 1, .retAddr 1, .retAddr 1, .retAddr 1, .retAddr 1, .retAddr 1, .retAddr 1, .retAddr 1, .retAddr 1, .retAddr 1, .retAddr 1, .retAddr 1, .retAddr 1, .retAddr 1, .retAddr 1, .retAddr 1] [] M K = K none (ip_x4 M ((zQ (M.2.1 109 0).toInt (M.2.1 109 1).toInt (M.2.1 109 2).toInt a b c d f g h e).1.tdiv (zg (zQ (M.2.1 109 0).toInt (M.2.1 109 1).toInt (M.2.1 109 2).toInt a b c d f g h e).1 (zQ (M.2.1 109 0).toInt (M.2.1 109 1).toInt (M.2.1 109 2).toInt a b c d f g h e).2.1 (zQ (M.2.1 109 0).toInt (M.2.1 109 1).toInt (M.2.1 109 2).toInt a b c d f g h e).2.2.1 (zQ (M.2.1 109 0).toInt (M.2.1 109 1).toInt (M.2.1 109 2).toInt a b c d f g h e).2.2.2)) ((zQ (M.2.1 109 0).toInt (M.2.1 109 1).toInt (M.2.1 109 2).toInt a b c d f g h e).2.1.tdiv (zg (zQ (M.2.1 109 0).toInt (M.2.1 109 1).toInt (M.2.1 109 2).toInt a b c d f g h e).1 (zQ (M.2.1 109 0).toInt (M.2.1 109 1).toInt (M.2.1 109 2).toInt a b c d f g h e).2.1 (zQ (M.2.1 109 0).toInt (M.2.1 109 1).toInt (M.2.1 109 2).toInt a b c d f g h e).2.2.1 (zQ (M.2.1 109 0).toInt (M.2.1 109 1).toInt (M.2.1 109 2).toInt a b c d f g h e).2.2.2)) ((zQ (M.2.1 109 0).toInt (M.2.1 109 1).toInt (M.2.1 109 2).toInt a b c d f g h e).2.2.1.tdiv (zg (zQ (M.2.1 109 0).toInt (M.2.1 109 1).toInt (M.2.1 109 2).toInt a b c d f g h e).1 (zQ (M.2.1 109 0).toInt (M.2.1 109 1).toInt (M.2.1 109 2).toInt a b c d f g h e).2.1 (zQ (M.2.1 109 0).toInt (M.2.1 109 1).toInt (M.2.1 109 2).toInt a b c d f g h e).2.2.1 (zQ (M.2.1 109 0).toInt (M.2.1 109 1).toInt (M.2.1 109 2).toInt a b c d f g h e).2.2.2)) ((zQ (M.2.1 109 0).toInt (M.2.1 109 1).toInt (M.2.1 109 2).toInt a b c d f g h e).2.2.2.tdiv (zg (zQ (M.2.1 109 0).toInt (M.2.1 109 1).toInt (M.2.1 109 2).toInt a b c d f g h e).1 (zQ (M.2.1 109 0).toInt (M.2.1 109 1).toInt (M.2.1 109 2).toInt a b c d f g h e).2.1 (zQ (M.2.1 109 0).toInt (M.2.1 109 1).toInt (M.2.1 109 2).toInt a b c d f g h e).2.2.1 (zQ (M.2.1 109 0).toInt (M.2.1 109 1).toInt (M.2.1 109 2).toInt a b c d f g h e).2.2.2))) := by
  obtain ⟨hp, hq, hr⟩ := zF_b hF
  have hN0 := zN_ne hF h0
  have bU := zU_b hp hq hr hf hg hh
  have bV := zV_b hp hq hr hf hg hh
  have bW := zW_b hp hq hr hf hg hh
  have bN := zN_b hp hq hr hf hg hh
  have hx1 := zg_d (a := (zU (M.2.1 109 0).toInt (M.2.1 109 1).toInt (M.2.1 109 2).toInt f g h)) (b := (zV (M.2.1 109 0).toInt (M.2.1 109 1).toInt (M.2.1 109 2).toInt f g h)) (c := (zW (M.2.1 109 0).toInt (M.2.1 109 1).toInt (M.2.1 109 2).toInt f g h)) hN0
  have hx2 := z_tdiv_b (y := zg (zU (M.2.1 109 0).toInt (M.2.1 109 1).toInt (M.2.1 109 2).toInt f g h) (zV (M.2.1 109 0).toInt (M.2.1 109 1).toInt (M.2.1 109 2).toInt f g h) (zW (M.2.1 109 0).toInt (M.2.1 109 1).toInt (M.2.1 109 2).toInt f g h) (zN (M.2.1 109 0).toInt (M.2.1 109 1).toInt (M.2.1 109 2).toInt f g h)) bN
  have hq' : q3 (M.2.1 109 1) = true := by rw [q3_b]; exact hq
  simp (config := { maxSteps := 10000000, maxDischargeDepth := 30, decide := true }) only [w192_0, w192_1, w192_3, w192_5, w192_7, w192_10, w192_12, w192_13, w192_15, w192_17, w192_19, w192_22, w192_24, w192_25, w192_27, w192_29, w192_31, w192_34, w192_36, w192_39, w192_41, w192_42, w192_44, w192_45, w192_47, w192_49, w192_51, w192_52, w192_54, w192_55, w192_58, w192_59, w192_60, w192_61, w192_63, w192_64, w192_67, w192_68, w192_69, w192_70, w192_72, w192_73, w192_76, w192_77, w192_78, w192_79, w192_81, w192_83, w192_85, w192_86, w192_88, w192_90, w192_91, w192_92, w192_94, w192_96, w192_97, w192_99, w192_100, w192_101, w192_103, w192_105, w192_106, w192_107, w192_109, w192_110, w192_112, w192_115, w192_117, w192_118, w192_120, w192_121, w192_123, w192_125, w192_126, w192_127, w192_129, w192_131, w192_133, w192_134, w192_136, w192_137, w192_138, w192_139, w192_141, w192_143, w192_144, w192_145, w192_147, w192_150, w192_152, w192_153, w192_155, w192_156, w192_158, w192_160, w192_161, w192_162, w192_164, w192_166, w192_167, w192_168, w192_170, w192_172, w192_174, w192_175, w192_177, w192_178, w192_179, w192_180, w192_182, w192_184, w192_185, w192_186, w192_188, w192_189, w192_191, w192_193, w192_195, w192_197, ↓ip_ka0, ↓ip_kl9, ↓ip_kl11, ↓ip_kl13, ↓ip_kl17, ↓ip_kl19, ↓ip_kl21, ↓ip_kl23, ↓ip_kl25, ↓ip_kl27, ↓ip_kl29, ↓ip_kl31, ↓ip_kl33, ↓ip_kl35, ↓ip_kl37, ip_get_0, ip_get_s, ip_set2, ip_clr_s, ip_cat_a, List.set_cons_zero, List.set_cons_succ, ip_vr_some, Option.toList_some, List.nil_append, List.cons_append, List.length_nil, ↓reduceIte, Nat.reduceAdd, Nat.reduceEqDiff, Nat.zero_le, Int32.reduceToNatClampNeg, ip_ix_eq, gS_108 hG, gS_109 hG, gR_108_1 hG, s_182, s_183, s_184, hG, hq', z_w, z_l2, ← Int64.ofInt_mul, ← Int64.ofInt_add, ← Int64.ofInt_sub]
  refine (s_188 X M _ (zU (M.2.1 109 0).toInt (M.2.1 109 1).toInt (M.2.1 109 2).toInt f g h) (zV (M.2.1 109 0).toInt (M.2.1 109 1).toInt (M.2.1 109 2).toInt f g h) (zW (M.2.1 109 0).toInt (M.2.1 109 1).toInt (M.2.1 109 2).toInt f g h) (zN (M.2.1 109 0).toInt (M.2.1 109 1).toInt (M.2.1 109 2).toInt f g h) hG (zb_w bU (by decide)) (zb_w bV (by decide)) (zb_w bW (by decide)) (zb_w bN (by decide)) hN0).trans ?_
  exact s_192b X M K a b c d e _ _ _ _ _ _ _ _ _ _ _ _ _ _ _ _ _ _ hG hp hq hr ha hb hc hd he (z_tdiv_b bU) (z_tdiv_b bV) (z_tdiv_b bW) ⟨hx1, by unfold zb at hx2; omega⟩
end
