-- A STEP IS SOUND: every kind of instruction
theorem ai_cst_ok {T : ai_T} {W : ai_W} {ρ : List Int} {E : ai_V} {F : ai_F} {ls st : List ai_A} {vls vst : List Value} {M : ip_H} {nx : Nat} {L : List ai_S} {v : Value} (hls : ai_okL ρ ls vls) (hst : ai_okL ρ st vst) (hE : ai_okV ρ E) (hF : ai_okF ρ F M) (hG : ip_G M) (hI : ai_inv T M) (h : (ai_const v).map (fun c => [((nx, ls, c :: st, E, F) : ai_S)]) = some L) : ∃ s ∈ L, ∃ t, ai_okS T W (ρ ++ t) s (nx, vls, v :: vst, M) M := by
  cases v with
  | int q => exact ai_pure (st := .i (none, q.toInt) :: st) hls ⟨⟨q, rfl, rfl⟩, hst⟩ hE hF hG hI h
  | long q => exact ai_pure (st := .l (none, q.toInt) :: st) hls ⟨⟨q, rfl, rfl⟩, hst⟩ hE hF hG hI h
  | _ => cases h
theorem ai_ix_ok {q : Int32} {n : Nat} (h : 0 ≤ q.toInt ∧ q.toInt ≤ (n : Int) - 1) : ip_ix q n = true := by
  have e : q.toNatClampNeg = q.toInt.toNat := rfl
  unfold ip_ix
  simp only [Bool.and_eq_true, decide_eq_true_eq, Int32.lt_iff_toInt_lt, Int32.toInt_zero]
  omega
theorem ai_ix_lt {q : Int32} {n : Nat} (h : 0 ≤ q.toInt ∧ q.toInt ≤ (n : Int) - 1) : q.toNatClampNeg < n := by
  have e : q.toNatClampNeg = q.toInt.toNat := rfl
  omega
theorem ai_byte {q : Int32} (h1 : -128 ≤ q.toInt) (h2 : q.toInt ≤ 127) : fits .byte (.int q) = true := by
  have e1 : (-128 : Int32).toInt = -128 := by decide
  have e2 : (127 : Int32).toInt = 127 := by decide
  have a1 : (-128 : Int32) ≤ q := by rw [Int32.le_iff_toInt_le]; omega
  have a2 : q ≤ (127 : Int32) := by rw [Int32.le_iff_toInt_le]; omega
  simp [fits, a1, a2]
theorem ai_cpy (f g : Nat → Int32) (sp dp n j : Nat) : va_cpy f g sp dp n j = g j ∨ ∃ i, va_cpy f g sp dp n j = f i := by
  unfold va_cpy
  split
  · exact Or.inr ⟨_, rfl⟩
  · exact Or.inl rfl
set_option maxHeartbeats 4000000 in
theorem ai_step_ok {T : ai_T} {W : ai_W} {e : ip_E} {ls st : List ai_A} {E : ai_V} {F : ai_F} {L : List ai_S} {ρ : List Int} {vls vst : List Value} {M : ip_H} (X : ip_X) (y : Nat) (hTK : ai_TK T = true) (h : ai_step T W e ls st E F = some L) (hls : ai_okL ρ ls vls) (hst : ai_okL ρ st vst) (hE : ai_okV ρ E) (hF : ai_okF ρ F M) (hG : ip_G M) (hI : ai_inv T M) : ∃ z, ip_step y X e vls vst M = some z ∧ ∃ s ∈ L, ∃ t, ai_okS T W (ρ ++ t) s z M := by
  obtain ⟨ins, nx, a, b, t, w, v, ts⟩ := e
  have hsh := ai_sh_ok hG
  cases ins with
  | iconst n => exact ⟨_, rfl, ai_cst_ok hls hst hE hF hG hI h⟩
  | bipush n => exact ⟨_, rfl, ai_cst_ok hls hst hE hF hG hI h⟩
  | sipush n => exact ⟨_, rfl, ai_cst_ok hls hst hE hF hG hI h⟩
  | lconst n => exact ⟨_, rfl, ai_cst_ok hls hst hE hF hG hI h⟩
  | ldc n => exact ⟨_, rfl, ai_cst_ok hls hst hE hF hG hI h⟩
  | ldc_w n => exact ⟨_, rfl, ai_cst_ok hls hst hE hF hG hI h⟩
  | ldc2_w n => exact ⟨_, rfl, ai_cst_ok hls hst hE hF hG hI h⟩
  | iload n =>
    have hg := ai_get_ok hls a
    cases hc : ai_get ls a using ai_Ac with
    | i x =>
      rw [hc] at hg
      obtain ⟨q, h1, h2⟩ := hg
      unfold ai_step at h
      dsimp only at h
      rw [hc] at h
      exact ⟨(nx, vls, .int q :: vst, M), by simp only [ip_step, h1], ai_pure (st := .i x :: st) hls ⟨⟨q, rfl, h2⟩, hst⟩ hE hF hG hI h⟩
    | _ => unfold ai_step at h; dsimp only at h; rw [hc] at h; cases h
  | iload_n n =>
    have hg := ai_get_ok hls a
    cases hc : ai_get ls a using ai_Ac with
    | i x =>
      rw [hc] at hg
      obtain ⟨q, h1, h2⟩ := hg
      unfold ai_step at h
      dsimp only at h
      rw [hc] at h
      exact ⟨(nx, vls, .int q :: vst, M), by simp only [ip_step, h1], ai_pure (st := .i x :: st) hls ⟨⟨q, rfl, h2⟩, hst⟩ hE hF hG hI h⟩
    | _ => unfold ai_step at h; dsimp only at h; rw [hc] at h; cases h
  | lload n =>
    have hg := ai_get_ok hls a
    cases hc : ai_get ls a using ai_Ac with
    | l x =>
      rw [hc] at hg
      obtain ⟨q, h1, h2⟩ := hg
      unfold ai_step at h
      dsimp only at h
      rw [hc] at h
      exact ⟨(nx, vls, .long q :: vst, M), by simp only [ip_step, h1], ai_pure (st := .l x :: st) hls ⟨⟨q, rfl, h2⟩, hst⟩ hE hF hG hI h⟩
    | _ => unfold ai_step at h; dsimp only at h; rw [hc] at h; cases h
  | lload_n n =>
    have hg := ai_get_ok hls a
    cases hc : ai_get ls a using ai_Ac with
    | l x =>
      rw [hc] at hg
      obtain ⟨q, h1, h2⟩ := hg
      unfold ai_step at h
      dsimp only at h
      rw [hc] at h
      exact ⟨(nx, vls, .long q :: vst, M), by simp only [ip_step, h1], ai_pure (st := .l x :: st) hls ⟨⟨q, rfl, h2⟩, hst⟩ hE hF hG hI h⟩
    | _ => unfold ai_step at h; dsimp only at h; rw [hc] at h; cases h
  | aload n =>
    have hg := ai_get_ok hls a
    cases hc : ai_get ls a using ai_Ac with
    | r x =>
      rw [hc] at hg
      have h1 : ip_get vls a = .ref x := hg
      unfold ai_step at h
      dsimp only at h
      rw [hc] at h
      exact ⟨(nx, vls, .ref x :: vst, M), by simp only [ip_step, h1], ai_pure (st := .r x :: st) hls ⟨rfl, hst⟩ hE hF hG hI h⟩
    | _ => unfold ai_step at h; dsimp only at h; rw [hc] at h; cases h
  | aload_n n =>
    have hg := ai_get_ok hls a
    cases hc : ai_get ls a using ai_Ac with
    | r x =>
      rw [hc] at hg
      have h1 : ip_get vls a = .ref x := hg
      unfold ai_step at h
      dsimp only at h
      rw [hc] at h
      exact ⟨(nx, vls, .ref x :: vst, M), by simp only [ip_step, h1], ai_pure (st := .r x :: st) hls ⟨rfl, hst⟩ hE hF hG hI h⟩
    | _ => unfold ai_step at h; dsimp only at h; rw [hc] at h; cases h
  | istore n =>
    cases st with
    | nil => cases h
    | cons s1 r => cases s1 using ai_Ac with
      | i x =>
        obtain ⟨q, vr, e1, h1, h2⟩ := ai_ci hst
        subst e1
        exact ⟨(nx, ip_set1 vls a (.int q), vr, M), rfl, ai_pure (ai_set1_ok hls a (show ai_okA ρ (.i x) (.int q) from ⟨q, rfl, h1⟩)) h2 hE hF hG hI h⟩
      | _ => cases h
  | istore_n n =>
    cases st with
    | nil => cases h
    | cons s1 r => cases s1 using ai_Ac with
      | i x =>
        obtain ⟨q, vr, e1, h1, h2⟩ := ai_ci hst
        subst e1
        exact ⟨(nx, ip_set1 vls a (.int q), vr, M), rfl, ai_pure (ai_set1_ok hls a (show ai_okA ρ (.i x) (.int q) from ⟨q, rfl, h1⟩)) h2 hE hF hG hI h⟩
      | _ => cases h
  | lstore n =>
    cases st with
    | nil => cases h
    | cons s1 r => cases s1 using ai_Ac with
      | l x =>
        obtain ⟨q, vr, e1, h1, h2⟩ := ai_cl hst
        subst e1
        exact ⟨(nx, ip_set2 vls a (.long q), vr, M), rfl, ai_pure (ai_set2_ok hls a (show ai_okA ρ (.l x) (.long q) from ⟨q, rfl, h1⟩)) h2 hE hF hG hI h⟩
      | _ => cases h
  | lstore_n n =>
    cases st with
    | nil => cases h
    | cons s1 r => cases s1 using ai_Ac with
      | l x =>
        obtain ⟨q, vr, e1, h1, h2⟩ := ai_cl hst
        subst e1
        exact ⟨(nx, ip_set2 vls a (.long q), vr, M), rfl, ai_pure (ai_set2_ok hls a (show ai_okA ρ (.l x) (.long q) from ⟨q, rfl, h1⟩)) h2 hE hF hG hI h⟩
      | _ => cases h
  | astore n =>
    cases st with
    | nil => cases h
    | cons s1 r => cases s1 using ai_Ac with
      | r x =>
        obtain ⟨vr, e1, h2⟩ := ai_cr hst
        subst e1
        exact ⟨(nx, ip_set1 vls a (.ref x), vr, M), rfl, ai_pure (ai_set1_ok hls a (show ai_okA ρ (.r x) (.ref x) from rfl)) h2 hE hF hG hI h⟩
      | _ => cases h
  | astore_n n =>
    cases st with
    | nil => cases h
    | cons s1 r => cases s1 using ai_Ac with
      | r x =>
        obtain ⟨vr, e1, h2⟩ := ai_cr hst
        subst e1
        exact ⟨(nx, ip_set1 vls a (.ref x), vr, M), rfl, ai_pure (ai_set1_ok hls a (show ai_okA ρ (.r x) (.ref x) from rfl)) h2 hE hF hG hI h⟩
      | _ => cases h
  | iinc n k =>
    have hg := ai_get_ok hls a
    unfold ai_step at h
    dsimp only at h
    cases hc : ai_get ls a using ai_Ac with
    | i x =>
      rw [hc] at hg h
      obtain ⟨q, h1, h2⟩ := hg
      cases v with
      | int c =>
        have hR := ai_add_ok (w := false) hE h2 (show ai_val ρ (none, c.toInt) c.toInt from rfl)
        rw [← ai_32_add] at hR
        obtain ⟨t1, k1, k2⟩ := hR
        cases h
        exact ⟨(nx, ip_set1 vls a (.int (q + c)), vst, M), by simp only [ip_step, h1], _, List.mem_singleton.mpr rfl, t1, rfl, ai_set1_ok (ai_okL_app t1 hls) a ⟨_, rfl, k2⟩, ai_okL_app t1 hst, k1, ai_okF_app t1 hF, hG, hI, ai_fr_r W M⟩
      | _ => cases h
    | _ => rw [hc] at h; cases h
  | iadd =>
    cases st with
    | nil => cases h
    | cons s1 r1 => cases s1 using ai_Ac with
      | i y => cases r1 with
        | nil => cases h
        | cons s2 r => cases s2 using ai_Ac with
          | i x =>
            obtain ⟨q, vr1, e1, h1, h2⟩ := ai_ci hst
            subst e1
            obtain ⟨p, vr, e2, h3, h4⟩ := ai_ci h2
            subst e2
            exact ⟨(nx, vls, .int (p + q) :: vr, M), rfl, ai_pushI hls h4 (by rw [ai_32_add]; exact ai_add_ok hE h3 h1) hF hG hI h⟩
          | _ => cases h
      | _ => cases h
  | isub =>
    cases st with
    | nil => cases h
    | cons s1 r1 => cases s1 using ai_Ac with
      | i y => cases r1 with
        | nil => cases h
        | cons s2 r => cases s2 using ai_Ac with
          | i x =>
            obtain ⟨q, vr1, e1, h1, h2⟩ := ai_ci hst
            subst e1
            obtain ⟨p, vr, e2, h3, h4⟩ := ai_ci h2
            subst e2
            exact ⟨(nx, vls, .int (p - q) :: vr, M), rfl, ai_pushI hls h4 (by rw [ai_32_sub]; exact ai_sub_ok hE h3 h1) hF hG hI h⟩
          | _ => cases h
      | _ => cases h
  | imul =>
    cases st with
    | nil => cases h
    | cons s1 r1 => cases s1 using ai_Ac with
      | i y => cases r1 with
        | nil => cases h
        | cons s2 r => cases s2 using ai_Ac with
          | i x =>
            obtain ⟨q, vr1, e1, h1, h2⟩ := ai_ci hst
            subst e1
            obtain ⟨p, vr, e2, h3, h4⟩ := ai_ci h2
            subst e2
            refine ⟨(nx, vls, .int (p * q) :: vr, M), rfl, ?_⟩
            have plain : ∀ L, ai_push nx ls r F false (ai_mul false E x y) = some L → ∃ s ∈ L, ∃ t, ai_okS T W (ρ ++ t) s (nx, vls, .int (p * q) :: vr, M) M := fun L h => ai_pushI hls h4 (by rw [ai_32_mul]; exact ai_mul_ok hE h3 h1) hF hG hI h
            unfold ai_step at h
            dsimp only [ai_ii] at h
            split at h
            · split at h
              · cases h
                obtain ⟨E1, hm, hE1⟩ := ai_fk_ok hE h3 (fun j E1 => (nx, ls, .i (ai_mul false E1 (none, j) y).1 :: r, (ai_mul false E1 (none, j) y).2, F))
                have hR : ai_res ρ (ai_mul false E1 (none, p.toInt) y) (p * q).toInt := by rw [ai_32_mul]; exact ai_mul_ok hE1 (show ai_val ρ (none, p.toInt) p.toInt from rfl) h1
                obtain ⟨t1, k1, k2⟩ := hR
                exact ⟨_, hm, t1, rfl, ai_okL_app t1 hls, ⟨⟨_, rfl, k2⟩, ai_okL_app t1 h4⟩, k1, ai_okF_app t1 hF, hG, hI, ai_fr_r W M⟩
              · exact plain L h
            · split at h
              · cases h
                obtain ⟨E1, hm, hE1⟩ := ai_fk_ok hE h1 (fun j E1 => (nx, ls, .i (ai_mul false E1 x (none, j)).1 :: r, (ai_mul false E1 x (none, j)).2, F))
                have hR : ai_res ρ (ai_mul false E1 x (none, q.toInt)) (p * q).toInt := by rw [ai_32_mul]; exact ai_mul_ok hE1 h3 (show ai_val ρ (none, q.toInt) q.toInt from rfl)
                obtain ⟨t1, k1, k2⟩ := hR
                exact ⟨_, hm, t1, rfl, ai_okL_app t1 hls, ⟨⟨_, rfl, k2⟩, ai_okL_app t1 h4⟩, k1, ai_okF_app t1 hF, hG, hI, ai_fr_r W M⟩
              · exact plain L h
            · exact plain L h
          | _ => cases h
      | _ => cases h
  | idiv =>
    cases st with
    | nil => cases h
    | cons s1 r1 => cases s1 using ai_Ac with
      | i y => cases r1 with
        | nil => cases h
        | cons s2 r => cases s2 using ai_Ac with
          | i x =>
            obtain ⟨q, vr1, e1, h1, h2⟩ := ai_ci hst
            subst e1
            obtain ⟨p, vr, e2, h3, h4⟩ := ai_ci h2
            subst e2
            have h' : (if ai_n0 E y = true then ai_push nx ls r F false (ai_div false E x y) else none) = some L := h
            by_cases hn : ai_n0 E y = true
            · rw [if_pos hn] at h'
              have hq : ¬ q = 0 := by
                intro z
                apply ai_n0_ok hE h1 hn
                rw [z]
                rfl
              exact ⟨(nx, vls, .int (p / q) :: vr, M), by simp only [ip_step, ip_i2, if_neg hq], ai_pushI hls h4 (by rw [ai_32_div]; exact ai_div_ok hE h3 h1) hF hG hI h'⟩
            · rw [if_neg hn] at h'
              cases h'
          | _ => cases h
      | _ => cases h
  | irem =>
    cases st with
    | nil => cases h
    | cons s1 r1 => cases s1 using ai_Ac with
      | i y => cases r1 with
        | nil => cases h
        | cons s2 r => cases s2 using ai_Ac with
          | i x =>
            obtain ⟨q, vr1, e1, h1, h2⟩ := ai_ci hst
            subst e1
            obtain ⟨p, vr, e2, h3, h4⟩ := ai_ci h2
            subst e2
            have h' : (if ai_n0 E y = true then ai_push nx ls r F false (ai_rem false E x y) else none) = some L := h
            by_cases hn : ai_n0 E y = true
            · rw [if_pos hn] at h'
              have hq : ¬ q = 0 := by
                intro z
                apply ai_n0_ok hE h1 hn
                rw [z]
                rfl
              exact ⟨(nx, vls, .int (p - p / q * q) :: vr, M), by simp only [ip_step, ip_i2, if_neg hq], ai_pushI hls h4 (by rw [ai_32_rem]; exact ai_rem_ok hE h3 h1) hF hG hI h'⟩
            · rw [if_neg hn] at h'
              cases h'
          | _ => cases h
      | _ => cases h
  | iand =>
    cases st with
    | nil => cases h
    | cons s1 r1 => cases s1 using ai_Ac with
      | i y => cases r1 with
        | nil => cases h
        | cons s2 r => cases s2 using ai_Ac with
          | i x =>
            obtain ⟨q, vr1, e1, h1, h2⟩ := ai_ci hst
            subst e1
            obtain ⟨p, vr, e2, h3, h4⟩ := ai_ci h2
            subst e2
            exact ⟨(nx, vls, .int (p &&& q) :: vr, M), rfl, ai_pushI hls h4 (ai_and32 hE h1) hF hG hI h⟩
          | _ => cases h
      | _ => cases h
  | ior =>
    cases st with
    | nil => cases h
    | cons s1 r1 => cases s1 using ai_Ac with
      | i y => cases r1 with
        | nil => cases h
        | cons s2 r => cases s2 using ai_Ac with
          | i x =>
            obtain ⟨q, vr1, e1, h1, h2⟩ := ai_ci hst
            subst e1
            obtain ⟨p, vr, e2, h3, h4⟩ := ai_ci h2
            subst e2
            exact ⟨(nx, vls, .int (p ||| q) :: vr, M), rfl, ai_pushI hls h4 (ai_fl32 hE _) hF hG hI h⟩
          | _ => cases h
      | _ => cases h
  | ixor =>
    cases st with
    | nil => cases h
    | cons s1 r1 => cases s1 using ai_Ac with
      | i y => cases r1 with
        | nil => cases h
        | cons s2 r => cases s2 using ai_Ac with
          | i x =>
            obtain ⟨q, vr1, e1, h1, h2⟩ := ai_ci hst
            subst e1
            obtain ⟨p, vr, e2, h3, h4⟩ := ai_ci h2
            subst e2
            exact ⟨(nx, vls, .int (p ^^^ q) :: vr, M), rfl, ai_pushI hls h4 (ai_fl32 hE _) hF hG hI h⟩
          | _ => cases h
      | _ => cases h
  | ladd =>
    cases st with
    | nil => cases h
    | cons s1 r1 => cases s1 using ai_Ac with
      | l y => cases r1 with
        | nil => cases h
        | cons s2 r => cases s2 using ai_Ac with
          | l x =>
            obtain ⟨q, vr1, e1, h1, h2⟩ := ai_cl hst
            subst e1
            obtain ⟨p, vr, e2, h3, h4⟩ := ai_cl h2
            subst e2
            exact ⟨(nx, vls, .long (p + q) :: vr, M), rfl, ai_pushL hls h4 (by rw [ai_64_add]; exact ai_add_ok hE h3 h1) hF hG hI h⟩
          | _ => cases h
      | _ => cases h
  | lsub =>
    cases st with
    | nil => cases h
    | cons s1 r1 => cases s1 using ai_Ac with
      | l y => cases r1 with
        | nil => cases h
        | cons s2 r => cases s2 using ai_Ac with
          | l x =>
            obtain ⟨q, vr1, e1, h1, h2⟩ := ai_cl hst
            subst e1
            obtain ⟨p, vr, e2, h3, h4⟩ := ai_cl h2
            subst e2
            exact ⟨(nx, vls, .long (p - q) :: vr, M), rfl, ai_pushL hls h4 (by rw [ai_64_sub]; exact ai_sub_ok hE h3 h1) hF hG hI h⟩
          | _ => cases h
      | _ => cases h
  | lmul =>
    cases st with
    | nil => cases h
    | cons s1 r1 => cases s1 using ai_Ac with
      | l y => cases r1 with
        | nil => cases h
        | cons s2 r => cases s2 using ai_Ac with
          | l x =>
            obtain ⟨q, vr1, e1, h1, h2⟩ := ai_cl hst
            subst e1
            obtain ⟨p, vr, e2, h3, h4⟩ := ai_cl h2
            subst e2
            exact ⟨(nx, vls, .long (p * q) :: vr, M), rfl, ai_pushL hls h4 (by rw [ai_64_mul]; exact ai_mul_ok hE h3 h1) hF hG hI h⟩
          | _ => cases h
      | _ => cases h
  | ldiv =>
    cases st with
    | nil => cases h
    | cons s1 r1 => cases s1 using ai_Ac with
      | l y => cases r1 with
        | nil => cases h
        | cons s2 r => cases s2 using ai_Ac with
          | l x =>
            obtain ⟨q, vr1, e1, h1, h2⟩ := ai_cl hst
            subst e1
            obtain ⟨p, vr, e2, h3, h4⟩ := ai_cl h2
            subst e2
            have h' : (if ai_n0 E y = true then ai_push nx ls r F true (ai_div true E x y) else none) = some L := h
            by_cases hn : ai_n0 E y = true
            · rw [if_pos hn] at h'
              have hq : ¬ q = 0 := by
                intro z
                apply ai_n0_ok hE h1 hn
                rw [z]
                rfl
              exact ⟨(nx, vls, .long (p / q) :: vr, M), by simp only [ip_step, ip_l2, if_neg hq], ai_pushL hls h4 (by rw [ai_64_div]; exact ai_div_ok hE h3 h1) hF hG hI h'⟩
            · rw [if_neg hn] at h'
              cases h'
          | _ => cases h
      | _ => cases h
  | lrem =>
    cases st with
    | nil => cases h
    | cons s1 r1 => cases s1 using ai_Ac with
      | l y => cases r1 with
        | nil => cases h
        | cons s2 r => cases s2 using ai_Ac with
          | l x =>
            obtain ⟨q, vr1, e1, h1, h2⟩ := ai_cl hst
            subst e1
            obtain ⟨p, vr, e2, h3, h4⟩ := ai_cl h2
            subst e2
            have h' : (if ai_n0 E y = true then ai_push nx ls r F true (ai_rem true E x y) else none) = some L := h
            by_cases hn : ai_n0 E y = true
            · rw [if_pos hn] at h'
              have hq : ¬ q = 0 := by
                intro z
                apply ai_n0_ok hE h1 hn
                rw [z]
                rfl
              exact ⟨(nx, vls, .long (p - p / q * q) :: vr, M), by simp only [ip_step, ip_l2, if_neg hq], ai_pushL hls h4 (by rw [ai_64_rem]; exact ai_rem_ok hE h3 h1) hF hG hI h'⟩
            · rw [if_neg hn] at h'
              cases h'
          | _ => cases h
      | _ => cases h
  | land =>
    cases st with
    | nil => cases h
    | cons s1 r1 => cases s1 using ai_Ac with
      | l y => cases r1 with
        | nil => cases h
        | cons s2 r => cases s2 using ai_Ac with
          | l x =>
            obtain ⟨q, vr1, e1, h1, h2⟩ := ai_cl hst
            subst e1
            obtain ⟨p, vr, e2, h3, h4⟩ := ai_cl h2
            subst e2
            exact ⟨(nx, vls, .long (p &&& q) :: vr, M), rfl, ai_pushL hls h4 (ai_and64 hE h1) hF hG hI h⟩
          | _ => cases h
      | _ => cases h
  | lor =>
    cases st with
    | nil => cases h
    | cons s1 r1 => cases s1 using ai_Ac with
      | l y => cases r1 with
        | nil => cases h
        | cons s2 r => cases s2 using ai_Ac with
          | l x =>
            obtain ⟨q, vr1, e1, h1, h2⟩ := ai_cl hst
            subst e1
            obtain ⟨p, vr, e2, h3, h4⟩ := ai_cl h2
            subst e2
            exact ⟨(nx, vls, .long (p ||| q) :: vr, M), rfl, ai_pushL hls h4 (ai_fl64 hE _) hF hG hI h⟩
          | _ => cases h
      | _ => cases h
  | lxor =>
    cases st with
    | nil => cases h
    | cons s1 r1 => cases s1 using ai_Ac with
      | l y => cases r1 with
        | nil => cases h
        | cons s2 r => cases s2 using ai_Ac with
          | l x =>
            obtain ⟨q, vr1, e1, h1, h2⟩ := ai_cl hst
            subst e1
            obtain ⟨p, vr, e2, h3, h4⟩ := ai_cl h2
            subst e2
            exact ⟨(nx, vls, .long (p ^^^ q) :: vr, M), rfl, ai_pushL hls h4 (ai_fl64 hE _) hF hG hI h⟩
          | _ => cases h
      | _ => cases h
  | ishl =>
    cases st with
    | nil => cases h
    | cons s1 r1 => cases s1 using ai_Ac with
      | i y => cases r1 with
        | nil => cases h
        | cons s2 r => cases s2 using ai_Ac with
          | i x =>
            obtain ⟨q, vr1, e1, h1, h2⟩ := ai_ci hst
            subst e1
            obtain ⟨p, vr, e2, h3, h4⟩ := ai_ci h2
            subst e2
            exact ⟨(nx, vls, .int (p <<< (q &&& 31)) :: vr, M), rfl, ai_pushI hls h4 (ai_fl32 hE _) hF hG hI h⟩
          | _ => cases h
      | _ => cases h
  | ishr =>
    cases st with
    | nil => cases h
    | cons s1 r1 => cases s1 using ai_Ac with
      | i y => cases r1 with
        | nil => cases h
        | cons s2 r => cases s2 using ai_Ac with
          | i x =>
            obtain ⟨q, vr1, e1, h1, h2⟩ := ai_ci hst
            subst e1
            obtain ⟨p, vr, e2, h3, h4⟩ := ai_ci h2
            subst e2
            exact ⟨(nx, vls, .int (p >>> (q &&& 31)) :: vr, M), rfl, ai_pushI hls h4 (ai_fl32 hE _) hF hG hI h⟩
          | _ => cases h
      | _ => cases h
  | lshl =>
    cases st with
    | nil => cases h
    | cons s1 r1 => cases s1 using ai_Ac with
      | i y => cases r1 with
        | nil => cases h
        | cons s2 r => cases s2 using ai_Ac with
          | l x =>
            obtain ⟨q, vr1, e1, h1, h2⟩ := ai_ci hst
            subst e1
            obtain ⟨p, vr, e2, h3, h4⟩ := ai_cl h2
            subst e2
            exact ⟨(nx, vls, .long (p <<< (q.toInt64 &&& 63)) :: vr, M), rfl, ai_pushL hls h4 (ai_fl64 hE _) hF hG hI h⟩
          | _ => cases h
      | _ => cases h
  | lshr =>
    cases st with
    | nil => cases h
    | cons s1 r1 => cases s1 using ai_Ac with
      | i y => cases r1 with
        | nil => cases h
        | cons s2 r => cases s2 using ai_Ac with
          | l x =>
            obtain ⟨q, vr1, e1, h1, h2⟩ := ai_ci hst
            subst e1
            obtain ⟨p, vr, e2, h3, h4⟩ := ai_cl h2
            subst e2
            exact ⟨(nx, vls, .long (p >>> (q.toInt64 &&& 63)) :: vr, M), rfl, ai_pushL hls h4 (ai_fl64 hE _) hF hG hI h⟩
          | _ => cases h
      | _ => cases h
  | lushr =>
    cases st with
    | nil => cases h
    | cons s1 r1 => cases s1 using ai_Ac with
      | i y => cases r1 with
        | nil => cases h
        | cons s2 r => cases s2 using ai_Ac with
          | l x =>
            obtain ⟨q, vr1, e1, h1, h2⟩ := ai_ci hst
            subst e1
            obtain ⟨p, vr, e2, h3, h4⟩ := ai_cl h2
            subst e2
            exact ⟨(nx, vls, .long ((p.toUInt64 >>> (q.toInt64.toUInt64 &&& Int64.toUInt64 63)).toInt64) :: vr, M), rfl, ai_pushL hls h4 (ai_fl64 hE _) hF hG hI h⟩
          | _ => cases h
      | _ => cases h
  | ineg =>
    cases st with
    | nil => cases h
    | cons s1 r => cases s1 using ai_Ac with
      | i x =>
        obtain ⟨q, vr, e1, h1, h2⟩ := ai_ci hst
        subst e1
        exact ⟨(nx, vls, .int (-q) :: vr, M), rfl, ai_pushI hls h2 (by rw [ai_32_neg]; exact ai_neg_ok hE h1) hF hG hI h⟩
      | _ => cases h
  | lneg =>
    cases st with
    | nil => cases h
    | cons s1 r => cases s1 using ai_Ac with
      | l x =>
        obtain ⟨q, vr, e1, h1, h2⟩ := ai_cl hst
        subst e1
        exact ⟨(nx, vls, .long (-q) :: vr, M), rfl, ai_pushL hls h2 (by rw [ai_64_neg]; exact ai_neg_ok hE h1) hF hG hI h⟩
      | _ => cases h
  | lcmp =>
    cases st with
    | nil => cases h
    | cons s1 r1 => cases s1 using ai_Ac with
      | l y => cases r1 with
        | nil => cases h
        | cons s2 r => cases s2 using ai_Ac with
          | l x =>
            obtain ⟨q, vr1, e1, h1, h2⟩ := ai_cl hst
            subst e1
            obtain ⟨p, vr, e2, h3, h4⟩ := ai_cl h2
            subst e2
            exact ⟨(nx, vls, .int (lg_cmp p q) :: vr, M), rfl, ai_pure (st := .c x y :: r) hls ⟨⟨p, q, rfl, h3, h1⟩, h4⟩ hE hF hG hI h⟩
          | _ => cases h
      | _ => cases h
  | i2l =>
    cases st with
    | nil => cases h
    | cons s1 r => cases s1 using ai_Ac with
      | i x =>
        obtain ⟨q, vr, e1, h1, h2⟩ := ai_ci hst
        subst e1
        exact ⟨(nx, vls, .long q.toInt64 :: vr, M), rfl, ai_pure (st := .l x :: r) hls ⟨⟨q.toInt64, rfl, by rw [Int32.toInt_toInt64]; exact h1⟩, h2⟩ hE hF hG hI h⟩
      | _ => cases h
  | l2i =>
    cases st with
    | nil => cases h
    | cons s1 r => cases s1 using ai_Ac with
      | l x =>
        obtain ⟨q, vr, e1, h1, h2⟩ := ai_cl hst
        subst e1
        have h' : (if ai_in E x (-2147483648) 2147483647 = true then some [(nx, ls, .i x :: r, E, F)] else ai_push nx ls r F false (ai_fl false E)) = some L := h
        refine ⟨(nx, vls, .int q.toInt32 :: vr, M), rfl, ?_⟩
        by_cases hn : ai_in E x (-2147483648) 2147483647 = true
        · rw [if_pos hn] at h'
          have hb := ai_in_ok hE h1 hn
          have e : q.toInt32.toInt = q.toInt := by
            rw [Int64.toInt_toInt32]
            exact Int.bmod_eq_of_le_mul_two (by omega) (by omega)
          exact ai_pure (st := .i x :: r) hls ⟨⟨q.toInt32, rfl, by rw [e]; exact h1⟩, h2⟩ hE hF hG hI h'
        · rw [if_neg hn] at h'
          exact ai_pushI hls h2 (ai_fl32 hE _) hF hG hI h'
      | _ => cases h
  | i2b =>
    cases st with
    | nil => cases h
    | cons s1 r => cases s1 using ai_Ac with
      | i x =>
        obtain ⟨q, vr, e1, h1, h2⟩ := ai_ci hst
        subst e1
        have h' : (if ai_in E x (-128) 127 = true then some [(nx, ls, .i x :: r, E, F)] else ai_push nx ls r F false (ai_nw E (-128) 127)) = some L := h
        refine ⟨(nx, vls, .int q.toInt8.toInt32 :: vr, M), rfl, ?_⟩
        have e8 : q.toInt8.toInt32.toInt = q.toInt.bmod 256 := by rw [Int8.toInt_toInt32, Int32.toInt_toInt8]
        by_cases hn : ai_in E x (-128) 127 = true
        · rw [if_pos hn] at h'
          have hb := ai_in_ok hE h1 hn
          have e : q.toInt8.toInt32.toInt = q.toInt := by
            rw [e8]
            exact Int.bmod_eq_of_le_mul_two (by omega) (by omega)
          exact ai_pure (st := .i x :: r) hls ⟨⟨_, rfl, by rw [e]; exact h1⟩, h2⟩ hE hF hG hI h'
        · rw [if_neg hn] at h'
          refine ai_pushI hls h2 (ai_nw_ok hE ?_) hF hG hI h'
          have b1 := Int.le_bmod (x := q.toInt) (m := 256) (by decide)
          have b2 := Int.bmod_lt (x := q.toInt) (m := 256) (by decide)
          rw [e8]
          omega
      | _ => cases h
  | goto n => exact ⟨(a, vls, vst, M), rfl, ai_pure hls hst hE hF hG hI h⟩
  | ifCond c n =>
    cases st with
    | nil => cases h
    | cons s1 r => cases s1 using ai_Ac with
      | i x =>
        obtain ⟨q, vr, e1, h1, h2⟩ := ai_ci hst
        subst e1
        refine ⟨(if ip_cd c q 0 then a else nx, vls, vr, M), rfl, ai_two_ok (q := 0) hls h2 hE h1 (show ai_val ρ (none, 0) 0 from rfl) hF hG hI _ ?_ h⟩
        cases c <;> simp only [ip_cd, ai_tr, Int32.lt_iff_toInt_lt, Int32.le_iff_toInt_le, ← Int32.toInt_inj, Int32.toInt_zero]
      | c x y =>
        obtain ⟨p, q, vr, e1, h1, h3, h2⟩ := ai_cc hst
        subst e1
        refine ⟨(if ip_cd c (lg_cmp p q) 0 then a else nx, vls, vr, M), rfl, ai_two_ok hls h2 hE h1 h3 hF hG hI _ ?_ h⟩
        have k1 := ip_cmp_lt p q
        have k2 := ip_cmp_gt p q
        have k3 := ip_cmp_eq p q
        rw [Int64.lt_iff_toInt_lt] at k1 k2
        rw [← Int64.toInt_inj] at k3
        cases c
        · simp only [ip_cd, ai_tr, k3]
        · simp only [ip_cd, ai_tr, k3]
        · simp only [ip_cd, ai_tr, k1]
        · simp only [ip_cd, ai_tr]
          exact decide_eq_decide.mpr (by rw [← Int32.not_lt, k1, Int.not_lt])
        · simp only [ip_cd, ai_tr, k2]
        · simp only [ip_cd, ai_tr]
          exact decide_eq_decide.mpr (by rw [← Int32.not_lt, k2, Int.not_lt])
      | _ => cases h
  | if_icmp c n =>
    cases st with
    | nil => cases h
    | cons s1 r1 => cases s1 using ai_Ac with
      | i y => cases r1 with
        | nil => cases h
        | cons s2 r => cases s2 using ai_Ac with
          | i x =>
            obtain ⟨q, vr1, e1, h1, h2⟩ := ai_ci hst
            subst e1
            obtain ⟨p, vr, e2, h3, h4⟩ := ai_ci h2
            subst e2
            refine ⟨(if ip_cd c p q then a else nx, vls, vr, M), rfl, ai_two_ok hls h4 hE h3 h1 hF hG hI _ ?_ h⟩
            cases c <;> simp only [ip_cd, ai_tr, Int32.lt_iff_toInt_lt, Int32.le_iff_toInt_le, ← Int32.toInt_inj]
          | _ => cases h
      | _ => cases h
  | tableswitch d lo hi l =>
    cases st with
    | nil => cases h
    | cons s1 r => cases s1 using ai_Ac with
      | i x =>
        obtain ⟨q, vr, e1, h1, h2⟩ := ai_ci hst
        subst e1
        have hc : ∀ z : Int, ai_val ρ (none, z) z := fun _ => rfl
        have con : ∀ (s : ai_S) (pc : Nat) (E1 : ai_V), s = (pc, ls, r, E1, F) → ai_okV ρ E1 → ai_okS T W (ρ ++ []) s (pc, vls, vr, M) M := by
          intro s pc E1 es h5
          rw [es, List.append_nil]
          exact ⟨rfl, hls, h2, h5, hF, hG, hI, ai_fr_r W M⟩
        refine ⟨(if q.toInt < lo ∨ hi < q.toInt then a else ts.getD (q.toInt - lo).toNat a, vls, vr, M), rfl, ?_⟩
        cases h
        by_cases g1 : q.toInt < lo
        · obtain ⟨E1, e5, h5⟩ := ai_lt_ok hE h1 (hc lo) g1
          rw [if_pos (Or.inl g1)]
          exact ⟨_, List.mem_append_left _ (ai_opt_ok e5), [], con _ _ E1 rfl h5⟩
        · by_cases g2 : hi < q.toInt
          · obtain ⟨E1, e5, h5⟩ := ai_lt_ok hE (hc hi) h1 g2
            rw [if_pos (Or.inr g2)]
            exact ⟨_, List.mem_append_right _ (List.mem_append_left _ (ai_opt_ok e5)), [], con _ _ E1 rfl h5⟩
          · have g3 : q.toInt = lo + ((q.toInt - lo).toNat : Int) := by omega
            obtain ⟨E1, e5, h5⟩ := ai_eq_ok hE h1 (hc (lo + ((q.toInt - lo).toNat : Int))) g3
            rw [if_neg (by omega)]
            refine ⟨_, List.mem_append_right _ (List.mem_append_right _ (List.mem_flatMap.mpr ⟨(q.toInt - lo).toNat, List.mem_range.mpr (by omega), ai_opt_ok e5⟩)), [], con _ _ E1 rfl h5⟩
      | _ => cases h
  | dup =>
    cases st with
    | nil => cases h
    | cons s1 r => cases s1 using ai_Ac with
      | r k =>
        obtain ⟨vr, e1, h2⟩ := ai_cr hst
        subst e1
        exact ⟨(nx, vls, .ref k :: .ref k :: vr, M), rfl, ai_pure (st := .r k :: .r k :: r) hls ⟨rfl, rfl, h2⟩ hE hF hG hI h⟩
      | i x =>
        obtain ⟨q, vr, e1, h1, h2⟩ := ai_ci hst
        subst e1
        exact ⟨(nx, vls, .int q :: .int q :: vr, M), rfl, ai_pure (st := .i x :: .i x :: r) hls ⟨⟨q, rfl, h1⟩, ⟨q, rfl, h1⟩, h2⟩ hE hF hG hI h⟩
      | _ => cases h
  | dup2 =>
    cases st with
    | nil => cases h
    | cons s1 r1 => cases s1 using ai_Ac with
      | i y => cases r1 with
        | nil => cases h
        | cons s2 r => cases s2 using ai_Ac with
          | r x =>
            obtain ⟨q, vr1, e1, h1, h2⟩ := ai_ci hst
            subst e1
            obtain ⟨vr, e2, h4⟩ := ai_cr h2
            subst e2
            exact ⟨(nx, vls, .int q :: .ref x :: .int q :: .ref x :: vr, M), rfl, ai_pure (st := .i y :: .r x :: .i y :: .r x :: r) hls ⟨⟨q, rfl, h1⟩, rfl, ⟨q, rfl, h1⟩, rfl, h4⟩ hE hF hG hI h⟩
          | _ => cases h
      | _ => cases h
  | pop =>
    cases st with
    | nil => cases h
    | cons s1 r => cases s1 using ai_Ac with
      | i x =>
        obtain ⟨q, vr, e1, h1, h2⟩ := ai_ci hst
        subst e1
        exact ⟨(nx, vls, vr, M), rfl, ai_pure hls h2 hE hF hG hI h⟩
      | c x y =>
        obtain ⟨p, q, vr, e1, h1, h3, h2⟩ := ai_cc hst
        subst e1
        exact ⟨(nx, vls, vr, M), rfl, ai_pure hls h2 hE hF hG hI h⟩
      | _ => cases h
  | getfield n =>
    cases st with
    | nil => cases h
    | cons s1 r => cases s1 using ai_Ac with
      | r x =>
        obtain ⟨vr, e1, h2⟩ := ai_cr hst
        subst e1
        unfold ai_step at h
        dsimp only [ai_r1] at h
        by_cases hs : (ai_sh x).1 = 0 ∧ (ai_sh x).2.1 = a
        · rw [if_pos hs] at h
          have hs' : (ip_sh M x).1 = 0 ∧ (ip_sh M x).2.1 = a := by rw [hsh]; exact hs
          refine ⟨(nx, vls, (if t = 1 then .long (M.2.2.1 x b) else if t = 2 then ip_vr (M.2.2.2 x b) else .int (M.2.1 x b)) :: vr, M), by simp only [ip_step, ip_r1, if_pos hs'], ?_⟩
          by_cases ht1 : t = 1
          · rw [if_pos ht1] at h ⊢
            exact ai_pushL hls h2 (ai_fl64 hE _) hF hG hI h
          · rw [if_neg ht1] at h ⊢
            by_cases ht2 : t = 2
            · rw [if_pos ht2] at h ⊢
              by_cases hk : x < 128 ∧ b < 48
              · rw [if_pos hk] at h
                have hr := hG.2 x b hk.1 hk.2
                rw [← ai_rf_eq] at hr
                cases hq : ai_rf x b with
                | none => rw [hq] at h; cases h
                | some q =>
                  rw [hq] at h hr
                  rw [hr rfl]
                  exact ai_pure (st := .r q :: r) hls ⟨rfl, h2⟩ hE hF hG hI h
              · rw [if_neg hk] at h
                cases h
            · rw [if_neg ht2] at h ⊢
              cases hl : ai_look F x b with
              | some z =>
                rw [hl] at h
                exact ai_pure (st := .i z :: r) hls ⟨⟨_, rfl, ai_look_ok hF hl⟩, h2⟩ hE hF hG hI h
              | none =>
                rw [hl] at h
                obtain ⟨t1, k1, k2⟩ := ai_nw_ok (lo := (ai_TT T x b).1) (hi := (ai_TT T x b).2) hE (hI x b)
                cases h
                refine ⟨_, List.mem_singleton.mpr rfl, t1, rfl, ai_okL_app t1 hls, ⟨⟨_, rfl, k2⟩, ai_okL_app t1 h2⟩, k1, ?_, hG, hI, ai_fr_r W M⟩
                intro f hf
                rcases List.mem_cons.mp hf with hf | hf
                · rw [hf]; exact k2
                · exact ai_okF_app t1 hF f hf
        · rw [if_neg hs] at h
          cases h
      | _ => cases h
  | putfield n =>
    cases st with
    | nil => cases h
    | cons s1 r1 => cases s1 using ai_Ac with
      | i x => cases r1 with
        | nil => cases h
        | cons s2 r => cases s2 using ai_Ac with
          | r k =>
            obtain ⟨q, vr1, e1, h1, h2⟩ := ai_ci hst
            subst e1
            obtain ⟨vr, e2, h4⟩ := ai_cr h2
            subst e2
            unfold ai_step at h
            dsimp only at h
            by_cases hs : (ai_sh k).1 = 0 ∧ (ai_sh k).2.1 = a ∧ (t = 0 ∨ t = 3 ∧ ai_in E x 0 1 = true) ∧ ai_in E x (ai_TT T k b).1 (ai_TT T k b).2 = true ∧ ai_may W k b = true
            · rw [if_pos hs] at h
              obtain ⟨g1, g2, g3, g4, g5⟩ := hs
              have hb := ai_in_ok hE h1 g4
              have hs' : (ip_sh M k).1 = 0 ∧ (ip_sh M k).2.1 = a ∧ (t = 0 ∨ t = 3 ∧ (q = 0 ∨ q = 1)) := by
                rw [hsh]
                refine ⟨g1, g2, g3.imp id fun g => ⟨g.1, ?_⟩⟩
                have := ai_in_ok hE h1 g.2
                rw [← Int32.toInt_inj, ← Int32.toInt_inj]
                have e0 : (0 : Int32).toInt = 0 := rfl
                have e1 : (1 : Int32).toInt = 1 := rfl
                omega
              cases h
              refine ⟨(nx, vls, vr, ip_uI M k b q), by simp only [ip_step, if_pos hs'], _, List.mem_singleton.mpr rfl, [], rfl, by simpa using hls, by simpa using h4, by simpa using hE, ?_, (ip_G_uI M k b q).mpr hG, ai_inv_uI hI hb, ai_fr_uI g5⟩
              rw [List.append_nil]
              intro f hf
              rcases List.mem_cons.mp hf with hf | hf
              · rw [hf]
                show ai_val ρ x (if k = k ∧ b = b then q else M.2.1 k b).toInt
                rw [if_pos ⟨rfl, rfl⟩]
                exact h1
              · exact ai_drop_ok q hF f hf
            · rw [if_neg hs] at h
              cases h
          | _ => cases h
      | l x => cases r1 with
        | nil => cases h
        | cons s2 r => cases s2 using ai_Ac with
          | r k =>
            obtain ⟨q, vr1, e1, h1, h2⟩ := ai_cl hst
            subst e1
            obtain ⟨vr, e2, h4⟩ := ai_cr h2
            subst e2
            unfold ai_step at h
            dsimp only at h
            by_cases hs : (ai_sh k).1 = 0 ∧ (ai_sh k).2.1 = a ∧ t = 1 ∧ ai_may W (k + 1000) b = true
            · rw [if_pos hs] at h
              have hs' : (ip_sh M k).1 = 0 ∧ (ip_sh M k).2.1 = a ∧ t = 1 := by rw [hsh]; exact ⟨hs.1, hs.2.1, hs.2.2.1⟩
              cases h
              exact ⟨(nx, vls, vr, ip_uL M k b q), by simp only [ip_step, if_pos hs'], _, List.mem_singleton.mpr rfl, [], rfl, by simpa using hls, by simpa using h4, by simpa using hE, by rw [List.append_nil]; exact hF, (ip_G_uL M k b q).mpr hG, hI, ai_fr_uL hs.2.2.2⟩
            · rw [if_neg hs] at h
              cases h
          | _ => cases h
      | _ => cases h
  | arraylength =>
    cases st with
    | nil => cases h
    | cons s1 r => cases s1 using ai_Ac with
      | r x =>
        obtain ⟨vr, e1, h2⟩ := ai_cr hst
        subst e1
        unfold ai_step at h
        dsimp only [ai_r1] at h
        by_cases hs : (ai_sh x).1 = 1 ∧ (ai_sh x).2.2 < 2147483648
        · rw [if_pos hs] at h
          have hs' : (ip_sh M x).1 = 1 := by rw [hsh]; exact hs.1
          refine ⟨(nx, vls, .int (Int32.ofNat (ip_sh M x).2.2) :: vr, M), by simp only [ip_step, if_pos hs'], ai_pure (st := .i (none, (ai_sh x).2.2) :: r) hls ⟨⟨_, rfl, ?_⟩, h2⟩ hE hF hG hI h⟩
          rw [hsh]
          exact Int32.toInt_ofNat_of_lt (by omega)
        · rw [if_neg hs] at h
          cases h
      | _ => cases h
  | baload =>
    cases st with
    | nil => cases h
    | cons s1 r1 => cases s1 using ai_Ac with
      | i y => cases r1 with
        | nil => cases h
        | cons s2 r => cases s2 using ai_Ac with
          | r x =>
            obtain ⟨q, vr1, e1, h1, h2⟩ := ai_ci hst
            subst e1
            obtain ⟨vr, e2, h4⟩ := ai_cr h2
            subst e2
            unfold ai_step at h
            dsimp only at h
            by_cases hs : (ai_sh x).1 = 1 ∧ ((ai_sh x).2.1 = 2 ∨ (ai_sh x).2.1 = 3) ∧ ai_in E y 0 ((ai_sh x).2.2 - 1) = true
            · rw [if_pos hs] at h
              have hb := ai_in_ok hE h1 hs.2.2
              have hx0 : ip_ix q (ip_sh M x).2.2 = true := by rw [hsh]; exact ai_ix_ok hb
              have hs' : (ip_sh M x).1 = 1 ∧ ((ip_sh M x).2.1 = 2 ∨ (ip_sh M x).2.1 = 3) ∧ ip_ix q (ip_sh M x).2.2 = true := ⟨by rw [hsh]; exact hs.1, by rw [hsh]; exact hs.2.1, hx0⟩
              refine ⟨(nx, vls, .int (M.2.1 x q.toNatClampNeg) :: vr, M), by simp only [ip_step, if_pos hs'], ?_⟩
              have hk := ai_TK_ok hTK x q.toNatClampNeg
              have hi := hI x q.toNatClampNeg
              exact ai_pushI hls h4 (ai_nw_ok hE (by omega)) hF hG hI h
            · rw [if_neg hs] at h
              cases h
          | _ => cases h
      | _ => cases h
  | laload =>
    cases st with
    | nil => cases h
    | cons s1 r1 => cases s1 using ai_Ac with
      | i y => cases r1 with
        | nil => cases h
        | cons s2 r => cases s2 using ai_Ac with
          | r x =>
            obtain ⟨q, vr1, e1, h1, h2⟩ := ai_ci hst
            subst e1
            obtain ⟨vr, e2, h4⟩ := ai_cr h2
            subst e2
            unfold ai_step at h
            dsimp only at h
            by_cases hs : (ai_sh x).1 = 1 ∧ (ai_sh x).2.1 = 1 ∧ ai_in E y 0 ((ai_sh x).2.2 - 1) = true
            · rw [if_pos hs] at h
              have hb := ai_in_ok hE h1 hs.2.2
              have hx0 : ip_ix q (ip_sh M x).2.2 = true := by rw [hsh]; exact ai_ix_ok hb
              have hs' : (ip_sh M x).1 = 1 ∧ (ip_sh M x).2.1 = 1 ∧ ip_ix q (ip_sh M x).2.2 = true := ⟨by rw [hsh]; exact hs.1, by rw [hsh]; exact hs.2.1, hx0⟩
              refine ⟨(nx, vls, .long (M.2.2.1 x q.toNatClampNeg) :: vr, M), by simp only [ip_step, if_pos hs'], ?_⟩
              exact ai_pushL hls h4 (ai_fl64 hE _) hF hG hI h
            · rw [if_neg hs] at h
              cases h
          | _ => cases h
      | _ => cases h
  | iaload =>
    cases st with
    | nil => cases h
    | cons s1 r1 => cases s1 using ai_Ac with
      | i y => cases r1 with
        | nil => cases h
        | cons s2 r => cases s2 using ai_Ac with
          | r x =>
            obtain ⟨q, vr1, e1, h1, h2⟩ := ai_ci hst
            subst e1
            obtain ⟨vr, e2, h4⟩ := ai_cr h2
            subst e2
            unfold ai_step at h
            dsimp only at h
            by_cases hs : (ai_sh x).1 = 1 ∧ (ai_sh x).2.1 = 0 ∧ ai_in E y 0 ((ai_sh x).2.2 - 1) = true
            · rw [if_pos hs] at h
              have hb := ai_in_ok hE h1 hs.2.2
              have hx0 : ip_ix q (ip_sh M x).2.2 = true := by rw [hsh]; exact ai_ix_ok hb
              have hs' : (ip_sh M x).1 = 1 ∧ (ip_sh M x).2.1 = 0 ∧ ip_ix q (ip_sh M x).2.2 = true := ⟨by rw [hsh]; exact hs.1, by rw [hsh]; exact hs.2.1, hx0⟩
              refine ⟨(nx, vls, .int (M.2.1 x q.toNatClampNeg) :: vr, M), by simp only [ip_step, if_pos hs'], ?_⟩
              have hk := ai_TK_ok hTK x q.toNatClampNeg
              have hi := hI x q.toNatClampNeg
              cases hn : y.1 with
              | some m =>
                rw [hn] at h
                exact ai_pushI hls h4 (ai_nw_ok hE (by omega)) hF hG hI h
              | none =>
                rw [hn] at h
                have eq0 : q.toNatClampNeg = y.2.toNat := by
                  have : q.toInt = y.2 := by unfold ai_val at h1; rw [hn] at h1; exact h1
                  rw [← this]
                  rfl
                rw [eq0] at hi ⊢
                dsimp only at h
                cases hl : ai_look F x y.2.toNat with
                | some z =>
                  rw [hl] at h
                  exact ai_pure (st := .i z :: r) hls ⟨⟨_, rfl, ai_look_ok hF hl⟩, h4⟩ hE hF hG hI h
                | none =>
                  rw [hl] at h
                  obtain ⟨t1, k1, k2⟩ := ai_nw_ok (lo := (ai_TT T x y.2.toNat).1) (hi := (ai_TT T x y.2.toNat).2) hE hi
                  cases h
                  refine ⟨_, List.mem_singleton.mpr rfl, t1, rfl, ai_okL_app t1 hls, ⟨⟨_, rfl, k2⟩, ai_okL_app t1 h4⟩, k1, ?_, hG, hI, ai_fr_r W M⟩
                  intro f hf
                  rcases List.mem_cons.mp hf with hf | hf
                  · rw [hf]; exact k2
                  · exact ai_okF_app t1 hF f hf
            · rw [if_neg hs] at h
              cases h
          | _ => cases h
      | _ => cases h
  | aaload =>
    cases st with
    | nil => cases h
    | cons s1 r1 => cases s1 using ai_Ac with
      | i y => cases r1 with
        | nil => cases h
        | cons s2 r => cases s2 using ai_Ac with
          | r x =>
            obtain ⟨q, vr1, e1, h1, h2⟩ := ai_ci hst
            subst e1
            obtain ⟨vr, e2, h4⟩ := ai_cr h2
            subst e2
            unfold ai_step at h
            dsimp only at h
            by_cases hs : (ai_sh x).1 = 1 ∧ 4 ≤ (ai_sh x).2.1 ∧ ai_in E y 0 ((ai_sh x).2.2 - 1) = true ∧ x < 128 ∧ (ai_sh x).2.2 ≤ 48 ∧ ((List.range (ai_sh x).2.2).all fun j => (ai_rf x j).isSome) = true
            · rw [if_pos hs] at h
              have hb := ai_in_ok hE h1 hs.2.2.1
              have hx0 : ip_ix q (ip_sh M x).2.2 = true := by rw [hsh]; exact ai_ix_ok hb
              have hs' : (ip_sh M x).1 = 1 ∧ 4 ≤ (ip_sh M x).2.1 ∧ ip_ix q (ip_sh M x).2.2 = true := ⟨by rw [hsh]; exact hs.1, by rw [hsh]; exact hs.2.1, hx0⟩
              refine ⟨(nx, vls, ip_vr (M.2.2.2 x q.toNatClampNeg) :: vr, M), by simp only [ip_step, if_pos hs'], ?_⟩
              obtain ⟨-, -, -, g4, g5, g6⟩ := hs
              have hj : q.toNatClampNeg < (ai_sh x).2.2 := ai_ix_lt hb
              have hr := hG.2 x q.toNatClampNeg g4 (by omega)
              rw [← ai_rf_eq] at hr
              have hsome := List.all_eq_true.mp g6 q.toNatClampNeg (List.mem_range.mpr hj)
              rw [Option.isSome_iff_exists] at hsome
              obtain ⟨z, hz⟩ := hsome
              have e0 : q.toInt = (q.toNatClampNeg : Int) := by
                have : q.toNatClampNeg = q.toInt.toNat := rfl
                omega
              obtain ⟨E1, e5, h5⟩ := ai_eq_ok hE h1 (show ai_val ρ (none, (q.toNatClampNeg : Int)) (q.toNatClampNeg : Int) from rfl) e0
              cases h
              refine ⟨_, List.mem_flatMap.mpr ⟨q.toNatClampNeg, List.mem_range.mpr hj, ai_opt_ok e5⟩, [], ?_⟩
              rw [List.append_nil]
              refine ⟨rfl, hls, ⟨?_, h4⟩, h5, hF, hG, hI, ai_fr_r W M⟩
              show ip_vr (M.2.2.2 x q.toNatClampNeg) = .ref ((ai_rf x q.toNatClampNeg).getD 0)
              rw [hr (by rw [hz]; rfl), hz]
              rfl
            · rw [if_neg hs] at h
              cases h
          | _ => cases h
      | _ => cases h
  | lastore =>
    cases st with
    | nil => cases h
    | cons s1 r1 => cases s1 using ai_Ac with
      | l z => cases r1 with
        | nil => cases h
        | cons s2 r2 => cases s2 using ai_Ac with
          | i y => cases r2 with
            | nil => cases h
            | cons s3 r => cases s3 using ai_Ac with
              | r x =>
                obtain ⟨p, vr2, e0, h0, h2⟩ := ai_cl hst
                subst e0
                obtain ⟨q, vr1, e1, h1, h3⟩ := ai_ci h2
                subst e1
                obtain ⟨vr, e2, h4⟩ := ai_cr h3
                subst e2
                unfold ai_step at h
                dsimp only at h
                by_cases hs : (ai_sh x).1 = 1 ∧ (ai_sh x).2.1 = 1 ∧ ai_in E y 0 ((ai_sh x).2.2 - 1) = true ∧ W.2.elem (x + 1000) = true
                · rw [if_pos hs] at h
                  have hb := ai_in_ok hE h1 hs.2.2.1
                  have hs' : (ip_sh M x).1 = 1 ∧ (ip_sh M x).2.1 = 1 ∧ ip_ix q (ip_sh M x).2.2 = true := by rw [hsh]; exact ⟨hs.1, hs.2.1, ai_ix_ok hb⟩
                  cases h
                  exact ⟨(nx, vls, vr, ip_uL M x q.toNatClampNeg p), by simp only [ip_step, if_pos hs'], _, List.mem_singleton.mpr rfl, [], rfl, by simpa using hls, by simpa using h4, by simpa using hE, by rw [List.append_nil]; exact hF, (ip_G_uL M x q.toNatClampNeg p).mpr hG, hI, ai_fr_uL (by rw [ai_may_e, hs.2.2.2, Bool.or_true])⟩
                · rw [if_neg hs] at h
                  cases h
              | _ => cases h
          | _ => cases h
      | _ => cases h
  | iastore =>
    cases st with
    | nil => cases h
    | cons s1 r1 => cases s1 using ai_Ac with
      | i z => cases r1 with
        | nil => cases h
        | cons s2 r2 => cases s2 using ai_Ac with
          | i y => cases r2 with
            | nil => cases h
            | cons s3 r => cases s3 using ai_Ac with
              | r x =>
                obtain ⟨p, vr2, e0, h0, h2⟩ := ai_ci hst
                subst e0
                obtain ⟨q, vr1, e1, h1, h3⟩ := ai_ci h2
                subst e1
                obtain ⟨vr, e2, h4⟩ := ai_cr h3
                subst e2
                unfold ai_step at h
                dsimp only at h
                by_cases hs : (ai_sh x).1 = 1 ∧ (ai_sh x).2.1 = 0 ∧ ai_in E y 0 ((ai_sh x).2.2 - 1) = true
                · rw [if_pos hs] at h
                  have hb := ai_in_ok hE h1 hs.2.2
                  have hs' : (ip_sh M x).1 = 1 ∧ (ip_sh M x).2.1 = 0 ∧ ip_ix q (ip_sh M x).2.2 = true := by rw [hsh]; exact ⟨hs.1, hs.2.1, ai_ix_ok hb⟩
                  refine ⟨(nx, vls, vr, ip_uI M x q.toNatClampNeg p), by simp only [ip_step, if_pos hs'], ?_⟩
                  cases hn : y.1 with
                  | none =>
                    rw [hn] at h
                    dsimp only at h
                    have eq0 : q.toNatClampNeg = y.2.toNat := by
                      have : q.toInt = y.2 := by unfold ai_val at h1; rw [hn] at h1; exact h1
                      rw [← this]
                      rfl
                    rw [eq0]
                    by_cases hw : ai_in E z (ai_TT T x y.2.toNat).1 (ai_TT T x y.2.toNat).2 = true ∧ ai_may W x y.2.toNat = true
                    · rw [if_pos hw] at h
                      cases h
                      refine ⟨_, List.mem_singleton.mpr rfl, [], rfl, by simpa using hls, by simpa using h4, by simpa using hE, ?_, (ip_G_uI M x _ p).mpr hG, ai_inv_uI hI (ai_in_ok hE h0 hw.1), ai_fr_uI hw.2⟩
                      rw [List.append_nil]
                      intro f hf
                      rcases List.mem_cons.mp hf with hf | hf
                      · rw [hf]
                        show ai_val ρ z (if x = x ∧ y.2.toNat = y.2.toNat then p else M.2.1 x y.2.toNat).toInt
                        rw [if_pos ⟨rfl, rfl⟩]
                        exact h0
                      · exact ai_drop_ok p hF f hf
                    · rw [if_neg hw] at h
                      cases h
                  | some m =>
                    rw [hn] at h
                    dsimp only at h
                    by_cases hw : ai_TJ T x (ai_iv E y).1 (ai_iv E y).2 (ai_iv E z).1 (ai_iv E z).2 = true ∧ W.2.elem x = true
                    · rw [if_pos hw] at h
                      cases h
                      have hz := ai_iv_ok hE h0
                      have hj := ai_iv_ok hE h1
                      have eqn : q.toNatClampNeg = q.toInt.toNat := rfl
                      have ht := ai_TJ_ok hw.1 q.toNatClampNeg (by omega) (by omega)
                      refine ⟨_, List.mem_singleton.mpr rfl, [], rfl, by simpa using hls, by simpa using h4, by simpa using hE, ?_, (ip_G_uI M x _ p).mpr hG, ai_inv_uI hI (by omega), ai_fr_uI (by rw [ai_may_e, hw.2, Bool.or_true])⟩
                      rw [List.append_nil]
                      refine ai_dropc_ok hF ?_
                      intro c d hc
                      show (if c = x ∧ d = q.toNatClampNeg then p else M.2.1 c d) = _
                      rw [if_neg (fun g => hc g.1)]
                    · rw [if_neg hw] at h
                      cases h
                · rw [if_neg hs] at h
                  cases h
              | _ => cases h
          | _ => cases h
      | _ => cases h
  | bastore =>
    cases st with
    | nil => cases h
    | cons s1 r1 => cases s1 using ai_Ac with
      | i z => cases r1 with
        | nil => cases h
        | cons s2 r2 => cases s2 using ai_Ac with
          | i y => cases r2 with
            | nil => cases h
            | cons s3 r => cases s3 using ai_Ac with
              | r x =>
                obtain ⟨p, vr2, e0, h0, h2⟩ := ai_ci hst
                subst e0
                obtain ⟨q, vr1, e1, h1, h3⟩ := ai_ci h2
                subst e1
                obtain ⟨vr, e2, h4⟩ := ai_cr h3
                subst e2
                unfold ai_step at h
                dsimp only at h
                by_cases hs : (ai_sh x).1 = 1 ∧ ai_in E y 0 ((ai_sh x).2.2 - 1) = true ∧ ((ai_sh x).2.1 = 2 ∧ ai_TI T x (-128) 127 = true ∨ (ai_sh x).2.1 = 3 ∧ ai_TI T x 0 1 = true) ∧ W.2.elem x = true
                · rw [if_pos hs] at h
                  obtain ⟨g1, g2, g3, g4⟩ := hs
                  have hb := ai_in_ok hE h1 g2
                  have hs' : (ip_sh M x).1 = 1 ∧ ((ip_sh M x).2.1 = 2 ∨ (ip_sh M x).2.1 = 3) ∧ ip_ix q (ip_sh M x).2.2 = true := by rw [hsh]; exact ⟨g1, g3.imp (fun g => g.1) (fun g => g.1), ai_ix_ok hb⟩
                  have hv : (ai_TT T x q.toNatClampNeg).1 ≤ (if (ip_sh M x).2.1 = 2 then p.toInt8.toInt32 else p &&& 1).toInt ∧ (if (ip_sh M x).2.1 = 2 then p.toInt8.toInt32 else p &&& 1).toInt ≤ (ai_TT T x q.toNatClampNeg).2 := by
                    rw [hsh]
                    rcases g3 with g | g
                    · rw [if_pos g.1]
                      have ht := ai_TI_ok g.2 q.toNatClampNeg
                      have e8 : p.toInt8.toInt32.toInt = p.toInt.bmod 256 := by rw [Int8.toInt_toInt32, Int32.toInt_toInt8]
                      have b1 := Int.le_bmod (x := p.toInt) (m := 256) (by decide)
                      have b2 := Int.bmod_lt (x := p.toInt) (m := 256) (by decide)
                      rw [e8]
                      omega
                    · rw [if_neg (by omega)]
                      have ht := ai_TI_ok g.2 q.toNatClampNeg
                      have hn := ai_32_and p 1 (by decide)
                      have e1 : (1 : Int32).toInt = 1 := rfl
                      omega
                  cases h
                  refine ⟨(nx, vls, vr, ip_uI M x q.toNatClampNeg (if (ip_sh M x).2.1 = 2 then p.toInt8.toInt32 else p &&& 1)), by simp only [ip_step, if_pos hs'], _, List.mem_singleton.mpr rfl, [], rfl, by simpa using hls, by simpa using h4, by simpa using hE, ?_, (ip_G_uI M x _ _).mpr hG, ai_inv_uI hI hv, ai_fr_uI (by rw [ai_may_e, g4, Bool.or_true])⟩
                  rw [List.append_nil]
                  refine ai_dropc_ok hF ?_
                  intro c d hc
                  show (if c = x ∧ d = q.toNatClampNeg then _ else M.2.1 c d) = _
                  rw [if_neg (fun g => hc g.1)]
                · rw [if_neg hs] at h
                  cases h
              | _ => cases h
          | _ => cases h
      | _ => cases h
  | invokestatic n0 =>
    cases st with
    | nil => cases h
    | cons s1 r1 => cases s1 using ai_Ac with
      | i n => cases r1 with
        | nil => cases h
        | cons s2 r2 => cases s2 using ai_Ac with
          | i dp => cases r2 with
            | nil => cases h
            | cons s3 r3 => cases s3 using ai_Ac with
              | r k1 => cases r3 with
                | nil => cases h
                | cons s4 r4 => cases s4 using ai_Ac with
                  | i sp => cases r4 with
                    | nil => cases h
                    | cons s5 r => cases s5 using ai_Ac with
                      | r k0 =>
                        obtain ⟨qn, v1, e1, h1, h2⟩ := ai_ci hst
                        subst e1
                        obtain ⟨qd, v2, e2, h3, h4⟩ := ai_ci h2
                        subst e2
                        obtain ⟨v3, e3, h5⟩ := ai_cr h4
                        subst e3
                        obtain ⟨qs, v4, e4, h6, h7⟩ := ai_ci h5
                        subst e4
                        obtain ⟨vr, e5, h8⟩ := ai_cr h7
                        subst e5
                        unfold ai_step at h
                        dsimp only at h
                        split at h
                        · rename_i hs
                          obtain ⟨g1, g2, g3, g4, g5, g6, g7, g8, g9, g10, g11, g12, g13, g14, g15⟩ := hs
                          have en : qn.toInt = n.2 := by unfold ai_val at h1; rw [g7] at h1; exact h1
                          have ed : qd.toInt = dp.2 := by unfold ai_val at h3; rw [g8] at h3; exact h3
                          have es : qs.toInt = sp.2 := by unfold ai_val at h6; rw [g9] at h6; exact h6
                          have cn : qn.toNatClampNeg = n.2.toNat := by rw [← en]; rfl
                          have cd : qd.toNatClampNeg = dp.2.toNat := by rw [← ed]; rfl
                          have cs : qs.toNatClampNeg = sp.2.toNat := by rw [← es]; rfl
                          have nn : ¬ qn < 0 := by rw [Int32.lt_iff_toInt_lt, Int32.toInt_zero]; omega
                          have nd : ¬ qd < 0 := by rw [Int32.lt_iff_toInt_lt, Int32.toInt_zero]; omega
                          have ns : ¬ qs < 0 := by rw [Int32.lt_iff_toInt_lt, Int32.toInt_zero]; omega
                          have hlen : vr.length ≤ 4 := by have := ai_two2_len h8; omega
                          have hcond : t = 7 ∧ vr.length ≤ 4 ∧ (ip_sh M k0).1 = 1 ∧ (ip_sh M k1).1 = 1 ∧ (ip_sh M k0).2.1 = (ip_sh M k1).2.1 ∧ (ip_sh M k0).2.1 < 3 ∧ ¬ qs < 0 ∧ ¬ qd < 0 ∧ ¬ qn < 0 ∧ qs.toNatClampNeg + qn.toNatClampNeg ≤ (ip_sh M k0).2.2 ∧ qd.toNatClampNeg + qn.toNatClampNeg ≤ (ip_sh M k1).2.2 := by
                            rw [hsh, hsh, cn, cd, cs]
                            exact ⟨g1, hlen, g3, g4, g5, g6, ns, nd, nn, g13, g14⟩
                          cases h
                          rcases g15 with ⟨g, gw⟩ | ⟨gn, ga, gb, gc⟩
                          · refine ⟨(nx, vls, vr, ip_cpL M k0 k1 qs.toNatClampNeg qd.toNatClampNeg qn.toNatClampNeg), by simp only [ip_step, if_pos hcond, if_pos (show (ip_sh M k0).2.1 = 1 by rw [hsh]; exact g)], _, List.mem_singleton.mpr rfl, [], rfl, by simpa using hls, by simpa using h8, by simpa using hE, ?_, (ip_G_cpL M _ _ _ _ _).mpr hG, hI, ai_fr_cpL gw⟩
                            rw [List.append_nil]
                            exact ai_dropc_ok hF (fun _ _ _ => rfl)
                          · skip
                            have hval : ∀ j, (ai_TA T k0).1 ≤ (M.2.1 k0 j).toInt ∧ (M.2.1 k0 j).toInt ≤ (ai_TA T k0).2 := by
                              intro j
                              have a1 := ai_TK_ok hTK k0 j
                              have a2 := hI k0 j
                              omega
                            have hfit : (ip_sh M k0).2.1 = 0 ∨ ∀ i ∈ List.range qn.toNatClampNeg, fits .byte (.int (M.2.1 k0 (qs.toNatClampNeg + i))) = true := by
                              rcases ga with g | g
                              · exact Or.inl (by rw [hsh]; exact g)
                              · refine Or.inr fun i _ => ?_
                                have := hval (qs.toNatClampNeg + i)
                                exact ai_byte (by omega) (by omega)
                            have g : ¬ (ip_sh M k0).2.1 = 1 := by rw [hsh]; exact gn
                            · refine ⟨(nx, vls, vr, ip_cpI M k0 k1 qs.toNatClampNeg qd.toNatClampNeg qn.toNatClampNeg), by simp only [ip_step, if_pos hcond, if_neg g, if_pos hfit], _, List.mem_singleton.mpr rfl, [], rfl, by simpa using hls, by simpa using h8, by simpa using hE, ?_, (ip_G_cpI M _ _ _ _ _).mpr hG, ?_, ?_⟩
                              · rw [List.append_nil]
                                refine ai_dropc_ok hF ?_
                                intro c d hc
                                rw [ip_cpI_I, if_neg hc]
                              · intro c d
                                show (ai_TT T c d).1 ≤ ((ip_cpI M k0 k1 qs.toNatClampNeg qd.toNatClampNeg qn.toNatClampNeg).2.1 c d).toInt ∧ ((ip_cpI M k0 k1 qs.toNatClampNeg qd.toNatClampNeg qn.toNatClampNeg).2.1 c d).toInt ≤ (ai_TT T c d).2
                                rw [ip_cpI_I]
                                split
                                · rename_i hc
                                  rw [hc]
                                  rcases ai_cpy (M.2.1 k0) (M.2.1 k1) qs.toNatClampNeg qd.toNatClampNeg qn.toNatClampNeg d with g9 | ⟨j, g9⟩
                                  · rw [g9]; exact hI k1 d
                                  · rw [g9]
                                    have := hval j
                                    have := ai_TI_ok gb d
                                    omega
                                · exact hI c d
                              · refine ⟨?_, fun _ _ _ => rfl⟩
                                intro c d hcd
                                show (ip_cpI M k0 k1 qs.toNatClampNeg qd.toNatClampNeg qn.toNatClampNeg).2.1 c d = _
                                rw [ip_cpI_I, if_neg]
                                intro hc
                                rw [ai_may_e] at hcd
                                rw [hc, gc, Bool.or_true] at hcd
                                cases hcd
                        · cases h
                      | _ => cases h
                  | _ => cases h
              | _ => cases h
          | _ => cases h
      | _ => cases h
  | _ => cases h
