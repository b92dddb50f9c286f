-- SOUNDNESS, one instruction at a time
section IPS
variable {p : Program} {l : Launch} {e : Env} {R : Room} {s : State} {m : MethodId} {args : Array Value} {below : List Frame} {meth : Method} {c : Code} {H : Heap} {locs : List Loc} {cells slots : Nat} {Q : State → Prop}
variable {D : va_G} {cA : Nat → ClassId} {base b y pc : Nat} {X : ip_X} {H0 : Heap} {M : ip_H} {ls st : List Value} {arr : Array Slot} {z : ip_Z} {i : Instr} {nx a k2 t w : Nat} {v : Value} {ts : List Nat}
/-- what is owed of an instruction: the machine goes where the step goes (no cell made) -/
def ip_go (p : Program) (l : Launch) (e : Env) (R : Room) (s : State) (m : MethodId) (args : Array Value) (below : List Frame) (meth : Method) (c : Code) (cells slots : Nat) (Q : State → Prop) (D : va_G) (cA : Nat → ClassId) (base b y : Nat) (H0 : Heap) (z : ip_Z) : Prop :=
  ∀ (H' : Heap) (locs' : List Loc) (arr' : Array Slot), ip_Rl D cA base H0 s z.2.2.2 H' locs' → lv_has arr' (ip_ml y) (ip_pl b base z.2.1) → z.2.1.length = ip_ml y → W p l e R s m args below meth c H' locs' cells slots Q (F0 m z.1 arr' (z.2.2.1.map (ip_rn b base)))

theorem ip_s_iconst {n : Int} (C : ip_Cx D cA y p R s m meth c) (hok : ip_ok y pc ((.iconst n), nx, a, k2, t, w, v, ts) = true) (hs : ip_step y X ((.iconst n), nx, a, k2, t, w, v, ts) ls st M = some z) (hR : ip_Rl D cA base H0 s M H locs) (hl : lv_has arr (ip_ml y) (ip_pl b base ls)) (hlen : ls.length = ip_ml y)
    (kk : ip_go p l e R s m args below meth c cells slots Q D cA base b y H0 z) : W p l e R s m args below meth c H locs cells slots Q (F0 m pc arr (st.map (ip_rn b base))) := by
  obtain ⟨hx, hb, hml, hown, hW, hK, hA, hnm, hfr, hlo⟩ := C
  simp only [ip_ok, Bool.and_eq_true, decide_eq_true_eq] at hok
  obtain ⟨h1, rfl⟩ := hok
  obtain ⟨hd, rfl⟩ := ip_dc_spec h1
  cases hs
  exact lv_iconst hx hb hd rfl (kk H locs arr hR hl hlen)

theorem ip_s_bipush {n : Int} (C : ip_Cx D cA y p R s m meth c) (hok : ip_ok y pc ((.bipush n), nx, a, k2, t, w, v, ts) = true) (hs : ip_step y X ((.bipush n), nx, a, k2, t, w, v, ts) ls st M = some z) (hR : ip_Rl D cA base H0 s M H locs) (hl : lv_has arr (ip_ml y) (ip_pl b base ls)) (hlen : ls.length = ip_ml y)
    (kk : ip_go p l e R s m args below meth c cells slots Q D cA base b y H0 z) : W p l e R s m args below meth c H locs cells slots Q (F0 m pc arr (st.map (ip_rn b base))) := by
  obtain ⟨hx, hb, hml, hown, hW, hK, hA, hnm, hfr, hlo⟩ := C
  simp only [ip_ok, Bool.and_eq_true, decide_eq_true_eq] at hok
  obtain ⟨h1, rfl⟩ := hok
  obtain ⟨hd, rfl⟩ := ip_dc_spec h1
  cases hs
  exact lv_bipush hx hb hd rfl (kk H locs arr hR hl hlen)

theorem ip_s_sipush {n : Int} (C : ip_Cx D cA y p R s m meth c) (hok : ip_ok y pc ((.sipush n), nx, a, k2, t, w, v, ts) = true) (hs : ip_step y X ((.sipush n), nx, a, k2, t, w, v, ts) ls st M = some z) (hR : ip_Rl D cA base H0 s M H locs) (hl : lv_has arr (ip_ml y) (ip_pl b base ls)) (hlen : ls.length = ip_ml y)
    (kk : ip_go p l e R s m args below meth c cells slots Q D cA base b y H0 z) : W p l e R s m args below meth c H locs cells slots Q (F0 m pc arr (st.map (ip_rn b base))) := by
  obtain ⟨hx, hb, hml, hown, hW, hK, hA, hnm, hfr, hlo⟩ := C
  simp only [ip_ok, Bool.and_eq_true, decide_eq_true_eq] at hok
  obtain ⟨h1, rfl⟩ := hok
  obtain ⟨hd, rfl⟩ := ip_dc_spec h1
  cases hs
  exact lv_sipush hx hb hd rfl (kk H locs arr hR hl hlen)

theorem ip_s_lconst {n : Fin 2} (C : ip_Cx D cA y p R s m meth c) (hok : ip_ok y pc ((.lconst n), nx, a, k2, t, w, v, ts) = true) (hs : ip_step y X ((.lconst n), nx, a, k2, t, w, v, ts) ls st M = some z) (hR : ip_Rl D cA base H0 s M H locs) (hl : lv_has arr (ip_ml y) (ip_pl b base ls)) (hlen : ls.length = ip_ml y)
    (kk : ip_go p l e R s m args below meth c cells slots Q D cA base b y H0 z) : W p l e R s m args below meth c H locs cells slots Q (F0 m pc arr (st.map (ip_rn b base))) := by
  obtain ⟨hx, hb, hml, hown, hW, hK, hA, hnm, hfr, hlo⟩ := C
  simp only [ip_ok, Bool.and_eq_true, decide_eq_true_eq] at hok
  obtain ⟨h1, rfl⟩ := hok
  obtain ⟨hd, rfl⟩ := ip_dc_spec h1
  cases hs
  exact lv_lconst hx hb hd rfl (kk H locs arr hR hl hlen)

theorem ip_s_ldc {n : Nat} (C : ip_Cx D cA y p R s m meth c) (hok : ip_ok y pc ((.ldc n), nx, a, k2, t, w, v, ts) = true) (hs : ip_step y X ((.ldc n), nx, a, k2, t, w, v, ts) ls st M = some z) (hR : ip_Rl D cA base H0 s M H locs) (hl : lv_has arr (ip_ml y) (ip_pl b base ls)) (hlen : ls.length = ip_ml y)
    (kk : ip_go p l e R s m args below meth c cells slots Q D cA base b y H0 z) : W p l e R s m args below meth c H locs cells slots Q (F0 m pc arr (st.map (ip_rn b base))) := by
  obtain ⟨hx, hb, hml, hown, hW, hK, hA, hnm, hfr, hlo⟩ := C
  simp only [ip_ok, Bool.and_eq_true] at hok
  obtain ⟨h1, h2⟩ := hok
  obtain ⟨hd, rfl⟩ := ip_dc_spec h1
  cases hs
  cases v with
  | int x =>
    have h3 : lw_tbl[w]? = some (.constant (ip_os y) n x) := by simpa using h2
    exact lv_ldc hx hb hown (hW.use (List.mem_of_getElem? h3) rfl _) hd (kk H locs arr hR hl hlen)
  | _ => simp at h2

theorem ip_s_ldc_w {n : Nat} (C : ip_Cx D cA y p R s m meth c) (hok : ip_ok y pc ((.ldc_w n), nx, a, k2, t, w, v, ts) = true) (hs : ip_step y X ((.ldc_w n), nx, a, k2, t, w, v, ts) ls st M = some z) (hR : ip_Rl D cA base H0 s M H locs) (hl : lv_has arr (ip_ml y) (ip_pl b base ls)) (hlen : ls.length = ip_ml y)
    (kk : ip_go p l e R s m args below meth c cells slots Q D cA base b y H0 z) : W p l e R s m args below meth c H locs cells slots Q (F0 m pc arr (st.map (ip_rn b base))) := by
  obtain ⟨hx, hb, hml, hown, hW, hK, hA, hnm, hfr, hlo⟩ := C
  simp only [ip_ok, Bool.and_eq_true] at hok
  obtain ⟨h1, h2⟩ := hok
  obtain ⟨hd, rfl⟩ := ip_dc_spec h1
  cases hs
  cases v with
  | int x =>
    have h3 : lw_tbl[w]? = some (.constant (ip_os y) n x) := by simpa using h2
    exact lv_ldcw hx hb hown (hW.use (List.mem_of_getElem? h3) rfl _) hd (kk H locs arr hR hl hlen)
  | _ => simp at h2

theorem ip_s_ldc2_w {n : Nat} (C : ip_Cx D cA y p R s m meth c) (hok : ip_ok y pc ((.ldc2_w n), nx, a, k2, t, w, v, ts) = true) (hs : ip_step y X ((.ldc2_w n), nx, a, k2, t, w, v, ts) ls st M = some z) (hR : ip_Rl D cA base H0 s M H locs) (hl : lv_has arr (ip_ml y) (ip_pl b base ls)) (hlen : ls.length = ip_ml y)
    (kk : ip_go p l e R s m args below meth c cells slots Q D cA base b y H0 z) : W p l e R s m args below meth c H locs cells slots Q (F0 m pc arr (st.map (ip_rn b base))) := by
  obtain ⟨hx, hb, hml, hown, hW, hK, hA, hnm, hfr, hlo⟩ := C
  simp only [ip_ok, Bool.and_eq_true] at hok
  obtain ⟨h1, h2⟩ := hok
  obtain ⟨hd, rfl⟩ := ip_dc_spec h1
  cases hs
  cases v with
  | long x =>
    have h3 : lw_tbl[w]? = some (.constantLong (ip_os y) n x) := by simpa using h2
    exact lv_ldc2 hx hb hown (hW.use (List.mem_of_getElem? h3) rfl _) hd (kk H locs arr hR hl hlen)
  | _ => simp at h2

theorem ip_s_iload {n : Nat} (C : ip_Cx D cA y p R s m meth c) (hok : ip_ok y pc ((.iload n), nx, a, k2, t, w, v, ts) = true) (hs : ip_step y X ((.iload n), nx, a, k2, t, w, v, ts) ls st M = some z) (hR : ip_Rl D cA base H0 s M H locs) (hl : lv_has arr (ip_ml y) (ip_pl b base ls)) (hlen : ls.length = ip_ml y)
    (kk : ip_go p l e R s m args below meth c cells slots Q D cA base b y H0 z) : W p l e R s m args below meth c H locs cells slots Q (F0 m pc arr (st.map (ip_rn b base))) := by
  obtain ⟨hx, hb, hml, hown, hW, hK, hA, hnm, hfr, hlo⟩ := C
  simp only [ip_ok, Bool.and_eq_true, decide_eq_true_eq] at hok
  obtain ⟨h1, h2⟩ := hok
  obtain ⟨hd, rfl⟩ := ip_dc_spec h1
  simp only [ip_step] at hs
  split at hs
  · rename_i x hg
    cases hs
    have hv := ip_lv_get hl (i := a) (by rw [hg]; exact fun q => by cases q)
    rw [hg] at hv
    exact lv_iload hx hb hd (by rw [h2]; exact hv) (kk H locs arr hR hl hlen)
  · cases hs

theorem ip_s_iload_n {n : Fin 4} (C : ip_Cx D cA y p R s m meth c) (hok : ip_ok y pc ((.iload_n n), nx, a, k2, t, w, v, ts) = true) (hs : ip_step y X ((.iload_n n), nx, a, k2, t, w, v, ts) ls st M = some z) (hR : ip_Rl D cA base H0 s M H locs) (hl : lv_has arr (ip_ml y) (ip_pl b base ls)) (hlen : ls.length = ip_ml y)
    (kk : ip_go p l e R s m args below meth c cells slots Q D cA base b y H0 z) : W p l e R s m args below meth c H locs cells slots Q (F0 m pc arr (st.map (ip_rn b base))) := by
  obtain ⟨hx, hb, hml, hown, hW, hK, hA, hnm, hfr, hlo⟩ := C
  simp only [ip_ok, Bool.and_eq_true, decide_eq_true_eq] at hok
  obtain ⟨h1, h2⟩ := hok
  obtain ⟨hd, rfl⟩ := ip_dc_spec h1
  simp only [ip_step] at hs
  split at hs
  · rename_i x hg
    cases hs
    have hv := ip_lv_get hl (i := a) (by rw [hg]; exact fun q => by cases q)
    rw [hg] at hv
    exact lv_iload_n hx hb hd h2 hv (kk H locs arr hR hl hlen)
  · cases hs

theorem ip_s_lload {n : Nat} (C : ip_Cx D cA y p R s m meth c) (hok : ip_ok y pc ((.lload n), nx, a, k2, t, w, v, ts) = true) (hs : ip_step y X ((.lload n), nx, a, k2, t, w, v, ts) ls st M = some z) (hR : ip_Rl D cA base H0 s M H locs) (hl : lv_has arr (ip_ml y) (ip_pl b base ls)) (hlen : ls.length = ip_ml y)
    (kk : ip_go p l e R s m args below meth c cells slots Q D cA base b y H0 z) : W p l e R s m args below meth c H locs cells slots Q (F0 m pc arr (st.map (ip_rn b base))) := by
  obtain ⟨hx, hb, hml, hown, hW, hK, hA, hnm, hfr, hlo⟩ := C
  simp only [ip_ok, Bool.and_eq_true, decide_eq_true_eq] at hok
  obtain ⟨h1, h2⟩ := hok
  obtain ⟨hd, rfl⟩ := ip_dc_spec h1
  simp only [ip_step] at hs
  split at hs
  · rename_i x hg
    cases hs
    have hv := ip_lv_get hl (i := a) (by rw [hg]; exact fun q => by cases q)
    rw [hg] at hv
    exact lv_lload hx hb hd (by rw [h2]; exact hv) (kk H locs arr hR hl hlen)
  · cases hs

theorem ip_s_lload_n {n : Fin 4} (C : ip_Cx D cA y p R s m meth c) (hok : ip_ok y pc ((.lload_n n), nx, a, k2, t, w, v, ts) = true) (hs : ip_step y X ((.lload_n n), nx, a, k2, t, w, v, ts) ls st M = some z) (hR : ip_Rl D cA base H0 s M H locs) (hl : lv_has arr (ip_ml y) (ip_pl b base ls)) (hlen : ls.length = ip_ml y)
    (kk : ip_go p l e R s m args below meth c cells slots Q D cA base b y H0 z) : W p l e R s m args below meth c H locs cells slots Q (F0 m pc arr (st.map (ip_rn b base))) := by
  obtain ⟨hx, hb, hml, hown, hW, hK, hA, hnm, hfr, hlo⟩ := C
  simp only [ip_ok, Bool.and_eq_true, decide_eq_true_eq] at hok
  obtain ⟨h1, h2⟩ := hok
  obtain ⟨hd, rfl⟩ := ip_dc_spec h1
  simp only [ip_step] at hs
  split at hs
  · rename_i x hg
    cases hs
    have hv := ip_lv_get hl (i := a) (by rw [hg]; exact fun q => by cases q)
    rw [hg] at hv
    exact lv_lload_n hx hb hd h2 hv (kk H locs arr hR hl hlen)
  · cases hs

theorem ip_s_aload {n : Nat} (C : ip_Cx D cA y p R s m meth c) (hok : ip_ok y pc ((.aload n), nx, a, k2, t, w, v, ts) = true) (hs : ip_step y X ((.aload n), nx, a, k2, t, w, v, ts) ls st M = some z) (hR : ip_Rl D cA base H0 s M H locs) (hl : lv_has arr (ip_ml y) (ip_pl b base ls)) (hlen : ls.length = ip_ml y)
    (kk : ip_go p l e R s m args below meth c cells slots Q D cA base b y H0 z) : W p l e R s m args below meth c H locs cells slots Q (F0 m pc arr (st.map (ip_rn b base))) := by
  obtain ⟨hx, hb, hml, hown, hW, hK, hA, hnm, hfr, hlo⟩ := C
  simp only [ip_ok, Bool.and_eq_true, decide_eq_true_eq] at hok
  obtain ⟨h1, h2⟩ := hok
  obtain ⟨hd, rfl⟩ := ip_dc_spec h1
  simp only [ip_step] at hs
  split at hs
  · rename_i x hg
    cases hs
    have hv := ip_lv_get hl (i := a) (by rw [hg]; exact fun q => by cases q)
    rw [hg] at hv
    exact lv_aload hx hb hd (by rw [h2]; exact hv) (kk H locs arr hR hl hlen)
  · rename_i hg
    cases hs
    have hv := ip_lv_get hl (i := a) (by rw [hg]; exact fun q => by cases q)
    rw [hg] at hv
    exact lv_aload hx hb hd (by rw [h2]; exact hv) (kk H locs arr hR hl hlen)
  · cases hs

theorem ip_s_aload_n {n : Fin 4} (C : ip_Cx D cA y p R s m meth c) (hok : ip_ok y pc ((.aload_n n), nx, a, k2, t, w, v, ts) = true) (hs : ip_step y X ((.aload_n n), nx, a, k2, t, w, v, ts) ls st M = some z) (hR : ip_Rl D cA base H0 s M H locs) (hl : lv_has arr (ip_ml y) (ip_pl b base ls)) (hlen : ls.length = ip_ml y)
    (kk : ip_go p l e R s m args below meth c cells slots Q D cA base b y H0 z) : W p l e R s m args below meth c H locs cells slots Q (F0 m pc arr (st.map (ip_rn b base))) := by
  obtain ⟨hx, hb, hml, hown, hW, hK, hA, hnm, hfr, hlo⟩ := C
  simp only [ip_ok, Bool.and_eq_true, decide_eq_true_eq] at hok
  obtain ⟨h1, h2⟩ := hok
  obtain ⟨hd, rfl⟩ := ip_dc_spec h1
  simp only [ip_step] at hs
  split at hs
  · rename_i x hg
    cases hs
    have hv := ip_lv_get hl (i := a) (by rw [hg]; exact fun q => by cases q)
    rw [hg] at hv
    exact lv_aload_n hx hb hd h2 hv (kk H locs arr hR hl hlen)
  · rename_i hg
    cases hs
    have hv := ip_lv_get hl (i := a) (by rw [hg]; exact fun q => by cases q)
    rw [hg] at hv
    exact lv_aload_n hx hb hd h2 hv (kk H locs arr hR hl hlen)
  · cases hs

theorem ip_s_istore {n : Nat} (C : ip_Cx D cA y p R s m meth c) (hok : ip_ok y pc ((.istore n), nx, a, k2, t, w, v, ts) = true) (hs : ip_step y X ((.istore n), nx, a, k2, t, w, v, ts) ls st M = some z) (hR : ip_Rl D cA base H0 s M H locs) (hl : lv_has arr (ip_ml y) (ip_pl b base ls)) (hlen : ls.length = ip_ml y)
    (kk : ip_go p l e R s m args below meth c cells slots Q D cA base b y H0 z) : W p l e R s m args below meth c H locs cells slots Q (F0 m pc arr (st.map (ip_rn b base))) := by
  obtain ⟨hx, hb, hml, hown, hW, hK, hA, hnm, hfr, hlo⟩ := C
  simp only [ip_ok, Bool.and_eq_true, decide_eq_true_eq] at hok
  obtain ⟨h1, h2, h3⟩ := hok
  obtain ⟨hd, rfl⟩ := ip_dc_spec h1
  obtain ⟨x, r, rfl, hz⟩ := ip_i1_inv hs
  cases hz
  subst h2
  exact lv_istore hx hb hd hl h3 rfl (fun arr' hl' => kk H locs arr' hR (ip_lv_set1 (v := .int x) (by rw [hlen]; exact h3) rfl hl') ((ip_set1_len _ _ _).trans hlen))

theorem ip_s_istore_n {n : Fin 4} (C : ip_Cx D cA y p R s m meth c) (hok : ip_ok y pc ((.istore_n n), nx, a, k2, t, w, v, ts) = true) (hs : ip_step y X ((.istore_n n), nx, a, k2, t, w, v, ts) ls st M = some z) (hR : ip_Rl D cA base H0 s M H locs) (hl : lv_has arr (ip_ml y) (ip_pl b base ls)) (hlen : ls.length = ip_ml y)
    (kk : ip_go p l e R s m args below meth c cells slots Q D cA base b y H0 z) : W p l e R s m args below meth c H locs cells slots Q (F0 m pc arr (st.map (ip_rn b base))) := by
  obtain ⟨hx, hb, hml, hown, hW, hK, hA, hnm, hfr, hlo⟩ := C
  simp only [ip_ok, Bool.and_eq_true, decide_eq_true_eq] at hok
  obtain ⟨h1, h2, h3⟩ := hok
  obtain ⟨hd, rfl⟩ := ip_dc_spec h1
  obtain ⟨x, r, rfl, hz⟩ := ip_i1_inv hs
  cases hz
  skip
  exact lv_istore_n hx hb hd h2 hl h3 rfl (fun arr' hl' => kk H locs arr' hR (ip_lv_set1 (v := .int x) (by rw [hlen]; exact h3) rfl hl') ((ip_set1_len _ _ _).trans hlen))

theorem ip_s_lstore {n : Nat} (C : ip_Cx D cA y p R s m meth c) (hok : ip_ok y pc ((.lstore n), nx, a, k2, t, w, v, ts) = true) (hs : ip_step y X ((.lstore n), nx, a, k2, t, w, v, ts) ls st M = some z) (hR : ip_Rl D cA base H0 s M H locs) (hl : lv_has arr (ip_ml y) (ip_pl b base ls)) (hlen : ls.length = ip_ml y)
    (kk : ip_go p l e R s m args below meth c cells slots Q D cA base b y H0 z) : W p l e R s m args below meth c H locs cells slots Q (F0 m pc arr (st.map (ip_rn b base))) := by
  obtain ⟨hx, hb, hml, hown, hW, hK, hA, hnm, hfr, hlo⟩ := C
  simp only [ip_ok, Bool.and_eq_true, decide_eq_true_eq] at hok
  obtain ⟨h1, h2, h3⟩ := hok
  obtain ⟨hd, rfl⟩ := ip_dc_spec h1
  obtain ⟨x, r, rfl, hz⟩ := ip_l1_inv hs
  cases hz
  subst h2
  exact lv_lstore hx hb hd hl h3 rfl (fun arr' hl' => kk H locs arr' hR (ip_lv_set2 (v := .long x) (by rw [hlen]; exact h3) rfl hl') ((ip_set2_len _ _ _).trans hlen))

theorem ip_s_lstore_n {n : Fin 4} (C : ip_Cx D cA y p R s m meth c) (hok : ip_ok y pc ((.lstore_n n), nx, a, k2, t, w, v, ts) = true) (hs : ip_step y X ((.lstore_n n), nx, a, k2, t, w, v, ts) ls st M = some z) (hR : ip_Rl D cA base H0 s M H locs) (hl : lv_has arr (ip_ml y) (ip_pl b base ls)) (hlen : ls.length = ip_ml y)
    (kk : ip_go p l e R s m args below meth c cells slots Q D cA base b y H0 z) : W p l e R s m args below meth c H locs cells slots Q (F0 m pc arr (st.map (ip_rn b base))) := by
  obtain ⟨hx, hb, hml, hown, hW, hK, hA, hnm, hfr, hlo⟩ := C
  simp only [ip_ok, Bool.and_eq_true, decide_eq_true_eq] at hok
  obtain ⟨h1, h2, h3⟩ := hok
  obtain ⟨hd, rfl⟩ := ip_dc_spec h1
  obtain ⟨x, r, rfl, hz⟩ := ip_l1_inv hs
  cases hz
  skip
  exact lv_lstore_n hx hb hd h2 hl h3 rfl (fun arr' hl' => kk H locs arr' hR (ip_lv_set2 (v := .long x) (by rw [hlen]; exact h3) rfl hl') ((ip_set2_len _ _ _).trans hlen))

theorem ip_s_astore {n : Nat} (C : ip_Cx D cA y p R s m meth c) (hok : ip_ok y pc ((.astore n), nx, a, k2, t, w, v, ts) = true) (hs : ip_step y X ((.astore n), nx, a, k2, t, w, v, ts) ls st M = some z) (hR : ip_Rl D cA base H0 s M H locs) (hl : lv_has arr (ip_ml y) (ip_pl b base ls)) (hlen : ls.length = ip_ml y)
    (kk : ip_go p l e R s m args below meth c cells slots Q D cA base b y H0 z) : W p l e R s m args below meth c H locs cells slots Q (F0 m pc arr (st.map (ip_rn b base))) := by
  obtain ⟨hx, hb, hml, hown, hW, hK, hA, hnm, hfr, hlo⟩ := C
  simp only [ip_ok, Bool.and_eq_true, decide_eq_true_eq] at hok
  obtain ⟨h1, h2, h3⟩ := hok
  obtain ⟨hd, rfl⟩ := ip_dc_spec h1
  obtain ⟨x, r, rfl, hz⟩ := ip_r1_inv hs
  cases hz
  subst h2
  exact lv_astore hx hb hd hl h3 rfl (fun arr' hl' => kk H locs arr' hR (ip_lv_set1 (v := .ref x) (by rw [hlen]; exact h3) rfl hl') ((ip_set1_len _ _ _).trans hlen))

theorem ip_s_astore_n {n : Fin 4} (C : ip_Cx D cA y p R s m meth c) (hok : ip_ok y pc ((.astore_n n), nx, a, k2, t, w, v, ts) = true) (hs : ip_step y X ((.astore_n n), nx, a, k2, t, w, v, ts) ls st M = some z) (hR : ip_Rl D cA base H0 s M H locs) (hl : lv_has arr (ip_ml y) (ip_pl b base ls)) (hlen : ls.length = ip_ml y)
    (kk : ip_go p l e R s m args below meth c cells slots Q D cA base b y H0 z) : W p l e R s m args below meth c H locs cells slots Q (F0 m pc arr (st.map (ip_rn b base))) := by
  obtain ⟨hx, hb, hml, hown, hW, hK, hA, hnm, hfr, hlo⟩ := C
  simp only [ip_ok, Bool.and_eq_true, decide_eq_true_eq] at hok
  obtain ⟨h1, h2, h3⟩ := hok
  obtain ⟨hd, rfl⟩ := ip_dc_spec h1
  obtain ⟨x, r, rfl, hz⟩ := ip_r1_inv hs
  cases hz
  skip
  exact lv_astore_n hx hb hd h2 hl h3 rfl (fun arr' hl' => kk H locs arr' hR (ip_lv_set1 (v := .ref x) (by rw [hlen]; exact h3) rfl hl') ((ip_set1_len _ _ _).trans hlen))

theorem ip_s_iinc {n : Nat} {k : Int} (C : ip_Cx D cA y p R s m meth c) (hok : ip_ok y pc ((.iinc n k), nx, a, k2, t, w, v, ts) = true) (hs : ip_step y X ((.iinc n k), nx, a, k2, t, w, v, ts) ls st M = some z) (hR : ip_Rl D cA base H0 s M H locs) (hl : lv_has arr (ip_ml y) (ip_pl b base ls)) (hlen : ls.length = ip_ml y)
    (kk : ip_go p l e R s m args below meth c cells slots Q D cA base b y H0 z) : W p l e R s m args below meth c H locs cells slots Q (F0 m pc arr (st.map (ip_rn b base))) := by
  obtain ⟨hx, hb, hml, hown, hW, hK, hA, hnm, hfr, hlo⟩ := C
  simp only [ip_ok, Bool.and_eq_true, Bool.or_eq_true, decide_eq_true_eq] at hok
  obtain ⟨h1, h2, h3, h4⟩ := hok
  subst h4
  subst h2
  simp only [ip_step] at hs
  split at hs
  · rename_i x q hg hq
    cases hq
    cases hs
    have hne : ip_get ls n ≠ .retAddr 1 := by rw [hg]; exact fun q => by cases q
    have hm : (n, ip_rn b base (ip_get ls n)) ∈ ip_pl b base ls := ip_pl_mem.mpr ⟨ip_get_lt hne, hne, rfl⟩
    rw [hg] at hm
    obtain ⟨j, hj⟩ := List.getElem?_of_mem hm
    rcases h1 with h1 | h1
    · obtain ⟨hd, rfl⟩ := ip_dc_spec h1
      exact lv_iinc hx hb hd hl hj rfl h3 rfl (fun arr' hl' => kk H locs arr' hR (ip_lv_set1 (v := .int _) (by rw [hlen]; exact h3) rfl hl') ((ip_set1_len _ _ _).trans hlen))
    · obtain ⟨hd, rfl⟩ := ip_dc_spec h1
      exact lv_iincW hx hb hd hl hj rfl h3 rfl (fun arr' hl' => kk H locs arr' hR (ip_lv_set1 (v := .int _) (by rw [hlen]; exact h3) rfl hl') ((ip_set1_len _ _ _).trans hlen))
  · cases hs

theorem ip_s_iadd (C : ip_Cx D cA y p R s m meth c) (hok : ip_ok y pc (.iadd, nx, a, k2, t, w, v, ts) = true) (hs : ip_step y X (.iadd, nx, a, k2, t, w, v, ts) ls st M = some z) (hR : ip_Rl D cA base H0 s M H locs) (hl : lv_has arr (ip_ml y) (ip_pl b base ls)) (hlen : ls.length = ip_ml y)
    (kk : ip_go p l e R s m args below meth c cells slots Q D cA base b y H0 z) : W p l e R s m args below meth c H locs cells slots Q (F0 m pc arr (st.map (ip_rn b base))) := by
  obtain ⟨hx, hb, hml, hown, hW, hK, hA, hnm, hfr, hlo⟩ := C
  simp only [ip_ok] at hok
  obtain ⟨hd, rfl⟩ := ip_dc_spec hok
  obtain ⟨x, q, r, rfl, hz⟩ := ip_i2_inv hs
  cases hz
  exact lv_iadd hx hb hd (kk H locs arr hR hl hlen)

theorem ip_s_isub (C : ip_Cx D cA y p R s m meth c) (hok : ip_ok y pc (.isub, nx, a, k2, t, w, v, ts) = true) (hs : ip_step y X (.isub, nx, a, k2, t, w, v, ts) ls st M = some z) (hR : ip_Rl D cA base H0 s M H locs) (hl : lv_has arr (ip_ml y) (ip_pl b base ls)) (hlen : ls.length = ip_ml y)
    (kk : ip_go p l e R s m args below meth c cells slots Q D cA base b y H0 z) : W p l e R s m args below meth c H locs cells slots Q (F0 m pc arr (st.map (ip_rn b base))) := by
  obtain ⟨hx, hb, hml, hown, hW, hK, hA, hnm, hfr, hlo⟩ := C
  simp only [ip_ok] at hok
  obtain ⟨hd, rfl⟩ := ip_dc_spec hok
  obtain ⟨x, q, r, rfl, hz⟩ := ip_i2_inv hs
  cases hz
  exact lv_isub hx hb hd (kk H locs arr hR hl hlen)

theorem ip_s_imul (C : ip_Cx D cA y p R s m meth c) (hok : ip_ok y pc (.imul, nx, a, k2, t, w, v, ts) = true) (hs : ip_step y X (.imul, nx, a, k2, t, w, v, ts) ls st M = some z) (hR : ip_Rl D cA base H0 s M H locs) (hl : lv_has arr (ip_ml y) (ip_pl b base ls)) (hlen : ls.length = ip_ml y)
    (kk : ip_go p l e R s m args below meth c cells slots Q D cA base b y H0 z) : W p l e R s m args below meth c H locs cells slots Q (F0 m pc arr (st.map (ip_rn b base))) := by
  obtain ⟨hx, hb, hml, hown, hW, hK, hA, hnm, hfr, hlo⟩ := C
  simp only [ip_ok] at hok
  obtain ⟨hd, rfl⟩ := ip_dc_spec hok
  obtain ⟨x, q, r, rfl, hz⟩ := ip_i2_inv hs
  cases hz
  exact lv_imul hx hb hd (kk H locs arr hR hl hlen)

theorem ip_s_iand (C : ip_Cx D cA y p R s m meth c) (hok : ip_ok y pc (.iand, nx, a, k2, t, w, v, ts) = true) (hs : ip_step y X (.iand, nx, a, k2, t, w, v, ts) ls st M = some z) (hR : ip_Rl D cA base H0 s M H locs) (hl : lv_has arr (ip_ml y) (ip_pl b base ls)) (hlen : ls.length = ip_ml y)
    (kk : ip_go p l e R s m args below meth c cells slots Q D cA base b y H0 z) : W p l e R s m args below meth c H locs cells slots Q (F0 m pc arr (st.map (ip_rn b base))) := by
  obtain ⟨hx, hb, hml, hown, hW, hK, hA, hnm, hfr, hlo⟩ := C
  simp only [ip_ok] at hok
  obtain ⟨hd, rfl⟩ := ip_dc_spec hok
  obtain ⟨x, q, r, rfl, hz⟩ := ip_i2_inv hs
  cases hz
  exact lv_iand hx hb hd (kk H locs arr hR hl hlen)

theorem ip_s_ior (C : ip_Cx D cA y p R s m meth c) (hok : ip_ok y pc (.ior, nx, a, k2, t, w, v, ts) = true) (hs : ip_step y X (.ior, nx, a, k2, t, w, v, ts) ls st M = some z) (hR : ip_Rl D cA base H0 s M H locs) (hl : lv_has arr (ip_ml y) (ip_pl b base ls)) (hlen : ls.length = ip_ml y)
    (kk : ip_go p l e R s m args below meth c cells slots Q D cA base b y H0 z) : W p l e R s m args below meth c H locs cells slots Q (F0 m pc arr (st.map (ip_rn b base))) := by
  obtain ⟨hx, hb, hml, hown, hW, hK, hA, hnm, hfr, hlo⟩ := C
  simp only [ip_ok] at hok
  obtain ⟨hd, rfl⟩ := ip_dc_spec hok
  obtain ⟨x, q, r, rfl, hz⟩ := ip_i2_inv hs
  cases hz
  exact lv_ior hx hb hd (kk H locs arr hR hl hlen)

theorem ip_s_ixor (C : ip_Cx D cA y p R s m meth c) (hok : ip_ok y pc (.ixor, nx, a, k2, t, w, v, ts) = true) (hs : ip_step y X (.ixor, nx, a, k2, t, w, v, ts) ls st M = some z) (hR : ip_Rl D cA base H0 s M H locs) (hl : lv_has arr (ip_ml y) (ip_pl b base ls)) (hlen : ls.length = ip_ml y)
    (kk : ip_go p l e R s m args below meth c cells slots Q D cA base b y H0 z) : W p l e R s m args below meth c H locs cells slots Q (F0 m pc arr (st.map (ip_rn b base))) := by
  obtain ⟨hx, hb, hml, hown, hW, hK, hA, hnm, hfr, hlo⟩ := C
  simp only [ip_ok] at hok
  obtain ⟨hd, rfl⟩ := ip_dc_spec hok
  obtain ⟨x, q, r, rfl, hz⟩ := ip_i2_inv hs
  cases hz
  exact lv_ixor hx hb hd (kk H locs arr hR hl hlen)

theorem ip_s_ishl (C : ip_Cx D cA y p R s m meth c) (hok : ip_ok y pc (.ishl, nx, a, k2, t, w, v, ts) = true) (hs : ip_step y X (.ishl, nx, a, k2, t, w, v, ts) ls st M = some z) (hR : ip_Rl D cA base H0 s M H locs) (hl : lv_has arr (ip_ml y) (ip_pl b base ls)) (hlen : ls.length = ip_ml y)
    (kk : ip_go p l e R s m args below meth c cells slots Q D cA base b y H0 z) : W p l e R s m args below meth c H locs cells slots Q (F0 m pc arr (st.map (ip_rn b base))) := by
  obtain ⟨hx, hb, hml, hown, hW, hK, hA, hnm, hfr, hlo⟩ := C
  simp only [ip_ok] at hok
  obtain ⟨hd, rfl⟩ := ip_dc_spec hok
  obtain ⟨x, q, r, rfl, hz⟩ := ip_i2_inv hs
  cases hz
  exact lv_ishl hx hb hd (kk H locs arr hR hl hlen)

theorem ip_s_ishr (C : ip_Cx D cA y p R s m meth c) (hok : ip_ok y pc (.ishr, nx, a, k2, t, w, v, ts) = true) (hs : ip_step y X (.ishr, nx, a, k2, t, w, v, ts) ls st M = some z) (hR : ip_Rl D cA base H0 s M H locs) (hl : lv_has arr (ip_ml y) (ip_pl b base ls)) (hlen : ls.length = ip_ml y)
    (kk : ip_go p l e R s m args below meth c cells slots Q D cA base b y H0 z) : W p l e R s m args below meth c H locs cells slots Q (F0 m pc arr (st.map (ip_rn b base))) := by
  obtain ⟨hx, hb, hml, hown, hW, hK, hA, hnm, hfr, hlo⟩ := C
  simp only [ip_ok] at hok
  obtain ⟨hd, rfl⟩ := ip_dc_spec hok
  obtain ⟨x, q, r, rfl, hz⟩ := ip_i2_inv hs
  cases hz
  exact lv_ishr hx hb hd (kk H locs arr hR hl hlen)

theorem ip_s_ladd (C : ip_Cx D cA y p R s m meth c) (hok : ip_ok y pc (.ladd, nx, a, k2, t, w, v, ts) = true) (hs : ip_step y X (.ladd, nx, a, k2, t, w, v, ts) ls st M = some z) (hR : ip_Rl D cA base H0 s M H locs) (hl : lv_has arr (ip_ml y) (ip_pl b base ls)) (hlen : ls.length = ip_ml y)
    (kk : ip_go p l e R s m args below meth c cells slots Q D cA base b y H0 z) : W p l e R s m args below meth c H locs cells slots Q (F0 m pc arr (st.map (ip_rn b base))) := by
  obtain ⟨hx, hb, hml, hown, hW, hK, hA, hnm, hfr, hlo⟩ := C
  simp only [ip_ok] at hok
  obtain ⟨hd, rfl⟩ := ip_dc_spec hok
  obtain ⟨x, q, r, rfl, hz⟩ := ip_l2_inv hs
  cases hz
  exact lv_ladd hx hb hd (kk H locs arr hR hl hlen)

theorem ip_s_lsub (C : ip_Cx D cA y p R s m meth c) (hok : ip_ok y pc (.lsub, nx, a, k2, t, w, v, ts) = true) (hs : ip_step y X (.lsub, nx, a, k2, t, w, v, ts) ls st M = some z) (hR : ip_Rl D cA base H0 s M H locs) (hl : lv_has arr (ip_ml y) (ip_pl b base ls)) (hlen : ls.length = ip_ml y)
    (kk : ip_go p l e R s m args below meth c cells slots Q D cA base b y H0 z) : W p l e R s m args below meth c H locs cells slots Q (F0 m pc arr (st.map (ip_rn b base))) := by
  obtain ⟨hx, hb, hml, hown, hW, hK, hA, hnm, hfr, hlo⟩ := C
  simp only [ip_ok] at hok
  obtain ⟨hd, rfl⟩ := ip_dc_spec hok
  obtain ⟨x, q, r, rfl, hz⟩ := ip_l2_inv hs
  cases hz
  exact lv_lsub hx hb hd (kk H locs arr hR hl hlen)

theorem ip_s_lmul (C : ip_Cx D cA y p R s m meth c) (hok : ip_ok y pc (.lmul, nx, a, k2, t, w, v, ts) = true) (hs : ip_step y X (.lmul, nx, a, k2, t, w, v, ts) ls st M = some z) (hR : ip_Rl D cA base H0 s M H locs) (hl : lv_has arr (ip_ml y) (ip_pl b base ls)) (hlen : ls.length = ip_ml y)
    (kk : ip_go p l e R s m args below meth c cells slots Q D cA base b y H0 z) : W p l e R s m args below meth c H locs cells slots Q (F0 m pc arr (st.map (ip_rn b base))) := by
  obtain ⟨hx, hb, hml, hown, hW, hK, hA, hnm, hfr, hlo⟩ := C
  simp only [ip_ok] at hok
  obtain ⟨hd, rfl⟩ := ip_dc_spec hok
  obtain ⟨x, q, r, rfl, hz⟩ := ip_l2_inv hs
  cases hz
  exact lv_lmul hx hb hd (kk H locs arr hR hl hlen)

theorem ip_s_land (C : ip_Cx D cA y p R s m meth c) (hok : ip_ok y pc (.land, nx, a, k2, t, w, v, ts) = true) (hs : ip_step y X (.land, nx, a, k2, t, w, v, ts) ls st M = some z) (hR : ip_Rl D cA base H0 s M H locs) (hl : lv_has arr (ip_ml y) (ip_pl b base ls)) (hlen : ls.length = ip_ml y)
    (kk : ip_go p l e R s m args below meth c cells slots Q D cA base b y H0 z) : W p l e R s m args below meth c H locs cells slots Q (F0 m pc arr (st.map (ip_rn b base))) := by
  obtain ⟨hx, hb, hml, hown, hW, hK, hA, hnm, hfr, hlo⟩ := C
  simp only [ip_ok] at hok
  obtain ⟨hd, rfl⟩ := ip_dc_spec hok
  obtain ⟨x, q, r, rfl, hz⟩ := ip_l2_inv hs
  cases hz
  exact lv_land hx hb hd (kk H locs arr hR hl hlen)

theorem ip_s_lor (C : ip_Cx D cA y p R s m meth c) (hok : ip_ok y pc (.lor, nx, a, k2, t, w, v, ts) = true) (hs : ip_step y X (.lor, nx, a, k2, t, w, v, ts) ls st M = some z) (hR : ip_Rl D cA base H0 s M H locs) (hl : lv_has arr (ip_ml y) (ip_pl b base ls)) (hlen : ls.length = ip_ml y)
    (kk : ip_go p l e R s m args below meth c cells slots Q D cA base b y H0 z) : W p l e R s m args below meth c H locs cells slots Q (F0 m pc arr (st.map (ip_rn b base))) := by
  obtain ⟨hx, hb, hml, hown, hW, hK, hA, hnm, hfr, hlo⟩ := C
  simp only [ip_ok] at hok
  obtain ⟨hd, rfl⟩ := ip_dc_spec hok
  obtain ⟨x, q, r, rfl, hz⟩ := ip_l2_inv hs
  cases hz
  exact lv_lor hx hb hd (kk H locs arr hR hl hlen)

theorem ip_s_lxor (C : ip_Cx D cA y p R s m meth c) (hok : ip_ok y pc (.lxor, nx, a, k2, t, w, v, ts) = true) (hs : ip_step y X (.lxor, nx, a, k2, t, w, v, ts) ls st M = some z) (hR : ip_Rl D cA base H0 s M H locs) (hl : lv_has arr (ip_ml y) (ip_pl b base ls)) (hlen : ls.length = ip_ml y)
    (kk : ip_go p l e R s m args below meth c cells slots Q D cA base b y H0 z) : W p l e R s m args below meth c H locs cells slots Q (F0 m pc arr (st.map (ip_rn b base))) := by
  obtain ⟨hx, hb, hml, hown, hW, hK, hA, hnm, hfr, hlo⟩ := C
  simp only [ip_ok] at hok
  obtain ⟨hd, rfl⟩ := ip_dc_spec hok
  obtain ⟨x, q, r, rfl, hz⟩ := ip_l2_inv hs
  cases hz
  exact lv_lxor hx hb hd (kk H locs arr hR hl hlen)

theorem ip_s_idiv (C : ip_Cx D cA y p R s m meth c) (hok : ip_ok y pc (.idiv, nx, a, k2, t, w, v, ts) = true) (hs : ip_step y X (.idiv, nx, a, k2, t, w, v, ts) ls st M = some z) (hR : ip_Rl D cA base H0 s M H locs) (hl : lv_has arr (ip_ml y) (ip_pl b base ls)) (hlen : ls.length = ip_ml y)
    (kk : ip_go p l e R s m args below meth c cells slots Q D cA base b y H0 z) : W p l e R s m args below meth c H locs cells slots Q (F0 m pc arr (st.map (ip_rn b base))) := by
  obtain ⟨hx, hb, hml, hown, hW, hK, hA, hnm, hfr, hlo⟩ := C
  simp only [ip_ok] at hok
  obtain ⟨hd, rfl⟩ := ip_dc_spec hok
  obtain ⟨x, q, r, rfl, hz⟩ := ip_i2_inv hs
  split at hz
  · cases hz
  · rename_i hne
    cases hz
    exact lv_idiv hx hb hd hne (kk H locs arr hR hl hlen)

theorem ip_s_irem (C : ip_Cx D cA y p R s m meth c) (hok : ip_ok y pc (.irem, nx, a, k2, t, w, v, ts) = true) (hs : ip_step y X (.irem, nx, a, k2, t, w, v, ts) ls st M = some z) (hR : ip_Rl D cA base H0 s M H locs) (hl : lv_has arr (ip_ml y) (ip_pl b base ls)) (hlen : ls.length = ip_ml y)
    (kk : ip_go p l e R s m args below meth c cells slots Q D cA base b y H0 z) : W p l e R s m args below meth c H locs cells slots Q (F0 m pc arr (st.map (ip_rn b base))) := by
  obtain ⟨hx, hb, hml, hown, hW, hK, hA, hnm, hfr, hlo⟩ := C
  simp only [ip_ok] at hok
  obtain ⟨hd, rfl⟩ := ip_dc_spec hok
  obtain ⟨x, q, r, rfl, hz⟩ := ip_i2_inv hs
  split at hz
  · cases hz
  · rename_i hne
    cases hz
    exact lv_irem hx hb hd hne (kk H locs arr hR hl hlen)

theorem ip_s_ldiv (C : ip_Cx D cA y p R s m meth c) (hok : ip_ok y pc (.ldiv, nx, a, k2, t, w, v, ts) = true) (hs : ip_step y X (.ldiv, nx, a, k2, t, w, v, ts) ls st M = some z) (hR : ip_Rl D cA base H0 s M H locs) (hl : lv_has arr (ip_ml y) (ip_pl b base ls)) (hlen : ls.length = ip_ml y)
    (kk : ip_go p l e R s m args below meth c cells slots Q D cA base b y H0 z) : W p l e R s m args below meth c H locs cells slots Q (F0 m pc arr (st.map (ip_rn b base))) := by
  obtain ⟨hx, hb, hml, hown, hW, hK, hA, hnm, hfr, hlo⟩ := C
  simp only [ip_ok] at hok
  obtain ⟨hd, rfl⟩ := ip_dc_spec hok
  obtain ⟨x, q, r, rfl, hz⟩ := ip_l2_inv hs
  split at hz
  · cases hz
  · rename_i hne
    cases hz
    exact lv_ldiv hx hb hd hne (kk H locs arr hR hl hlen)

theorem ip_s_lrem (C : ip_Cx D cA y p R s m meth c) (hok : ip_ok y pc (.lrem, nx, a, k2, t, w, v, ts) = true) (hs : ip_step y X (.lrem, nx, a, k2, t, w, v, ts) ls st M = some z) (hR : ip_Rl D cA base H0 s M H locs) (hl : lv_has arr (ip_ml y) (ip_pl b base ls)) (hlen : ls.length = ip_ml y)
    (kk : ip_go p l e R s m args below meth c cells slots Q D cA base b y H0 z) : W p l e R s m args below meth c H locs cells slots Q (F0 m pc arr (st.map (ip_rn b base))) := by
  obtain ⟨hx, hb, hml, hown, hW, hK, hA, hnm, hfr, hlo⟩ := C
  simp only [ip_ok] at hok
  obtain ⟨hd, rfl⟩ := ip_dc_spec hok
  obtain ⟨x, q, r, rfl, hz⟩ := ip_l2_inv hs
  split at hz
  · cases hz
  · rename_i hne
    cases hz
    exact lv_lrem hx hb hd hne (kk H locs arr hR hl hlen)

theorem ip_s_ineg (C : ip_Cx D cA y p R s m meth c) (hok : ip_ok y pc (.ineg, nx, a, k2, t, w, v, ts) = true) (hs : ip_step y X (.ineg, nx, a, k2, t, w, v, ts) ls st M = some z) (hR : ip_Rl D cA base H0 s M H locs) (hl : lv_has arr (ip_ml y) (ip_pl b base ls)) (hlen : ls.length = ip_ml y)
    (kk : ip_go p l e R s m args below meth c cells slots Q D cA base b y H0 z) : W p l e R s m args below meth c H locs cells slots Q (F0 m pc arr (st.map (ip_rn b base))) := by
  obtain ⟨hx, hb, hml, hown, hW, hK, hA, hnm, hfr, hlo⟩ := C
  simp only [ip_ok] at hok
  obtain ⟨hd, rfl⟩ := ip_dc_spec hok
  obtain ⟨x, r, rfl, hz⟩ := ip_i1_inv hs
  cases hz
  exact lv_ineg hx hb hd (kk H locs arr hR hl hlen)

theorem ip_s_lneg (C : ip_Cx D cA y p R s m meth c) (hok : ip_ok y pc (.lneg, nx, a, k2, t, w, v, ts) = true) (hs : ip_step y X (.lneg, nx, a, k2, t, w, v, ts) ls st M = some z) (hR : ip_Rl D cA base H0 s M H locs) (hl : lv_has arr (ip_ml y) (ip_pl b base ls)) (hlen : ls.length = ip_ml y)
    (kk : ip_go p l e R s m args below meth c cells slots Q D cA base b y H0 z) : W p l e R s m args below meth c H locs cells slots Q (F0 m pc arr (st.map (ip_rn b base))) := by
  obtain ⟨hx, hb, hml, hown, hW, hK, hA, hnm, hfr, hlo⟩ := C
  simp only [ip_ok] at hok
  obtain ⟨hd, rfl⟩ := ip_dc_spec hok
  obtain ⟨x, r, rfl, hz⟩ := ip_l1_inv hs
  cases hz
  exact lv_lneg hx hb hd (kk H locs arr hR hl hlen)

theorem ip_s_lshl (C : ip_Cx D cA y p R s m meth c) (hok : ip_ok y pc (.lshl, nx, a, k2, t, w, v, ts) = true) (hs : ip_step y X (.lshl, nx, a, k2, t, w, v, ts) ls st M = some z) (hR : ip_Rl D cA base H0 s M H locs) (hl : lv_has arr (ip_ml y) (ip_pl b base ls)) (hlen : ls.length = ip_ml y)
    (kk : ip_go p l e R s m args below meth c cells slots Q D cA base b y H0 z) : W p l e R s m args below meth c H locs cells slots Q (F0 m pc arr (st.map (ip_rn b base))) := by
  obtain ⟨hx, hb, hml, hown, hW, hK, hA, hnm, hfr, hlo⟩ := C
  simp only [ip_ok] at hok
  obtain ⟨hd, rfl⟩ := ip_dc_spec hok
  obtain ⟨x, q, r, rfl, hz⟩ := ip_li_inv hs
  cases hz
  exact lv_lshl hx hb hd rfl (kk H locs arr hR hl hlen)

theorem ip_s_lshr (C : ip_Cx D cA y p R s m meth c) (hok : ip_ok y pc (.lshr, nx, a, k2, t, w, v, ts) = true) (hs : ip_step y X (.lshr, nx, a, k2, t, w, v, ts) ls st M = some z) (hR : ip_Rl D cA base H0 s M H locs) (hl : lv_has arr (ip_ml y) (ip_pl b base ls)) (hlen : ls.length = ip_ml y)
    (kk : ip_go p l e R s m args below meth c cells slots Q D cA base b y H0 z) : W p l e R s m args below meth c H locs cells slots Q (F0 m pc arr (st.map (ip_rn b base))) := by
  obtain ⟨hx, hb, hml, hown, hW, hK, hA, hnm, hfr, hlo⟩ := C
  simp only [ip_ok] at hok
  obtain ⟨hd, rfl⟩ := ip_dc_spec hok
  obtain ⟨x, q, r, rfl, hz⟩ := ip_li_inv hs
  cases hz
  exact lv_lshr hx hb hd rfl (kk H locs arr hR hl hlen)

theorem ip_s_lushr (C : ip_Cx D cA y p R s m meth c) (hok : ip_ok y pc (.lushr, nx, a, k2, t, w, v, ts) = true) (hs : ip_step y X (.lushr, nx, a, k2, t, w, v, ts) ls st M = some z) (hR : ip_Rl D cA base H0 s M H locs) (hl : lv_has arr (ip_ml y) (ip_pl b base ls)) (hlen : ls.length = ip_ml y)
    (kk : ip_go p l e R s m args below meth c cells slots Q D cA base b y H0 z) : W p l e R s m args below meth c H locs cells slots Q (F0 m pc arr (st.map (ip_rn b base))) := by
  obtain ⟨hx, hb, hml, hown, hW, hK, hA, hnm, hfr, hlo⟩ := C
  simp only [ip_ok] at hok
  obtain ⟨hd, rfl⟩ := ip_dc_spec hok
  obtain ⟨x, q, r, rfl, hz⟩ := ip_li_inv hs
  cases hz
  exact lv_lushr hx hb hd rfl (kk H locs arr hR hl hlen)

theorem ip_s_lcmp (C : ip_Cx D cA y p R s m meth c) (hok : ip_ok y pc (.lcmp, nx, a, k2, t, w, v, ts) = true) (hs : ip_step y X (.lcmp, nx, a, k2, t, w, v, ts) ls st M = some z) (hR : ip_Rl D cA base H0 s M H locs) (hl : lv_has arr (ip_ml y) (ip_pl b base ls)) (hlen : ls.length = ip_ml y)
    (kk : ip_go p l e R s m args below meth c cells slots Q D cA base b y H0 z) : W p l e R s m args below meth c H locs cells slots Q (F0 m pc arr (st.map (ip_rn b base))) := by
  obtain ⟨hx, hb, hml, hown, hW, hK, hA, hnm, hfr, hlo⟩ := C
  simp only [ip_ok] at hok
  obtain ⟨hd, rfl⟩ := ip_dc_spec hok
  obtain ⟨x, q, r, rfl, hz⟩ := ip_l2_inv hs
  cases hz
  exact W.lcmp hx hb hd (kk H locs arr hR hl hlen)

theorem ip_s_i2l (C : ip_Cx D cA y p R s m meth c) (hok : ip_ok y pc (.i2l, nx, a, k2, t, w, v, ts) = true) (hs : ip_step y X (.i2l, nx, a, k2, t, w, v, ts) ls st M = some z) (hR : ip_Rl D cA base H0 s M H locs) (hl : lv_has arr (ip_ml y) (ip_pl b base ls)) (hlen : ls.length = ip_ml y)
    (kk : ip_go p l e R s m args below meth c cells slots Q D cA base b y H0 z) : W p l e R s m args below meth c H locs cells slots Q (F0 m pc arr (st.map (ip_rn b base))) := by
  obtain ⟨hx, hb, hml, hown, hW, hK, hA, hnm, hfr, hlo⟩ := C
  simp only [ip_ok] at hok
  obtain ⟨hd, rfl⟩ := ip_dc_spec hok
  obtain ⟨x, r, rfl, hz⟩ := ip_i1_inv hs
  cases hz
  exact lv_i2l hx hb hd rfl (kk H locs arr hR hl hlen)

theorem ip_s_l2i (C : ip_Cx D cA y p R s m meth c) (hok : ip_ok y pc (.l2i, nx, a, k2, t, w, v, ts) = true) (hs : ip_step y X (.l2i, nx, a, k2, t, w, v, ts) ls st M = some z) (hR : ip_Rl D cA base H0 s M H locs) (hl : lv_has arr (ip_ml y) (ip_pl b base ls)) (hlen : ls.length = ip_ml y)
    (kk : ip_go p l e R s m args below meth c cells slots Q D cA base b y H0 z) : W p l e R s m args below meth c H locs cells slots Q (F0 m pc arr (st.map (ip_rn b base))) := by
  obtain ⟨hx, hb, hml, hown, hW, hK, hA, hnm, hfr, hlo⟩ := C
  simp only [ip_ok] at hok
  obtain ⟨hd, rfl⟩ := ip_dc_spec hok
  obtain ⟨x, r, rfl, hz⟩ := ip_l1_inv hs
  cases hz
  exact lv_l2i hx hb hd rfl (kk H locs arr hR hl hlen)

theorem ip_s_i2b (C : ip_Cx D cA y p R s m meth c) (hok : ip_ok y pc (.i2b, nx, a, k2, t, w, v, ts) = true) (hs : ip_step y X (.i2b, nx, a, k2, t, w, v, ts) ls st M = some z) (hR : ip_Rl D cA base H0 s M H locs) (hl : lv_has arr (ip_ml y) (ip_pl b base ls)) (hlen : ls.length = ip_ml y)
    (kk : ip_go p l e R s m args below meth c cells slots Q D cA base b y H0 z) : W p l e R s m args below meth c H locs cells slots Q (F0 m pc arr (st.map (ip_rn b base))) := by
  obtain ⟨hx, hb, hml, hown, hW, hK, hA, hnm, hfr, hlo⟩ := C
  simp only [ip_ok] at hok
  obtain ⟨hd, rfl⟩ := ip_dc_spec hok
  obtain ⟨x, r, rfl, hz⟩ := ip_i1_inv hs
  cases hz
  exact lv_i2b hx hb hd rfl (kk H locs arr hR hl hlen)

theorem ip_s_goto {off : Int} (C : ip_Cx D cA y p R s m meth c) (hok : ip_ok y pc ((.goto off), nx, a, k2, t, w, v, ts) = true) (hs : ip_step y X ((.goto off), nx, a, k2, t, w, v, ts) ls st M = some z) (hR : ip_Rl D cA base H0 s M H locs) (hl : lv_has arr (ip_ml y) (ip_pl b base ls)) (hlen : ls.length = ip_ml y)
    (kk : ip_go p l e R s m args below meth c cells slots Q D cA base b y H0 z) : W p l e R s m args below meth c H locs cells slots Q (F0 m pc arr (st.map (ip_rn b base))) := by
  obtain ⟨hx, hb, hml, hown, hW, hK, hA, hnm, hfr, hlo⟩ := C
  simp only [ip_ok, Bool.and_eq_true, decide_eq_true_eq] at hok
  obtain ⟨hd, h2⟩ := hok
  cases hs
  exact lv_goto hx hb hd (ip_tg_spec h2) (kk H locs arr hR hl hlen)

theorem ip_s_ifCond {cd : ClassFile.Cond} {off : Int} (C : ip_Cx D cA y p R s m meth c) (hok : ip_ok y pc ((.ifCond cd off), nx, a, k2, t, w, v, ts) = true) (hs : ip_step y X ((.ifCond cd off), nx, a, k2, t, w, v, ts) ls st M = some z) (hR : ip_Rl D cA base H0 s M H locs) (hl : lv_has arr (ip_ml y) (ip_pl b base ls)) (hlen : ls.length = ip_ml y)
    (kk : ip_go p l e R s m args below meth c cells slots Q D cA base b y H0 z) : W p l e R s m args below meth c H locs cells slots Q (F0 m pc arr (st.map (ip_rn b base))) := by
  obtain ⟨hx, hb, hml, hown, hW, hK, hA, hnm, hfr, hlo⟩ := C
  simp only [ip_ok, Bool.and_eq_true] at hok
  obtain ⟨h1, h2⟩ := hok
  obtain ⟨hd, rfl⟩ := ip_dc_spec h1
  have ht := ip_tg_spec h2
  obtain ⟨x, r, rfl, hz⟩ := ip_i1_inv hs
  cases hz
  cases cd with
  | eq =>
    refine lv_if_eq hx hb hd ht (fun g => ?_) (fun g => ?_)
    · have k1 := kk H locs arr hR hl hlen
      dsimp only [ip_cd] at k1
      simp only [g, decide_true, decide_false, Bool.not_true, Bool.not_false, if_true, if_false, Bool.false_eq_true] at k1
      exact k1
    · have k1 := kk H locs arr hR hl hlen
      dsimp only [ip_cd] at k1
      simp only [g, decide_true, decide_false, Bool.not_true, Bool.not_false, if_true, if_false, Bool.false_eq_true] at k1
      exact k1
  | ne =>
    refine lv_if_ne hx hb hd ht (fun g => ?_) (fun g => ?_)
    · have k1 := kk H locs arr hR hl hlen
      dsimp only [ip_cd] at k1
      simp only [g, decide_true, decide_false, Bool.not_true, Bool.not_false, if_true, if_false, Bool.false_eq_true] at k1
      exact k1
    · have k1 := kk H locs arr hR hl hlen
      dsimp only [ip_cd] at k1
      simp only [g, decide_true, decide_false, Bool.not_true, Bool.not_false, if_true, if_false, Bool.false_eq_true] at k1
      exact k1
  | lt =>
    refine lv_if_lt hx hb hd ht (fun g => ?_) (fun g => ?_)
    · have k1 := kk H locs arr hR hl hlen
      dsimp only [ip_cd] at k1
      simp only [g, decide_true, decide_false, Bool.not_true, Bool.not_false, if_true, if_false, Bool.false_eq_true] at k1
      exact k1
    · have k1 := kk H locs arr hR hl hlen
      dsimp only [ip_cd] at k1
      simp only [g, decide_true, decide_false, Bool.not_true, Bool.not_false, if_true, if_false, Bool.false_eq_true] at k1
      exact k1
  | ge =>
    refine lv_if_ge hx hb hd ht (fun g => ?_) (fun g => ?_)
    · have k1 := kk H locs arr hR hl hlen
      dsimp only [ip_cd] at k1
      simp only [g, decide_true, decide_false, Bool.not_true, Bool.not_false, if_true, if_false, Bool.false_eq_true] at k1
      exact k1
    · have k1 := kk H locs arr hR hl hlen
      dsimp only [ip_cd] at k1
      simp only [g, decide_true, decide_false, Bool.not_true, Bool.not_false, if_true, if_false, Bool.false_eq_true] at k1
      exact k1
  | gt =>
    refine lv_if_gt hx hb hd ht (fun g => ?_) (fun g => ?_)
    · have k1 := kk H locs arr hR hl hlen
      dsimp only [ip_cd] at k1
      simp only [g, decide_true, decide_false, Bool.not_true, Bool.not_false, if_true, if_false, Bool.false_eq_true] at k1
      exact k1
    · have k1 := kk H locs arr hR hl hlen
      dsimp only [ip_cd] at k1
      simp only [g, decide_true, decide_false, Bool.not_true, Bool.not_false, if_true, if_false, Bool.false_eq_true] at k1
      exact k1
  | le =>
    refine lv_if_le hx hb hd ht (fun g => ?_) (fun g => ?_)
    · have k1 := kk H locs arr hR hl hlen
      dsimp only [ip_cd] at k1
      simp only [g, decide_true, decide_false, Bool.not_true, Bool.not_false, if_true, if_false, Bool.false_eq_true] at k1
      exact k1
    · have k1 := kk H locs arr hR hl hlen
      dsimp only [ip_cd] at k1
      simp only [g, decide_true, decide_false, Bool.not_true, Bool.not_false, if_true, if_false, Bool.false_eq_true] at k1
      exact k1

theorem ip_s_if_icmp {cd : ClassFile.Cond} {off : Int} (C : ip_Cx D cA y p R s m meth c) (hok : ip_ok y pc ((.if_icmp cd off), nx, a, k2, t, w, v, ts) = true) (hs : ip_step y X ((.if_icmp cd off), nx, a, k2, t, w, v, ts) ls st M = some z) (hR : ip_Rl D cA base H0 s M H locs) (hl : lv_has arr (ip_ml y) (ip_pl b base ls)) (hlen : ls.length = ip_ml y)
    (kk : ip_go p l e R s m args below meth c cells slots Q D cA base b y H0 z) : W p l e R s m args below meth c H locs cells slots Q (F0 m pc arr (st.map (ip_rn b base))) := by
  obtain ⟨hx, hb, hml, hown, hW, hK, hA, hnm, hfr, hlo⟩ := C
  simp only [ip_ok, Bool.and_eq_true] at hok
  obtain ⟨h1, h2⟩ := hok
  obtain ⟨hd, rfl⟩ := ip_dc_spec h1
  have ht := ip_tg_spec h2
  obtain ⟨x, q, r, rfl, hz⟩ := ip_i2_inv hs
  cases hz
  cases cd with
  | eq =>
    refine lv_icmp_eq hx hb hd ht (fun g => ?_) (fun g => ?_)
    · have k1 := kk H locs arr hR hl hlen
      dsimp only [ip_cd] at k1
      simp only [g, decide_true, decide_false, Bool.not_true, Bool.not_false, if_true, if_false, Bool.false_eq_true] at k1
      exact k1
    · have k1 := kk H locs arr hR hl hlen
      dsimp only [ip_cd] at k1
      simp only [g, decide_true, decide_false, Bool.not_true, Bool.not_false, if_true, if_false, Bool.false_eq_true] at k1
      exact k1
  | ne =>
    refine lv_icmp_ne hx hb hd ht (fun g => ?_) (fun g => ?_)
    · have k1 := kk H locs arr hR hl hlen
      dsimp only [ip_cd] at k1
      simp only [g, decide_true, decide_false, Bool.not_true, Bool.not_false, if_true, if_false, Bool.false_eq_true] at k1
      exact k1
    · have k1 := kk H locs arr hR hl hlen
      dsimp only [ip_cd] at k1
      simp only [g, decide_true, decide_false, Bool.not_true, Bool.not_false, if_true, if_false, Bool.false_eq_true] at k1
      exact k1
  | lt =>
    refine lv_icmp_lt hx hb hd ht (fun g => ?_) (fun g => ?_)
    · have k1 := kk H locs arr hR hl hlen
      dsimp only [ip_cd] at k1
      simp only [g, decide_true, decide_false, Bool.not_true, Bool.not_false, if_true, if_false, Bool.false_eq_true] at k1
      exact k1
    · have k1 := kk H locs arr hR hl hlen
      dsimp only [ip_cd] at k1
      simp only [g, decide_true, decide_false, Bool.not_true, Bool.not_false, if_true, if_false, Bool.false_eq_true] at k1
      exact k1
  | ge =>
    refine lv_icmp_ge hx hb hd ht (fun g => ?_) (fun g => ?_)
    · have k1 := kk H locs arr hR hl hlen
      dsimp only [ip_cd] at k1
      simp only [g, decide_true, decide_false, Bool.not_true, Bool.not_false, if_true, if_false, Bool.false_eq_true] at k1
      exact k1
    · have k1 := kk H locs arr hR hl hlen
      dsimp only [ip_cd] at k1
      simp only [g, decide_true, decide_false, Bool.not_true, Bool.not_false, if_true, if_false, Bool.false_eq_true] at k1
      exact k1
  | gt =>
    refine lv_icmp_gt hx hb hd ht (fun g => ?_) (fun g => ?_)
    · have k1 := kk H locs arr hR hl hlen
      dsimp only [ip_cd] at k1
      simp only [g, decide_true, decide_false, Bool.not_true, Bool.not_false, if_true, if_false, Bool.false_eq_true] at k1
      exact k1
    · have k1 := kk H locs arr hR hl hlen
      dsimp only [ip_cd] at k1
      simp only [g, decide_true, decide_false, Bool.not_true, Bool.not_false, if_true, if_false, Bool.false_eq_true] at k1
      exact k1
  | le =>
    refine lv_icmp_le hx hb hd ht (fun g => ?_) (fun g => ?_)
    · have k1 := kk H locs arr hR hl hlen
      dsimp only [ip_cd] at k1
      simp only [g, decide_true, decide_false, Bool.not_true, Bool.not_false, if_true, if_false, Bool.false_eq_true] at k1
      exact k1
    · have k1 := kk H locs arr hR hl hlen
      dsimp only [ip_cd] at k1
      simp only [g, decide_true, decide_false, Bool.not_true, Bool.not_false, if_true, if_false, Bool.false_eq_true] at k1
      exact k1

theorem ip_s_tableswitch {d lo hi : Int} {offs : Array Int} (C : ip_Cx D cA y p R s m meth c) (hok : ip_ok y pc ((.tableswitch d lo hi offs), nx, a, k2, t, w, v, ts) = true) (hs : ip_step y X ((.tableswitch d lo hi offs), nx, a, k2, t, w, v, ts) ls st M = some z) (hR : ip_Rl D cA base H0 s M H locs) (hl : lv_has arr (ip_ml y) (ip_pl b base ls)) (hlen : ls.length = ip_ml y)
    (kk : ip_go p l e R s m args below meth c cells slots Q D cA base b y H0 z) : W p l e R s m args below meth c H locs cells slots Q (F0 m pc arr (st.map (ip_rn b base))) := by
  obtain ⟨hx, hb, hml, hown, hW, hK, hA, hnm, hfr, hlo⟩ := C
  simp only [ip_ok, Bool.and_eq_true, decide_eq_true_eq] at hok
  obtain ⟨hd, h2, h3, h4, h5⟩ := hok
  obtain ⟨x, r, rfl, hz⟩ := ip_i1_inv hs
  cases hz
  have k1 := kk H locs arr hR hl hlen
  dsimp only at k1
  by_cases ho : x.toInt < lo ∨ hi < x.toInt
  · rw [if_pos ho] at k1
    exact lv_tableOut hx hb hd ho (ip_tg_spec h2) k1
  · rw [if_neg ho] at k1
    have g1 : ¬ x.toInt < lo := fun q => ho (Or.inl q)
    have g2 : ¬ hi < x.toInt := fun q => ho (Or.inr q)
    have g3 : (x.toInt - lo).toNat < ts.length := by omega
    have g4 := List.all_eq_true.mp h5 _ (List.mem_range.mpr g3)
    have g5 : (pc : Int) + offs.getD (x.toInt - lo).toNat 0 = ((ts.getD (x.toInt - lo).toNat a : Nat) : Int) := by simpa using g4
    refine lv_tableIn hx hb hd g1 g2 (off := offs.getD (x.toInt - lo).toNat 0) ?_ g5 k1
    rw [Array.getD_eq_getD_getElem?, Array.getElem?_eq_getElem (by omega)]
    rfl

theorem ip_s_dup (C : ip_Cx D cA y p R s m meth c) (hok : ip_ok y pc (.dup, nx, a, k2, t, w, v, ts) = true) (hs : ip_step y X (.dup, nx, a, k2, t, w, v, ts) ls st M = some z) (hR : ip_Rl D cA base H0 s M H locs) (hl : lv_has arr (ip_ml y) (ip_pl b base ls)) (hlen : ls.length = ip_ml y)
    (kk : ip_go p l e R s m args below meth c cells slots Q D cA base b y H0 z) : W p l e R s m args below meth c H locs cells slots Q (F0 m pc arr (st.map (ip_rn b base))) := by
  obtain ⟨hx, hb, hml, hown, hW, hK, hA, hnm, hfr, hlo⟩ := C
  simp only [ip_ok] at hok
  obtain ⟨hd, rfl⟩ := ip_dc_spec hok
  simp only [ip_step] at hs
  split at hs
  · cases hs
    exact lv_dup hx hb hd rfl (kk H locs arr hR hl hlen)
  · cases hs
    exact lv_dup hx hb hd rfl (kk H locs arr hR hl hlen)
  · cases hs

theorem ip_s_dup2 (C : ip_Cx D cA y p R s m meth c) (hok : ip_ok y pc (.dup2, nx, a, k2, t, w, v, ts) = true) (hs : ip_step y X (.dup2, nx, a, k2, t, w, v, ts) ls st M = some z) (hR : ip_Rl D cA base H0 s M H locs) (hl : lv_has arr (ip_ml y) (ip_pl b base ls)) (hlen : ls.length = ip_ml y)
    (kk : ip_go p l e R s m args below meth c cells slots Q D cA base b y H0 z) : W p l e R s m args below meth c H locs cells slots Q (F0 m pc arr (st.map (ip_rn b base))) := by
  obtain ⟨hx, hb, hml, hown, hW, hK, hA, hnm, hfr, hlo⟩ := C
  simp only [ip_ok] at hok
  obtain ⟨hd, rfl⟩ := ip_dc_spec hok
  simp only [ip_step] at hs
  split at hs
  · cases hs
    exact lv_dup2_11 hx hb hd rfl rfl (kk H locs arr hR hl hlen)
  · cases hs

theorem ip_s_pop (C : ip_Cx D cA y p R s m meth c) (hok : ip_ok y pc (.pop, nx, a, k2, t, w, v, ts) = true) (hs : ip_step y X (.pop, nx, a, k2, t, w, v, ts) ls st M = some z) (hR : ip_Rl D cA base H0 s M H locs) (hl : lv_has arr (ip_ml y) (ip_pl b base ls)) (hlen : ls.length = ip_ml y)
    (kk : ip_go p l e R s m args below meth c cells slots Q D cA base b y H0 z) : W p l e R s m args below meth c H locs cells slots Q (F0 m pc arr (st.map (ip_rn b base))) := by
  obtain ⟨hx, hb, hml, hown, hW, hK, hA, hnm, hfr, hlo⟩ := C
  simp only [ip_ok] at hok
  obtain ⟨hd, rfl⟩ := ip_dc_spec hok
  simp only [ip_step] at hs
  split at hs
  · cases hs
    exact lv_pop hx hb hd rfl (kk H locs arr hR hl hlen)
  · cases hs

theorem ip_s_pop2 (C : ip_Cx D cA y p R s m meth c) (hok : ip_ok y pc (.pop2, nx, a, k2, t, w, v, ts) = true) (hs : ip_step y X (.pop2, nx, a, k2, t, w, v, ts) ls st M = some z) (hR : ip_Rl D cA base H0 s M H locs) (hl : lv_has arr (ip_ml y) (ip_pl b base ls)) (hlen : ls.length = ip_ml y)
    (kk : ip_go p l e R s m args below meth c cells slots Q D cA base b y H0 z) : W p l e R s m args below meth c H locs cells slots Q (F0 m pc arr (st.map (ip_rn b base))) := by
  obtain ⟨hx, hb, hml, hown, hW, hK, hA, hnm, hfr, hlo⟩ := C
  simp only [ip_ok] at hok
  obtain ⟨hd, rfl⟩ := ip_dc_spec hok
  simp only [ip_step] at hs
  split at hs
  · cases hs
    exact lv_pop2_2 hx hb hd rfl (kk H locs arr hR hl hlen)
  · cases hs

end IPS
