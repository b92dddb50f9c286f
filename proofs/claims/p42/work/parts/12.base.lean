-- THE WORLD of the cells
def ip_W (s : State) : Prop := (∀ w ∈ lw_tbl, ip_gw w = true → w.before #[] s = true) ∧ va_AO RX8 s ∧ va_AO RX5 s
theorem ip_gw_use {w : Cond} (hg : ip_gw w = true) {A : Array Value} {s : State} (h : w.before #[] s = true) : w.before A s = true := by
  by_cases ho : w.onTables = true
  · exact va_Nw.use ho h
  · have h1 : goodWord w = true ∨ ip_isN w = true := by simpa [ip_gw] using hg
    rcases h1 with h1 | h1
    · rcases good_of_word h1 with h2 | ⟨ty, rfl⟩
      · rw [Bool.and_eq_true] at h2
        exact absurd h2.1 ho
      · exact h
    · cases w <;> first | (simp [ip_isN] at h1; done) | (exact absurd rfl ho)
theorem ip_W.use {s : State} (h : ip_W s) {w : Cond} (hw : w ∈ lw_tbl) (hg : ip_gw w = true) (A : Array Value) : w.before A s = true := ip_gw_use hg (h.1 w hw hg)
theorem ip_W.warm {s U : State} (h : ip_W s) (hW : s.WarmedH U.vm) : ip_W U := by
  refine ⟨fun w hw hg => ?_, va_AO.moved hW.alike h.2.1, va_AO.moved hW.alike h.2.2⟩
  have h0 := h.1 w hw hg
  have h1 : goodWord w = true ∨ ip_isN w = true := by simpa [ip_gw] using hg
  rcases h1 with h1 | h1
  · exact word_at hW (good_of_word h1) h0
  · cases w with
    | fieldLinkNest => exact va_Nw.warmF hW h0
    | methodLinkNest => exact va_Nw.warmM hW h0
    | _ => simp [ip_isN] at h1
/-- the same under another frame -/
theorem ip_W.frame {s U : State} (h : ip_W s) (hv : s.vm = U.vm) : ip_W U := by
  refine ⟨fun w hw hg => ?_, va_AO.moved (by rw [hv]; exact Vm.Alike.refl _) h.2.1, va_AO.moved (by rw [hv]; exact Vm.Alike.refl _) h.2.2⟩
  have h0 := h.1 w hw hg
  have h1 : goodWord w = true ∨ ip_isN w = true := by simpa [ip_gw] using hg
  rcases h1 with h1 | h1
  · rcases good_of_word h1 with h2 | ⟨ty, rfl⟩
    · rw [Bool.and_eq_true] at h2
      exact va_Nw.same h2.1 hv h0
    · have e : s.setVm U.vm = s := by rw [← hv]; rfl
      have h3 : (Cond.arrayClass ty).before #[] (s.setVm U.vm) = true := by rw [e]; exact h0
      exact h3
  · cases w with
    | fieldLinkNest => exact va_Nw.same rfl hv h0
    | methodLinkNest => exact va_Nw.same rfl hv h0
    | _ => simp [ip_isN] at h1
def ip_rf (base : Nat) (o : Option Nat) : Option Nat := o.map (fun k => base + k)
def ip_fv (base : Nat) (M : ip_H) (k ci j : Nat) : Value := if ip_kd (ip_fty ci j) = 1 then .long (M.2.2.1 k j) else if ip_kd (ip_fty ci j) = 2 then va_rf (ip_rf base (M.2.2.2 k j)) else .int (M.2.1 k j)
def ip_en (base : Nat) (cA : Nat → ClassId) (M : ip_H) (k : Nat) (q : Nat × Nat × Nat) : va_E :=
  if q.1 = 0 then .inr (q.2.1, (List.range q.2.2).map (ip_fv base M k q.2.1))
  else .inl (cA q.2.1, q.2.2, if q.2.1 = 1 then .inr (.inl (M.2.2.1 k)) else if q.2.1 < 4 then .inl (M.2.1 k) else .inr (.inr (.inr (.inr (fun j => ip_rf base (M.2.2.2 k j))))))
def ip_ws (base : Nat) (cA : Nat → ClassId) (M : ip_H) : va_W := M.1.mapIdx (fun k q => (base + k, ip_en base cA M k q))
theorem ip_ws_get (base : Nat) (cA : Nat → ClassId) (M : ip_H) (k : Nat) : (ip_ws base cA M)[k]? = (M.1[k]?).map (fun q => (base + k, ip_en base cA M k q)) := by
  unfold ip_ws
  rw [List.getElem?_mapIdx]
theorem ip_wsD (base : Nat) (cA : Nat → ClassId) (M : ip_H) : va_D (fun q => base ≤ q) (ip_ws base cA M) := by
  refine ⟨fun i j p q hi hj hpq => ?_, fun k q hk => ?_⟩
  · rw [ip_ws_get] at hi hj
    cases h1 : M.1[i]? with
    | none => rw [h1] at hi; cases hi
    | some x =>
      cases h2 : M.1[j]? with
      | none => rw [h2] at hj; cases hj
      | some z =>
        rw [h1] at hi; rw [h2] at hj
        cases hi; cases hj
        dsimp only at hpq
        omega
  · rw [ip_ws_get] at hk
    cases h1 : M.1[k]? with
    | none => rw [h1] at hk; cases hk
    | some x => rw [h1] at hk; cases hk; exact Nat.le_add_right _ _
theorem ip_ws_upd {base : Nat} {cA : Nat → ClassId} {M M1 : ip_H} (h1 : M1.1 = M.1) {k : Nat} {q : Nat × Nat × Nat} (hk : M.1[k]? = some q) (h : ∀ j z, j ≠ k → ip_en base cA M1 j z = ip_en base cA M j z) : ip_ws base cA M1 = (ip_ws base cA M).set k (base + k, ip_en base cA M1 k q) := by
  apply List.ext_getElem?
  intro j
  rw [ip_ws_get, h1]
  by_cases hj : j = k
  · subst hj
    have hl : j < (ip_ws base cA M).length := by
      have e : (ip_ws base cA M)[j]? = some (base + j, ip_en base cA M j q) := by rw [ip_ws_get, hk]; rfl
      exact (List.getElem?_eq_some_iff.mp e).1
    rw [List.getElem?_set_self hl, hk]
    rfl
  · rw [List.getElem?_set_ne (Ne.symm hj), ip_ws_get]
    cases M.1[j]? with
    | none => rfl
    | some z => simp only [Option.map_some]; rw [h j z hj]
theorem ip_en_old {base : Nat} {cA : Nat → ClassId} {M : ip_H} {q : Nat × Nat × Nat} {k : Nat} (hk : k < M.1.length) (z : Nat × Nat × Nat) : ip_en base cA (ip_nw M q) k z = ip_en base cA M k z := by
  have hne : ¬ k = M.1.length := by omega
  have e1 : (ip_nw M q).2.1 k = M.2.1 k := by funext j; show (if k = M.1.length then _ else _) = _; rw [if_neg hne]
  have e2 : (ip_nw M q).2.2.1 k = M.2.2.1 k := by funext j; show (if k = M.1.length then _ else _) = _; rw [if_neg hne]
  have e3 : (ip_nw M q).2.2.2 k = M.2.2.2 k := by funext j; show (if k = M.1.length then _ else _) = _; rw [if_neg hne]
  have e4 : ip_fv base (ip_nw M q) k z.2.1 = ip_fv base M k z.2.1 := by funext j; unfold ip_fv; rw [e1, e2, e3]
  unfold ip_en
  rw [e1, e2, e3, e4]
theorem ip_ws_push {base : Nat} {cA : Nat → ClassId} {M : ip_H} {q : Nat × Nat × Nat} : ip_ws base cA (ip_nw M q) = ip_ws base cA M ++ [(base + M.1.length, ip_en base cA (ip_nw M q) M.1.length q)] := by
  apply List.ext_getElem?
  intro j
  have hlen : (ip_ws base cA M).length = M.1.length := by simp [ip_ws]
  rw [ip_ws_get]
  show ((M.1 ++ [q])[j]?).map _ = _
  by_cases hj : j < M.1.length
  · rw [List.getElem?_append_left hj, List.getElem?_append_left (by rw [hlen]; exact hj), ip_ws_get]
    cases hq : M.1[j]? with
    | none => rfl
    | some z => simp only [Option.map_some]; rw [ip_en_old hj]
  · rw [List.getElem?_append_right (by omega), List.getElem?_append_right (by omega), hlen]
    by_cases h0 : j = M.1.length
    · subst h0
      simp
    · have e : ∀ z : Nat × va_E, ([z] : va_W)[j - M.1.length]? = none := fun z => by
        rw [List.getElem?_eq_none_iff]; simp; omega
      have e2 : ([q] : List (Nat × Nat × Nat))[j - M.1.length]? = none := by rw [List.getElem?_eq_none_iff]; simp; omega
      rw [e, e2]; rfl
theorem ip_sh_get {M : ip_H} {k : Nat} (h : (ip_sh M k).1 ≠ 2) : M.1[k]? = some (ip_sh M k) := by
  unfold ip_sh at h ⊢
  rw [List.getD_eq_getElem?_getD] at h ⊢
  cases hk : M.1[k]? with
  | none => rw [hk] at h; exact absurd rfl h
  | some q => rfl
def ip_wf (M : ip_H) : Prop := ∀ k ci n : Nat, M.1[k]? = some (0, ci, n) → ∃ q : vw_C, ip_cl[ci]? = some q ∧ q.2.2 = n
def ip_KA (cA : Nat → ClassId) (M : ip_H) (s : State) : Prop := ∀ k x n : Nat, M.1[k]? = some (1, x, n) → ArrOfT s (cA x) (ip_ty x) ∧ va_RA s (cA x) (ip_ty x)
def ip_A (cA : Nat → ClassId) (s : State) : Prop := ∀ (x : Nat) (k : ClassId), s.vm.findClass ("[" ++ (ip_ty x).toString) = some k → k = cA x
def ip_Rl (D : va_G) (cA : Nat → ClassId) (base : Nat) (H0 : Heap) (s : State) (M : ip_H) (H : Heap) (locs : List Loc) : Prop :=
  va_P D ip_cl (ip_ws base cA M) H ∧ H.size = base + M.1.length ∧ va_S (fun q => base ≤ q) H0 H locs ∧ ip_wf M ∧ ip_KA cA M s
def ip_Cx (D : va_G) (cA : Nat → ClassId) (y : Nat) (p : Program) (R : Room) (s : State) (m : MethodId) (meth : Method) (c : Code) : Prop :=
  p.tables.exec = Jvm.exec ∧ c.code = ip_by y ∧ c.maxLocals = ip_ml y ∧ s.vm.findClass (ip_os y) = some m.cls ∧ ip_W s ∧ va_K D ip_cl [] s ∧ ip_A cA s ∧ (y = ip_LAW ∨ meth.name = (ip_nm y).name) ∧ ip_fr y ≤ R.frames ∧ ip_lw y ≤ R.locals
def ip_rn (b base : Nat) : Value → Value
  | .ref k => .ref (base + k)
  | .retAddr 0 => .ref b
  | v => v
theorem ip_rn_cat (b base : Nat) (v : Value) : (ip_rn b base v).category = v.category := by
  cases v with
  | retAddr n => cases n <;> rfl
  | _ => rfl
/-- the locals that hold something, with their places -/
def ip_pl (b base : Nat) (ls : List Value) : List (Nat × Value) := (List.range ls.length).filterMap fun i => if ip_get ls i = .retAddr 1 then none else some (i, ip_rn b base (ip_get ls i))
theorem ip_pl_mem {b base : Nat} {ls : List Value} {q : Nat × Value} : q ∈ ip_pl b base ls ↔ q.1 < ls.length ∧ ip_get ls q.1 ≠ .retAddr 1 ∧ q.2 = ip_rn b base (ip_get ls q.1) := by
  unfold ip_pl
  rw [List.mem_filterMap]
  constructor
  · rintro ⟨i, hi, h⟩
    by_cases hg : ip_get ls i = .retAddr 1
    · rw [if_pos hg] at h; cases h
    · rw [if_neg hg] at h
      cases h
      exact ⟨List.mem_range.mp hi, hg, rfl⟩
  · rintro ⟨h1, h2, h3⟩
    exact ⟨q.1, List.mem_range.mpr h1, by rw [if_neg h2, ← h3]⟩
theorem ip_get_lt {ls : List Value} {i : Nat} (h : ip_get ls i ≠ .retAddr 1) : i < ls.length := by
  rcases Nat.lt_or_ge i ls.length with q | q
  · exact q
  · exact absurd (by unfold ip_get; rw [List.getD_eq_getElem?_getD, List.getElem?_eq_none q]; rfl) h
theorem ip_lv_get {b base nL : Nat} {arr : Array Slot} {ls : List Value} (h : lv_has arr nL (ip_pl b base ls)) {i : Nat} (hg : ip_get ls i ≠ .retAddr 1) : arr[i]? = some (.val (ip_rn b base (ip_get ls i))) :=
  h.2.2 (i, ip_rn b base (ip_get ls i)) (ip_pl_mem.mpr ⟨ip_get_lt hg, hg, rfl⟩)
theorem ip_get_set (ls : List Value) (i j : Nat) (v : Value) : ip_get (ls.set i v) j = if i = j ∧ i < ls.length then v else ip_get ls j := by
  unfold ip_get
  rw [List.getD_eq_getElem?_getD, List.getD_eq_getElem?_getD, List.getElem?_set]
  by_cases h : i = j
  · subst h
    by_cases hl : i < ls.length
    · simp [hl]
    · simp [hl]
  · simp [h]
theorem ip_clr_len (ls : List Value) (i : Nat) : (ip_clr ls i).length = ls.length := by
  cases i with
  | zero => rfl
  | succ j => rw [ip_clr]; split <;> simp
theorem ip_clr_get (ls : List Value) (i j : Nat) (h : ip_get (ip_clr ls i) j ≠ .retAddr 1) : ip_get (ip_clr ls i) j = ip_get ls j ∧ ¬ (j + 1 = i ∧ (ip_get ls j).category = 2) := by
  cases i with
  | zero => exact ⟨rfl, fun q => by omega⟩
  | succ i =>
    rw [ip_clr] at h ⊢
    split at h
    · rename_i hc
      rw [if_pos hc]
      rw [ip_get_set] at h ⊢
      split at h
      · exact absurd rfl h
      · rename_i hn
        rw [if_neg hn]
        refine ⟨rfl, fun q => ?_⟩
        obtain ⟨q1, q2⟩ := q
        have : i = j := by omega
        subst this
        exact hn ⟨rfl, ip_get_lt (fun z => by rw [z] at hc; cases hc)⟩
    · rename_i hc
      rw [if_neg hc]
      refine ⟨rfl, fun q => ?_⟩
      obtain ⟨q1, q2⟩ := q
      have : i = j := by omega
      subst this
      exact hc q2
theorem ip_lv_set1 {b base nL : Nat} {arr : Array Slot} {ls : List Value} {i : Nat} {v : Value} {lv' : List (Nat × Value)} (hi : i < ls.length)
    (hl : (i, ip_rn b base v) :: (ip_pl b base ls).filter (fun q => !(q.1 == i) && !(q.1 + 1 == i && q.2.category == 2)) = lv') (h : lv_has arr nL lv') : lv_has arr nL (ip_pl b base (ip_set1 ls i v)) := by
  refine ⟨h.1, h.2.1, fun q hq => h.2.2 q ?_⟩
  obtain ⟨h1, h2, h3⟩ := ip_pl_mem.mp hq
  obtain ⟨j, w⟩ := q
  dsimp only at h1 h2 h3
  subst h3
  rw [← hl]
  unfold ip_set1 at h2 ⊢
  rw [ip_get_set, ip_clr_len] at h2 ⊢
  by_cases hj : i = j
  · subst hj
    rw [if_pos ⟨rfl, hi⟩]
    exact List.mem_cons_self
  · rw [if_neg (fun q => hj q.1)] at h2 ⊢
    obtain ⟨g1, g2⟩ := ip_clr_get ls i j h2
    rw [g1] at h2 ⊢
    refine List.mem_cons_of_mem _ (List.mem_filter.mpr ⟨ip_pl_mem.mpr ⟨ip_get_lt h2, h2, rfl⟩, ?_⟩)
    have e1 : (j == i) = false := by simpa using Ne.symm hj
    dsimp only
    rw [e1, ip_rn_cat]
    by_cases hc : j + 1 = i
    · have : ¬ (ip_get ls j).category = 2 := fun q => g2 ⟨hc, q⟩
      simp [this]
    · simp [hc]
theorem ip_set1_len (ls : List Value) (i : Nat) (v : Value) : (ip_set1 ls i v).length = ls.length := by simp [ip_set1, ip_clr_len]
theorem ip_lv_set2 {b base nL : Nat} {arr : Array Slot} {ls : List Value} {i : Nat} {v : Value} {lv' : List (Nat × Value)} (hi : i + 1 < ls.length)
    (hl : (i, ip_rn b base v) :: (ip_pl b base ls).filter (fun q => !(q.1 == i) && (!(q.1 == i + 1) && !(q.1 + 1 == i && q.2.category == 2))) = lv') (h : lv_has arr nL lv') : lv_has arr nL (ip_pl b base (ip_set2 ls i v)) := by
  refine ⟨h.1, h.2.1, fun q hq => h.2.2 q ?_⟩
  obtain ⟨h1, h2, h3⟩ := ip_pl_mem.mp hq
  obtain ⟨j, w⟩ := q
  dsimp only at h1 h2 h3
  subst h3
  rw [← hl]
  unfold ip_set2 at h2 ⊢
  rw [ip_get_set, List.length_set, ip_clr_len] at h2 ⊢
  by_cases hk : i + 1 = j
  · rw [if_pos ⟨hk, hi⟩] at h2
    exact absurd rfl h2
  · rw [if_neg (fun q => hk q.1)] at h2 ⊢
    rw [ip_get_set, ip_clr_len] at h2 ⊢
    by_cases hj : i = j
    · subst hj
      rw [if_pos ⟨rfl, by omega⟩]
      exact List.mem_cons_self
    · rw [if_neg (fun q => hj q.1)] at h2 ⊢
      obtain ⟨g1, g2⟩ := ip_clr_get ls i j h2
      rw [g1] at h2 ⊢
      refine List.mem_cons_of_mem _ (List.mem_filter.mpr ⟨ip_pl_mem.mpr ⟨ip_get_lt h2, h2, rfl⟩, ?_⟩)
      have e1 : (j == i) = false := by simpa using Ne.symm hj
      have e2 : (j == i + 1) = false := by simpa using Ne.symm hk
      dsimp only
      rw [e1, e2, ip_rn_cat]
      by_cases hc : j + 1 = i
      · have : ¬ (ip_get ls j).category = 2 := fun q => g2 ⟨hc, q⟩
        simp [this]
      · simp [hc]
theorem ip_set2_len (ls : List Value) (i : Nat) (v : Value) : (ip_set2 ls i v).length = ls.length := by simp [ip_set2, ip_clr_len]
theorem ip_i1_inv {st : List Value} {f : Int32 → List Value → Option ip_Z} {z : ip_Z} (h : ip_i1 st f = some z) : ∃ x r, st = .int x :: r ∧ f x r = some z := by
  unfold ip_i1 at h
  split at h
  · exact ⟨_, _, rfl, h⟩
  · cases h
theorem ip_i2_inv {st : List Value} {f : Int32 → Int32 → List Value → Option ip_Z} {z : ip_Z} (h : ip_i2 st f = some z) : ∃ x y r, st = .int y :: .int x :: r ∧ f x y r = some z := by
  unfold ip_i2 at h
  split at h
  · exact ⟨_, _, _, rfl, h⟩
  · cases h
theorem ip_l1_inv {st : List Value} {f : Int64 → List Value → Option ip_Z} {z : ip_Z} (h : ip_l1 st f = some z) : ∃ x r, st = .long x :: r ∧ f x r = some z := by
  unfold ip_l1 at h
  split at h
  · exact ⟨_, _, rfl, h⟩
  · cases h
theorem ip_l2_inv {st : List Value} {f : Int64 → Int64 → List Value → Option ip_Z} {z : ip_Z} (h : ip_l2 st f = some z) : ∃ x y r, st = .long y :: .long x :: r ∧ f x y r = some z := by
  unfold ip_l2 at h
  split at h
  · exact ⟨_, _, _, rfl, h⟩
  · cases h
theorem ip_li_inv {st : List Value} {f : Int64 → Int32 → List Value → Option ip_Z} {z : ip_Z} (h : ip_li st f = some z) : ∃ x y r, st = .int y :: .long x :: r ∧ f x y r = some z := by
  unfold ip_li at h
  split at h
  · exact ⟨_, _, _, rfl, h⟩
  · cases h
theorem ip_r1_inv {st : List Value} {f : Nat → List Value → Option ip_Z} {z : ip_Z} (h : ip_r1 st f = some z) : ∃ x r, st = .ref x :: r ∧ f x r = some z := by
  unfold ip_r1 at h
  split at h
  · exact ⟨_, _, rfl, h⟩
  · cases h
theorem ip_dc_spec {y pc : Nat} {i : Instr} {len nx : Nat} (h : ip_dc y pc i len nx = true) : decode (ip_by y) pc = .ok (i, len) ∧ nx = pc + len := by
  simpa [ip_dc] using h
theorem ip_tg_spec {pc a : Nat} {off : Int} (h : ip_tg pc off a = true) : (pc : Int) + off = (a : Int) := by simpa [ip_tg] using h
