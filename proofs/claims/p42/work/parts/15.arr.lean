-- SOUNDNESS: arrays, cells made, Object.<init>, arraycopy
section IPA
variable {p : Program} {l : Launch} {e : Env} {R : Room} {s : State} {m : MethodId} {args : Array Value} {below : List Frame} {meth : Method} {c : Code} {H : Heap} {locs : List Loc} {cells slots : Nat} {Q : State → Prop}
variable {D : va_G} {cA : Nat → ClassId} {base b y pc : Nat} {X : ip_X} {H0 : Heap} {M : ip_H} {ls st : List Value} {arr : Array Slot} {z : ip_Z} {i : Instr} {nx a k2 t w : Nat} {v : Value} {ts : List Nat}
theorem ip_KT {D : va_G} {s : State} {cA : ClassId} {ty : FieldType} (hK : va_K D ip_cl [] s) (h : ArrOfT s cA ty ∧ va_RA s cA ty) : va_K D ip_cl [(cA, ty)] s := ⟨hK.1, fun k q hk => by
  have hz : k < 1 := (List.getElem?_eq_some_iff.mp hk).1
  rw [show k = 0 by omega] at hk
  cases hk
  exact h⟩
theorem ip_en_i {base : Nat} {cA : Nat → ClassId} {M : ip_H} {k x n : Nat} (h1 : ¬ x = 1) (h2 : x < 4) : ip_en base cA M k (1, x, n) = .inl (cA x, n, .inl (M.2.1 k)) := by
  unfold ip_en
  rw [if_neg (show ¬ (1 : Nat) = 0 from Nat.one_ne_zero)]
  dsimp only
  rw [if_neg h1, if_pos h2]
theorem ip_en_l {base : Nat} {cA : Nat → ClassId} {M : ip_H} {k n : Nat} : ip_en base cA M k (1, 1, n) = .inl (cA 1, n, .inr (.inl (M.2.2.1 k))) := rfl
theorem ip_en_q {base : Nat} {cA : Nat → ClassId} {M : ip_H} {k x n : Nat} (h2 : 4 ≤ x) : ip_en base cA M k (1, x, n) = .inl (cA x, n, .inr (.inr (.inr (.inr (fun j => ip_rf base (M.2.2.2 k j)))))) := by
  unfold ip_en
  rw [if_neg (show ¬ (1 : Nat) = 0 from Nat.one_ne_zero)]
  dsimp only
  rw [if_neg (by omega), if_neg (by omega)]

theorem ip_s_arraylength (C : ip_Cx D cA y p R s m meth c) (hok : ip_ok y pc (.arraylength, nx, a, k2, t, w, v, ts) = true) (hs : ip_step y X (.arraylength, nx, a, k2, t, w, v, ts) ls st M = some z) (hR : ip_Rl D cA base H0 s M H locs) (hX : y = ip_LAW → va_X b X.1 X.2 s H0 ∧ b < H0.size ∧ ¬ base ≤ b) (hl : lv_has arr (ip_ml y) (ip_pl b base ls)) (hlen : ls.length = ip_ml y)
    (kk : ip_go p l e R s m args below meth c cells slots Q D cA base b y H0 z) : W p l e R s m args below meth c H locs cells slots Q (F0 m pc arr (st.map (ip_rn b base))) := by
  obtain ⟨hx, hb, hml, hown, hW, hK, hA, hnm, hfr, hlo⟩ := C
  simp only [ip_ok] at hok
  obtain ⟨hd, rfl⟩ := ip_dc_spec hok
  simp only [ip_step] at hs
  split at hs
  · rename_i k r
    split at hs
    · rename_i hg
      obtain ⟨hk, he, hAr⟩ := ip_arr hg hR
      cases hs
      have hn0 : ¬ ((1 : Nat), (ip_sh M k).2.1, (ip_sh M k).2.2).1 = 0 := Nat.one_ne_zero
      unfold ip_en at he
      rw [if_neg hn0] at he
      exact va_alen hx hb (ip_KT hK hAr) hR.1 k 0 he rfl rfl hd (kk H locs arr hR hl hlen)
    · cases hs
  · rename_i r
    split at hs
    · rename_i hg
      obtain ⟨h1, h2, h3⟩ := hX hg
      cases hs
      exact va_slen hx hb h1 h2 h3 hR.2.2.1 hd (kk H locs arr hR hl hlen)
    · cases hs
  · cases hs

theorem ip_s_iaload (C : ip_Cx D cA y p R s m meth c) (hok : ip_ok y pc (.iaload, nx, a, k2, t, w, v, ts) = true) (hs : ip_step y X (.iaload, nx, a, k2, t, w, v, ts) ls st M = some z) (hR : ip_Rl D cA base H0 s M H locs) (hX : y = ip_LAW → va_X b X.1 X.2 s H0 ∧ b < H0.size ∧ ¬ base ≤ b) (hl : lv_has arr (ip_ml y) (ip_pl b base ls)) (hlen : ls.length = ip_ml y)
    (kk : ip_go p l e R s m args below meth c cells slots Q D cA base b y H0 z) : W p l e R s m args below meth c H locs cells slots Q (F0 m pc arr (st.map (ip_rn b base))) := by
  obtain ⟨hx, hb, hml, hown, hW, hK, hA, hnm, hfr, hlo⟩ := C
  simp only [ip_ok] at hok
  obtain ⟨hd, rfl⟩ := ip_dc_spec hok
  simp only [ip_step] at hs
  split at hs
  · rename_i j k r
    split at hs
    · rename_i hg
      obtain ⟨hk, he, hAr⟩ := ip_arr hg.1 hR
      rw [ip_en_i (by rw [hg.2.1]; decide) (by rw [hg.2.1]; decide)] at he
      cases hs
      have hAr2 := ip_KT hK hAr
      have hty : ip_ty (ip_sh M k).2.1 = .int := by rw [hg.2.1]; rfl
      rw [hty] at hAr2
      exact va_iald hx hb hAr2 hR.1 k 0 he rfl (ip_ixp hg.2.2) hd (kk H locs arr hR hl hlen)
    · cases hs
  · rename_i j r
    split at hs
    · rename_i hg
      obtain ⟨h1, h2, h3⟩ := hX hg.1
      cases hs
      exact va_sld hx hb h1 h2 h3 hR.2.2.1 (ip_ixp hg.2) hd (kk H locs arr hR hl hlen)
    · cases hs
  · cases hs

theorem ip_s_laload (C : ip_Cx D cA y p R s m meth c) (hok : ip_ok y pc (.laload, nx, a, k2, t, w, v, ts) = true) (hs : ip_step y X (.laload, nx, a, k2, t, w, v, ts) ls st M = some z) (hR : ip_Rl D cA base H0 s M H locs) (hl : lv_has arr (ip_ml y) (ip_pl b base ls)) (hlen : ls.length = ip_ml y)
    (kk : ip_go p l e R s m args below meth c cells slots Q D cA base b y H0 z) : W p l e R s m args below meth c H locs cells slots Q (F0 m pc arr (st.map (ip_rn b base))) := by
  obtain ⟨hx, hb, hml, hown, hW, hK, hA, hnm, hfr, hlo⟩ := C
  simp only [ip_ok] at hok
  obtain ⟨hd, rfl⟩ := ip_dc_spec hok
  simp only [ip_step] at hs
  split at hs
  · rename_i j k r
    split at hs
    · rename_i hg
      obtain ⟨hk, he, hAr⟩ := ip_arr hg.1 hR
      have hAr2 := ip_KT hK hAr
      rw [hg.2.1] at he hAr2
      rw [ip_en_l] at he
      cases hs
      exact va_lald hx hb hAr2 hR.1 k 0 he rfl (ip_ixp hg.2.2) hd (kk H locs arr hR hl hlen)
    · cases hs
  · cases hs

theorem ip_s_baload (C : ip_Cx D cA y p R s m meth c) (hok : ip_ok y pc (.baload, nx, a, k2, t, w, v, ts) = true) (hs : ip_step y X (.baload, nx, a, k2, t, w, v, ts) ls st M = some z) (hR : ip_Rl D cA base H0 s M H locs) (hl : lv_has arr (ip_ml y) (ip_pl b base ls)) (hlen : ls.length = ip_ml y)
    (kk : ip_go p l e R s m args below meth c cells slots Q D cA base b y H0 z) : W p l e R s m args below meth c H locs cells slots Q (F0 m pc arr (st.map (ip_rn b base))) := by
  obtain ⟨hx, hb, hml, hown, hW, hK, hA, hnm, hfr, hlo⟩ := C
  simp only [ip_ok] at hok
  obtain ⟨hd, rfl⟩ := ip_dc_spec hok
  simp only [ip_step] at hs
  split at hs
  · rename_i j k r
    split at hs
    · rename_i hg
      obtain ⟨hk, he, hAr⟩ := ip_arr hg.1 hR
      have hAr2 := ip_KT hK hAr
      cases hs
      rcases hg.2.1 with g | g
      · rw [ip_en_i (by rw [g]; decide) (by rw [g]; decide)] at he
        rw [g] at he hAr2
        exact va_bald hx hb hAr2 hR.1 k 0 he rfl (ip_ixp hg.2.2) hd (kk H locs arr hR hl hlen)
      · rw [ip_en_i (by rw [g]; decide) (by rw [g]; decide)] at he
        rw [g] at he hAr2
        exact va_zald hx hb hAr2 hR.1 k 0 he rfl (ip_ixp hg.2.2) hd (kk H locs arr hR hl hlen)
    · cases hs
  · cases hs

theorem ip_tyo {x : Nat} (h : 4 ≤ x) : ip_ty x = .object (if x = 4 then RX8 else RX5) := by
  match x, h with
  | 4, _ => rfl
  | x + 5, _ => show FieldType.object RX5 = _; rw [if_neg (by omega)]
theorem ip_vrn {b base : Nat} (o : Option Nat) : ip_rn b base (ip_vr o) = va_rf (ip_rf base o) := by cases o <;> rfl

theorem ip_s_aaload (C : ip_Cx D cA y p R s m meth c) (hok : ip_ok y pc (.aaload, nx, a, k2, t, w, v, ts) = true) (hs : ip_step y X (.aaload, nx, a, k2, t, w, v, ts) ls st M = some z) (hR : ip_Rl D cA base H0 s M H locs) (hl : lv_has arr (ip_ml y) (ip_pl b base ls)) (hlen : ls.length = ip_ml y)
    (kk : ip_go p l e R s m args below meth c cells slots Q D cA base b y H0 z) : W p l e R s m args below meth c H locs cells slots Q (F0 m pc arr (st.map (ip_rn b base))) := by
  obtain ⟨hx, hb, hml, hown, hW, hK, hA, hnm, hfr, hlo⟩ := C
  simp only [ip_ok] at hok
  obtain ⟨hd, rfl⟩ := ip_dc_spec hok
  simp only [ip_step] at hs
  split at hs
  · rename_i j k r
    split at hs
    · rename_i hg
      obtain ⟨hk, he, hAr⟩ := ip_arr hg.1 hR
      have hAr2 := ip_KT hK hAr
      rw [ip_tyo hg.2.1] at hAr2
      rw [ip_en_q hg.2.1] at he
      cases hs
      have k1 := kk H locs arr hR hl hlen
      rw [List.map_cons, ip_vrn] at k1
      exact va_aldq hx hb hAr2 hR.1 k 0 he rfl (ip_ixp hg.2.2) hd k1
    · cases hs
  · cases hs

theorem ip_wr_i {base : Nat} {M : ip_H} {H1 : Heap} {cA : Nat → ClassId} {k x n j : Nat} {q : Int32} (h1 : ¬ x = 1) (h2 : x < 4) (e : H1[base + k]? = some ((vp_cell (cA x) (n, .inl (M.2.1 k))).setSlot j (.int q))) : va_at D ip_cl (base + k, ip_en base cA (ip_uI M k j q) k (1, x, n)) H1 := by
  rw [ip_en_i h1 h2]
  show H1[base + k]? = some (vp_cell _ _)
  rw [e, vp_cell_i, vp_cell_i, arrV_store]
  congr 2
  funext g
  by_cases hg : g = j
  · subst hg; simp [updV, ip_uI]
  · simp [updV, ip_uI, hg]

theorem ip_s_iastore (C : ip_Cx D cA y p R s m meth c) (hok : ip_ok y pc (.iastore, nx, a, k2, t, w, v, ts) = true) (hs : ip_step y X (.iastore, nx, a, k2, t, w, v, ts) ls st M = some z) (hR : ip_Rl D cA base H0 s M H locs) (hl : lv_has arr (ip_ml y) (ip_pl b base ls)) (hlen : ls.length = ip_ml y)
    (kk : ip_go p l e R s m args below meth c cells slots Q D cA base b y H0 z) : W p l e R s m args below meth c H locs cells slots Q (F0 m pc arr (st.map (ip_rn b base))) := by
  obtain ⟨hx, hb, hml, hown, hW, hK, hA, hnm, hfr, hlo⟩ := C
  simp only [ip_ok] at hok
  obtain ⟨hd, rfl⟩ := ip_dc_spec hok
  simp only [ip_step] at hs
  split at hs
  · rename_i q j k r
    split at hs
    · rename_i hg
      obtain ⟨hk, he, hAr⟩ := ip_arr hg.1 hR
      have g1 : ¬ (ip_sh M k).2.1 = 1 := by rw [hg.2.1]; decide
      have g2 : (ip_sh M k).2.1 < 4 := by rw [hg.2.1]; decide
      rw [ip_en_i g1 g2] at he
      have hty : ip_ty (ip_sh M k).2.1 = .int := by rw [hg.2.1]; rfl
      rw [hty] at hAr
      have hin := ip_ixp hg.2.2
      cases hs
      refine W.iast hx hb (hR.1 k _ he) (hAr.1 _ (fun j => .int (M.2.1 k j))) (fun q => by cases q) (by show ¬ (j < 0 ∨ (arrV _ _ _).slots.size ≤ _); rw [arrV_size]; exact hin) rfl rfl hd fun H1 e z oq => ?_
      exact kk H1 _ arr (hR.set (M1 := ip_uI M k j.toNatClampNeg _) rfl hk ip_en_uI (ip_wr_i g1 g2 e) z oq _) hl hlen
    · cases hs
  · cases hs

theorem ip_s_lastore (C : ip_Cx D cA y p R s m meth c) (hok : ip_ok y pc (.lastore, nx, a, k2, t, w, v, ts) = true) (hs : ip_step y X (.lastore, nx, a, k2, t, w, v, ts) ls st M = some z) (hR : ip_Rl D cA base H0 s M H locs) (hl : lv_has arr (ip_ml y) (ip_pl b base ls)) (hlen : ls.length = ip_ml y)
    (kk : ip_go p l e R s m args below meth c cells slots Q D cA base b y H0 z) : W p l e R s m args below meth c H locs cells slots Q (F0 m pc arr (st.map (ip_rn b base))) := by
  obtain ⟨hx, hb, hml, hown, hW, hK, hA, hnm, hfr, hlo⟩ := C
  simp only [ip_ok] at hok
  obtain ⟨hd, rfl⟩ := ip_dc_spec hok
  simp only [ip_step] at hs
  split at hs
  · rename_i q j k r
    split at hs
    · rename_i hg
      obtain ⟨hk, he, hAr⟩ := ip_arr hg.1 hR
      rw [hg.2.1] at hk he hAr
      rw [ip_en_l] at he
      have hin := ip_ixp hg.2.2
      cases hs
      refine W.last hx hb (hR.1 k _ he) (hAr.1 _ (fun j => .long (M.2.2.1 k j))) (fun q => by cases q) (by show ¬ (j < 0 ∨ (arrV _ _ _).slots.size ≤ _); rw [arrV_size]; exact hin) rfl rfl hd fun H1 e z oq => ?_
      refine kk H1 _ arr (hR.set (M1 := ip_uL M k j.toNatClampNeg q) rfl hk ip_en_uL ?_ z oq _) hl hlen
      rw [ip_en_l]
      show H1[base + k]? = some (vp_cell _ _)
      rw [e, vp_cell_l, vp_cell_l, arrV_store]
      congr 2
      funext g
      by_cases hg : g = j.toNatClampNeg
      · subst hg; simp [updV, ip_uL]
      · simp [updV, ip_uL, hg]
    · cases hs
  · cases hs

theorem ip_s_bastore (C : ip_Cx D cA y p R s m meth c) (hok : ip_ok y pc (.bastore, nx, a, k2, t, w, v, ts) = true) (hs : ip_step y X (.bastore, nx, a, k2, t, w, v, ts) ls st M = some z) (hR : ip_Rl D cA base H0 s M H locs) (hl : lv_has arr (ip_ml y) (ip_pl b base ls)) (hlen : ls.length = ip_ml y)
    (kk : ip_go p l e R s m args below meth c cells slots Q D cA base b y H0 z) : W p l e R s m args below meth c H locs cells slots Q (F0 m pc arr (st.map (ip_rn b base))) := by
  obtain ⟨hx, hb, hml, hown, hW, hK, hA, hnm, hfr, hlo⟩ := C
  simp only [ip_ok] at hok
  obtain ⟨hd, rfl⟩ := ip_dc_spec hok
  simp only [ip_step] at hs
  split at hs
  · rename_i q j k r
    split at hs
    · rename_i hg
      obtain ⟨hk, he, hAr⟩ := ip_arr hg.1 hR
      have hin := ip_ixp hg.2.2
      have g1 : ¬ (ip_sh M k).2.1 = 1 := by rcases hg.2.1 with g | g <;> rw [g] <;> decide
      have g2 : (ip_sh M k).2.1 < 4 := by rcases hg.2.1 with g | g <;> rw [g] <;> decide
      rw [ip_en_i g1 g2] at he
      cases hs
      rcases hg.2.1 with g | g
      · have hty : ip_ty (ip_sh M k).2.1 = .byte := by rw [g]; rfl
        rw [hty] at hAr
        rw [if_pos g] at kk
        refine W.bast hx hb (hR.1 k _ he) (hAr.1 _ (fun j => .int (M.2.1 k j))) (fun q => by cases q) (by show ¬ (j < 0 ∨ (arrV _ _ _).slots.size ≤ _); rw [arrV_size]; exact hin) rfl rfl hd fun H1 e z oq => ?_
        exact kk H1 _ arr (hR.set (M1 := ip_uI M k j.toNatClampNeg _) rfl hk ip_en_uI (ip_wr_i g1 g2 e) z oq _) hl hlen
      · have hty : ip_ty (ip_sh M k).2.1 = .boolean := by rw [g]; rfl
        rw [hty] at hAr
        rw [if_neg (by rw [g]; decide)] at kk
        refine W.zast hx hb (hR.1 k _ he) (hAr.1 _ (fun j => .int (M.2.1 k j))) (fun q => by cases q) (by show ¬ (j < 0 ∨ (arrV _ _ _).slots.size ≤ _); rw [arrV_size]; exact hin) rfl rfl hd fun H1 e z oq => ?_
        exact kk H1 _ arr (hR.set (M1 := ip_uI M k j.toNatClampNeg _) rfl hk ip_en_uI (ip_wr_i g1 g2 e) z oq _) hl hlen
    · cases hs
  · cases hs

theorem ip_Rl.push (hR : ip_Rl D cA base H0 s M H locs) {H1 : Heap} {q : Nat × Nat × Nat} (hz : H1.size = base + M.1.length + 1) (o1 : ∀ x, x < base + M.1.length → H1[x]? = H[x]?) (he : va_at D ip_cl (base + M.1.length, ip_en base cA (ip_nw M q) M.1.length q) H1)
    (hw : q.1 = 0 → ∃ g : vw_C, ip_cl[q.2.1]? = some g ∧ g.2.2 = q.2.2) (hk : q.1 = 1 → ArrOfT s (cA q.2.1) (ip_ty q.2.1) ∧ va_RA s (cA q.2.1) (ip_ty q.2.1)) : ip_Rl D cA base H0 s (ip_nw M q) H1 locs := by
  obtain ⟨hP, hsz, hS, hwf, hKA⟩ := hR
  have key : ∀ (k : Nat) (g : Nat × Nat × Nat), (ip_nw M q).1[k]? = some g → M.1[k]? = some g ∨ g = q := by
    intro k g h
    have h : (M.1 ++ [q])[k]? = some g := h
    by_cases hl : k < M.1.length
    · rw [List.getElem?_append_left hl] at h; exact Or.inl h
    · rw [List.getElem?_append_right (by omega)] at h
      have hz : k - M.1.length < 1 := (List.getElem?_eq_some_iff.mp h).1
      rw [show k - M.1.length = 0 by omega] at h
      cases h; exact Or.inr rfl
  have hk2 : ∀ (k : Nat) (x : Nat × va_E), (ip_ws base cA M)[k]? = some x → H1[x.1]? = H[x.1]? := fun k x hx => o1 x.1 (by rw [← hsz]; exact (hP k x hx).lt)
  refine ⟨?_, by rw [hz]; show _ = base + (M.1 ++ [q]).length; rw [List.length_append]; rfl, ⟨by rw [hz, ← hsz]; exact Nat.le_succ_of_le hS.1, fun x h1 h2 => (o1 x (by rw [← hsz]; exact Nat.lt_of_lt_of_le h1 hS.1)).trans (hS.2.1 x h1 h2), hS.2.2⟩, ?_, ?_⟩
  · rw [ip_ws_push]
    refine (hP.kept hk2).app (fun k x hx => ?_)
    have hz : k < 1 := (List.getElem?_eq_some_iff.mp hx).1
    rw [show k = 0 by omega] at hx
    cases hx
    exact he
  · intro k ci n h
    rcases key k _ h with h | h
    · exact hwf k ci n h
    · exact (by rw [← h] at hw; exact hw rfl)
  · intro k x n h
    rcases key k _ h with h | h
    · exact hKA k x n h
    · exact (by rw [← h] at hk; exact hk rfl)
theorem ip_sh_nw (M : ip_H) (q : Nat × Nat × Nat) : ip_sh (ip_nw M q) M.1.length = q := by simp [ip_sh, ip_nw]
theorem ip_def {ty : FieldType} (hc : ip_kd ty = 2 → ip_ref ty = true) (hf : ty ≠ .float ∧ ty ≠ .double) : defaultValue ty = if ip_kd ty = 1 then .long 0 else if ip_kd ty = 2 then .null else .int 0 := by
  cases ty with
  | float => exact absurd rfl hf.1
  | double => exact absurd rfl hf.2
  | object n => rfl
  | array n => rfl
  | int => rfl
  | long => rfl
  | boolean => rfl
  | byte => exact absurd (hc rfl) (by decide)
  | char => exact absurd (hc rfl) (by decide)
  | short => exact absurd (hc rfl) (by decide)

theorem ip_s_new {n : Nat} (C : ip_Cx D cA y p R s m meth c) (hok : ip_ok y pc ((.new n), nx, a, k2, t, w, v, ts) = true) (hs : ip_step y X ((.new n), nx, a, k2, t, w, v, ts) ls st M = some z) (hR : ip_Rl D cA base H0 s M H locs) (hcells : cells + 1 ≤ R.cells) (hslots : slots + k2 ≤ R.slots) (hl : lv_has arr (ip_ml y) (ip_pl b base ls)) (hlen : ls.length = ip_ml y)
    (kk : ip_go p l e R s m args below meth c (cells + 1) (slots + k2) Q D cA base b y H0 z) : W p l e R s m args below meth c H locs cells slots Q (F0 m pc arr (st.map (ip_rn b base))) := by
  obtain ⟨hx, hb, hml, hown, hW, hK, hA, hnm, hfr, hlo⟩ := C
  simp only [ip_ok, Bool.and_eq_true] at hok
  obtain ⟨h1, h2⟩ := hok
  obtain ⟨hd, rfl⟩ := ip_dc_spec h1
  cases hs
  cases hq : ip_cl[a]? with
  | none => rw [hq] at h2; cases h2
  | some q =>
    rw [hq] at h2
    simp only [Bool.and_eq_true, decide_eq_true_eq] at h2
    obtain ⟨h3, h4, h5, h6⟩ := h2
    subst h3
    have hm := List.mem_of_getElem? hq
    have hts := ip_lays hm hW args
    have hKn := hK.1 a _ hq
    refine W.newcK hx hb hown (hW.use h4 rfl args) (hW.use h5 rfl args) (hW.use h6 rfl args) rfl hd hcells hslots hKn.2.1 hR.2.1 fun H1 kC hkC e1 z1 o1 => ?_
    refine kk H1 locs arr (hR.push z1 o1 ?_ (fun _ => ⟨q, hq, rfl⟩) (fun g => by cases g)) hl hlen
    refine ⟨q, hq, (u_born (ip_fty a) hts (fun _ h => h) hKn hkC e1 (fun j hj => (ip_parse hq j hj).1)).to (fun j hj => ?_)⟩
    have hf : ip_fty a j ≠ .float ∧ ip_fty a j ≠ .double := by
      obtain ⟨i1, i2, -⟩ := ip_cls_use hq
      have h3 : ((List.range 12).all fun ci => (List.range (ip_cl.getD ci (RX0, TX0, 0)).2.2).all fun a => decide (ip_fty ci a ≠ .float) && decide (ip_fty ci a ≠ .double)) = true := by decide +kernel
      have h7 := List.all_eq_true.mp h3 a (List.mem_range.mpr i2)
      rw [i1] at h7
      have h8 := List.all_eq_true.mp h7 j (List.mem_range.mpr hj)
      simpa using h8
    rw [ip_def (ip_kdc a j ⟨q, hq, hj⟩) hf]
    show _ = ((List.range q.2.2).map (ip_fv base (ip_nw M (0, a, q.2.2)) M.1.length a)).getD j .null
    rw [List.getD_eq_getElem?_getD, List.getElem?_map, List.getElem?_range hj, Option.map_some, Option.getD_some]
    unfold ip_fv
    show _ = if _ then Value.long (if M.1.length = M.1.length then 0 else _) else if _ then va_rf (ip_rf base (if M.1.length = M.1.length then none else _)) else Value.int (if M.1.length = M.1.length then 0 else _)
    rw [if_pos rfl, if_pos rfl, if_pos rfl]
    rfl

theorem ip_s_newarray {n : ArrayType} (C : ip_Cx D cA y p R s m meth c) (hok : ip_ok y pc ((.newarray n), nx, a, k2, t, w, v, ts) = true) (hs : ip_step y X ((.newarray n), nx, a, k2, t, w, v, ts) ls st M = some z) (hR : ip_Rl D cA base H0 s M H locs) {N : Nat} (hN : (ip_sh z.2.2.2 M.1.length).2.2 = N) (hcells : cells + 1 ≤ R.cells) (hslots : slots + N ≤ R.slots) (hl : lv_has arr (ip_ml y) (ip_pl b base ls)) (hlen : ls.length = ip_ml y)
    (kk : ip_go p l e R s m args below meth c (cells + 1) (slots + N) Q D cA base b y H0 z) : W p l e R s m args below meth c H locs cells slots Q (F0 m pc arr (st.map (ip_rn b base))) := by
  obtain ⟨hx, hb, hml, hown, hW, hK, hA, hnm, hfr, hlo⟩ := C
  simp only [ip_ok, Bool.and_eq_true, decide_eq_true_eq] at hok
  obtain ⟨h1, h2, h3, h4⟩ := hok
  obtain ⟨hd, rfl⟩ := ip_dc_spec h1
  obtain ⟨x, r, rfl, hz⟩ := ip_i1_inv hs
  split at hz
  · rename_i hg
    cases hz
    have hcs : x.toNatClampNeg = N := by rw [← hN]; exact (congrArg (fun q : Nat × Nat × Nat => q.2.2) (ip_sh_nw M (1, a, x.toNatClampNeg))).symm
    have hbytes : x.toNatClampNeg * componentBytes (newarray.typeOf n) ≤ 536870912 := by
      have : componentBytes (newarray.typeOf n) ≤ 8 := by cases n <;> decide
      have := Nat.mul_le_mul hg.2 this
      omega
    rw [← hcs] at hslots kk
    refine va_newaK hx hb (by rw [h2]; exact hW.use h4 rfl args) rfl hd rfl hg.1 rfl hbytes hcells hslots hR.2.1 fun H1 cA1 e1 z1 o1 hAr hNm => ?_
    have hca : cA1 = cA a := hA a cA1 (by rw [← h2]; exact hNm)
    subst hca
    rw [h2] at e1 hAr hNm
    refine kk H1 locs arr (hR.push (q := (1, a, x.toNatClampNeg)) z1 o1 ?_ (fun g => by cases g) (fun _ => ⟨hAr, ?_⟩)) hl hlen
    · match a, h3 with
      | 0, _ => rw [ip_en_i (by decide) (by decide)]; show H1[_]? = some (vp_cell _ (_, .inl (fun b => if M.1.length = M.1.length then 0 else _))); rw [e1]; simp only [if_true]; rfl
      | 1, _ => rw [ip_en_l]; show H1[_]? = some (vp_cell _ (_, .inr (.inl (fun b => if M.1.length = M.1.length then 0 else _)))); rw [e1]; simp only [if_true]; rfl
      | 2, _ => rw [ip_en_i (by decide) (by decide)]; show H1[_]? = some (vp_cell _ (_, .inl (fun b => if M.1.length = M.1.length then 0 else _))); rw [e1]; simp only [if_true]; rfl
      | 3, _ => rw [ip_en_i (by decide) (by decide)]; show H1[_]? = some (vp_cell _ (_, .inl (fun b => if M.1.length = M.1.length then 0 else _))); rw [e1]; simp only [if_true]; rfl
    · match a, h3, hNm with
      | 0, _, hNm => exact hNm
      | 1, _, hNm => exact hNm
      | 2, _, hNm => exact hNm
      | 3, _, hNm => exact hNm
  · cases hz

theorem ip_s_anewarray {n : Nat} (C : ip_Cx D cA y p R s m meth c) (hok : ip_ok y pc ((.anewarray n), nx, a, k2, t, w, v, ts) = true) (hs : ip_step y X ((.anewarray n), nx, a, k2, t, w, v, ts) ls st M = some z) (hR : ip_Rl D cA base H0 s M H locs) {N : Nat} (hN : (ip_sh z.2.2.2 M.1.length).2.2 = N) (hcells : cells + 1 ≤ R.cells) (hslots : slots + N ≤ R.slots) (hl : lv_has arr (ip_ml y) (ip_pl b base ls)) (hlen : ls.length = ip_ml y)
    (kk : ip_go p l e R s m args below meth c (cells + 1) (slots + N) Q D cA base b y H0 z) : W p l e R s m args below meth c H locs cells slots Q (F0 m pc arr (st.map (ip_rn b base))) := by
  obtain ⟨hx, hb, hml, hown, hW, hK, hA, hnm, hfr, hlo⟩ := C
  simp only [ip_ok, Bool.and_eq_true, Bool.or_eq_true, decide_eq_true_eq] at hok
  obtain ⟨h1, h2, h3⟩ := hok
  obtain ⟨hd, rfl⟩ := ip_dc_spec h1
  obtain ⟨x, r, rfl, hz⟩ := ip_i1_inv hs
  split at hz
  · rename_i hg
    cases hz
    have hcs : x.toNatClampNeg = N := by rw [← hN]; exact (congrArg (fun q : Nat × Nat × Nat => q.2.2) (ip_sh_nw M (1, a, x.toNatClampNeg))).symm
    rw [← hcs] at hslots kk
    have ha4 : 4 ≤ a := by omega
    have hover : va_AO (if a = 4 then RX8 else RX5) s := by split; exact hW.2.1; exact hW.2.2
    refine W.anew hx hb hown (hW.use h3 rfl args) (va_AO.use hover) rfl hd rfl hg.1 (by omega) hcells hslots fun cA1 kA comp f1 f2 f3 f4 => ?_
    generalize hH1 : H.push ({ cls := cA1, slots := Array.replicate x.toNatClampNeg .null, vm := .none } : Cell) = H1
    have z1 : H1.size = base + M.1.length + 1 := by rw [← hH1, Array.size_push, hR.2.1]
    have e1 : H1[base + M.1.length]? = some (arrV cA1 x.toNatClampNeg (fun _ => .null)) := by rw [← hR.2.1, ← hH1, Array.getElem?_push_size, ← arrV_new]
    have o1 : ∀ q : Nat, q < base + M.1.length → H1[q]? = H[q]? := fun q hq => by rw [← hH1, Array.getElem?_push, if_neg (by rw [hR.2.1]; exact Nat.ne_of_lt hq)]
    have hty := ip_tyo ha4
    have hca : cA1 = cA a := hA a cA1 (by rw [hty]; exact f1)
    subst hca
    have hAr : ArrOfT s (cA a) (ip_ty a) := by rw [hty]; exact fun N z => ⟨(fun k h => by cases h), kA, f2, comp, f3⟩
    have k1 := kk H1 locs arr (hR.push z1 o1 (q := (1, a, x.toNatClampNeg)) (by
      rw [ip_en_q ha4]
      show H1[_]? = some (vp_cell _ (_, .inr (.inr (.inr (.inr (fun j => ip_rf base (if M.1.length = M.1.length then none else _)))))))
      rw [e1]; simp only [if_true]; rfl) (fun g => by cases g) (fun _ => ⟨hAr, by rw [show ip_ty ((1, a, x.toNatClampNeg) : Nat × Nat × Nat).2.1 = _ from hty]; exact ⟨kA, comp, f2, f3, f4, f1⟩⟩)) hl hlen
    rw [hR.2.1]
    exact k1
  · cases hz

theorem ip_s_aastore (C : ip_Cx D cA y p R s m meth c) (hok : ip_ok y pc (.aastore, nx, a, k2, t, w, v, ts) = true) (hs : ip_step y X (.aastore, nx, a, k2, t, w, v, ts) ls st M = some z) (hR : ip_Rl D cA base H0 s M H locs) (hl : lv_has arr (ip_ml y) (ip_pl b base ls)) (hlen : ls.length = ip_ml y)
    (kk : ip_go p l e R s m args below meth c cells slots Q D cA base b y H0 z) : W p l e R s m args below meth c H locs cells slots Q (F0 m pc arr (st.map (ip_rn b base))) := by
  obtain ⟨hx, hb, hml, hown, hW, hK, hA, hnm, hfr, hlo⟩ := C
  simp only [ip_ok] at hok
  obtain ⟨hd, rfl⟩ := ip_dc_spec hok
  simp only [ip_step] at hs
  split at hs
  · rename_i q j k r
    split at hs
    · rename_i hg
      obtain ⟨g1, g2, g3, g4, g5⟩ := hg
      obtain ⟨hk, he, hAr⟩ := ip_arr g1 hR
      obtain ⟨cl, hq, hk2, he2⟩ := ip_obj g3 rfl hR
      have hin := ip_ixp g5
      rw [ip_en_q g2] at he
      have hRA := hAr.2
      have hcl1 : FieldType.object cl.1 = ip_ty (ip_sh M k).2.1 := by
        rw [ip_tyo g2]
        rw [g4] at hq
        by_cases h4 : (ip_sh M k).2.1 = 4
        · rw [h4] at hq; rw [if_pos h4]
          have e : ip_cl[ip_oi 4]? = some (RX8, TX8, 4) := rfl
          rw [e] at hq; cases hq; rfl
        · rw [if_neg h4]
          have e0 : ip_oi (ip_sh M k).2.1 = 5 := by unfold ip_oi; split <;> first | (rename_i h; exact absurd h h4) | rfl
          rw [e0] at hq
          have e : ip_cl[5]? = some (RX5, TX5, 8) := rfl
          rw [e] at hq; cases hq; rfl
      rw [← hcl1] at hRA
      obtain ⟨kA, comp, k1, k3, k4, -⟩ := hRA
      have hcls := (hK.1 _ _ hq).2
      have hcomp : comp = D.1 (ip_sh M q).2.1 := Option.some.inj (k4.symm.trans hcls.1)
      subst hcomp
      obtain ⟨kC, hkC, -⟩ := id hcls.2
      obtain ⟨r', hr', cellV, i1, i2, i3, -⟩ := hR.1 q _ he2
      cases hs
      have h0 : ¬ j < 0 := fun q => hin (Or.inl q)
      have hlt : j.toNatClampNeg < (ip_sh M k).2.2 := Nat.not_le.mp fun q => hin (Or.inr q)
      refine W.aast hx hb (hR.1 k _ he) (fun q h => by cases h) (fun h => by cases h) k1 k3 rfl hkC ⟨h0, by show _ < (arrV _ _ _).slots.size; rw [arrV_size]; exact hlt⟩ i1 (fun q h => by rw [i3] at h; cases h) (by rw [i2]; exact hkC) (by rw [i2]; exact va_assign hcls) rfl rfl hd fun H1 e z oq => ?_
      refine kk H1 _ arr (hR.set (M1 := ip_uR M k j.toNatClampNeg (some q)) rfl hk ip_en_uR ?_ z oq _) hl hlen
      rw [ip_en_q g2]
      show H1[base + k]? = some (vp_cell _ _)
      rw [e, vp_cell_q, vp_cell_q, arrV_store]
      congr 2
      funext g
      by_cases hg : g = j.toNatClampNeg
      · subst hg; simp [updV, ip_uR, va_rf, ip_rf]
      · simp [updV, ip_uR, hg]
    · cases hs
  · cases hs

theorem ip_cats (r : List Value) (b base : Nat) : ((r.map (ip_rn b base)).map fun v => v.category).sum ≤ 2 * r.length := by
  induction r with
  | nil => exact Nat.le_refl _
  | cons v r ih =>
    have h1 : (ip_rn b base v).category ≤ 2 := by rcases lv_cat (ip_rn b base v) with h | h <;> omega
    simp only [List.map_cons, List.sum_cons, List.length_cons]
    omega
set_option maxRecDepth 100000 in
theorem ip_oi1 : Cond.instanceMethod Lib.objectInit ∈ lw_tbl := (ip_t1 (List.mem_of_getElem? (l := tables_1_1) (i := 21) rfl))
set_option maxRecDepth 100000 in
theorem ip_oi2 : Cond.code Lib.objectInit ⟨#[0xb1]⟩ 1 none ∈ lw_tbl := (ip_t1 (List.mem_of_getElem? (l := tables_1_1) (i := 22) rfl))
set_option maxRecDepth 100000 in
theorem ip_ac1 : Cond.native arraycopyName ∈ lw_tbl := (ip_t2 (List.mem_of_getElem? (l := tables_1_2) (i := 153) rfl))
set_option maxRecDepth 100000 in
theorem ip_ac2 : Cond.static arraycopyName ∈ lw_tbl := (ip_t2 (List.mem_of_getElem? (l := tables_1_2) (i := 152) rfl))
set_option maxRecDepth 100000 in
theorem ip_ac3 : Cond.initialized "java/lang/System" ∈ lw_tbl := (ip_t1 (List.mem_of_getElem? (l := tables_1_1) (i := 14) rfl))

theorem ip_s_objInit {n : Nat} (C : ip_Cx D cA y p R s m meth c) (hok : ip_ok y pc ((.invokespecial n), nx, a, k2, t, w, v, ts) = true) (hs : ip_step y X ((.invokespecial n), nx, a, k2, t, w, v, ts) ls st M = some z) (hR : ip_Rl D cA base H0 s M H locs) (hl : lv_has arr (ip_ml y) (ip_pl b base ls)) (hlen : ls.length = ip_ml y)
    (kk : ip_go p l e R s m args below meth c cells slots Q D cA base b y H0 z) : W p l e R s m args below meth c H locs cells slots Q (F0 m pc arr (st.map (ip_rn b base))) := by
  obtain ⟨hx, hb, hml, hown, hW, hK, hA, hnm, hfr, hlo⟩ := C
  simp only [ip_ok, Bool.and_eq_true] at hok
  obtain ⟨h1, h2⟩ := hok
  obtain ⟨hd, rfl⟩ := ip_dc_spec h1
  obtain ⟨x, r, rfl, hz⟩ := ip_r1_inv hs
  split at hz
  · rename_i hg
    rw [if_pos hg.1] at h2
    simp only [Bool.and_eq_true, decide_eq_true_eq] at h2
    obtain ⟨h3, h4, h5⟩ := h2
    cases hz
    have hc := ip_cats r b base
    refine W.objInit hx hb hown (hW.use h3 rfl args) (hW.use ip_oi1 rfl args) (hW.use ip_oi2 rfl args) rfl (hl.1.trans hml.symm) rfl hd (by omega) ?_ (kk H locs arr hR hl hlen)
    show 2 * 0 + _ + 12 ≤ _
    omega
  · cases hz

/-- arraycopy between two arrays of numbers -/
theorem ip_Wcopy {α : Type} (mk : α → Value) {cc : ByteArray} (hexec : p.tables.exec = Jvm.exec) (hb : c.code = cc) (hml : c.maxLocals = arr.size) {own : String} {index : Nat} (hown : s.vm.findClass own = some m.cls) (hlink : (Cond.methodLink own index arraycopyName).before args s = true) (hnat : (Cond.native arraycopyName).before args s = true) (hstat : (Cond.static arraycopyName).before args s = true) (hini : (Cond.initialized "java/lang/System").before args s = true)
    {a0 a1 : Nat} {c0 c1 : ClassId} {n0 n1 : Nat} {f g : Nat → α} {ty : FieldType} (hc0 : H[a0]? = some (arrV c0 n0 (fun j => mk (f j)))) (hc1 : H[a1]? = some (arrV c1 n1 (fun j => mk (g j)))) (hA0 : ArrOfT s c0 ty) (hA1 : ArrOfT s c1 ty) (hprim : refKind ty = false) (htk : ∀ (U : State) (k : ClassId) (j : Nat), U.takes k (mk (f j)))
    {sp dp n : Int32} (h1 : ¬ sp < 0) (h2 : ¬ dp < 0) (h3 : ¬ n < 0) (h4 : sp.toNatClampNeg + n.toNatClampNeg ≤ n0) (h5 : dp.toNatClampNeg + n.toNatClampNeg ≤ n1) (hfit : ∀ i, i < n.toNatClampNeg → fits ty (mk (f (sp.toNatClampNeg + i))) = true)
    {rest : List Value} (hframes : 1 ≤ R.frames) (hlocals : (rest.map fun v => v.category).sum + (nativeFrameWords "java/lang/System" "arraycopy" 5 + 11) ≤ R.locals) (hdg : decode cc pc = .ok (.invokestatic index, 3))
    (kk : ∀ (H1 : Heap) (L : List Loc), (∀ q ∈ L, q.base = a1) → H1[a1]? = some (arrV c1 n1 (fun j => mk (va_cpy f g sp.toNatClampNeg dp.toNatClampNeg n.toNatClampNeg j))) → H1.size = H.size → (∀ q : Nat, q ≠ a1 → H1[q]? = H[q]?) → W p l e R s m args below meth c H1 (locs ++ L) cells slots Q (F0 m (pc + 3) arr rest)) : W p l e R s m args below meth c H locs cells slots Q (F0 m pc arr (.int n :: .int dp :: .ref a1 :: .int sp :: .ref a0 :: rest)) := by
  have nn : ∀ z : Int32, ¬ z < 0 → z.toInt = (z.toNatClampNeg : Int) := by
    intro z hz
    have hz0 : (0 : Int) ≤ z.toInt := by
      have := Int32.not_lt.mp hz
      simpa using Int32.le_iff_toInt_le.mp this
    show z.toInt = ((z.toInt.toNat : Nat) : Int)
    omega
  intro T hT X
  obtain ⟨-, k0, hk0, cm0, hkk0⟩ := hA0 n0 (fun j => mk (f j))
  obtain ⟨-, k1, hk1, cm1, hkk1⟩ := hA1 n1 (fun j => mk (g j))
  have e0 : ∀ i, i < n.toNatClampNeg → (arrV c0 n0 (fun j => mk (f j))).slots.getD (sp.toNatClampNeg + i) .null = mk (f (sp.toNatClampNeg + i)) := by
    intro i hi
    rw [Array.getD_eq_getD_getElem?, arrV_read _ _ (by omega)]
    rfl
  obtain ⟨vm', X', step⟩ := X.arraycopy hexec hown hlink hnat hstat hini (src := a0) (dst := a1) (cs := arrV c0 n0 (fun j => mk (f j))) (cd := arrV c1 n1 (fun j => mk (g j))) (srcPos := sp) (destPos := dp) (n := n) (by rw [hT]; exact hc0) (by rw [hT]; exact hc1)
    (fun _ h => by cases h) (fun _ h => by cases h) (fun h => by cases h) (fun h => by cases h) hk0 hk1 hkk0 hkk1 (by simp [hprim]) h1 h2 h3
    (by rw [nn sp h1, nn n h3, arrV_size]; omega)
    (by rw [nn dp h2, nn n h3, arrV_size]; omega)
    (fun vm₁ _ i hi => ⟨by rw [e0 i hi]; exact hfit i hi, by rw [e0 i hi]; exact htk _ _ _⟩)
    (g := F0 m pc arr (.int n :: .int dp :: .ref a1 :: .int sp :: .ref a0 :: rest)) rfl (by rw [hml]) (rest := rest) rfl (by rw [hb]; exact hdg) hframes (by show 2 * 0 + _ + _ ≤ _; omega)
  have e1 : copied (arrV c0 n0 (fun j => mk (f j))) (arrV c1 n1 (fun j => mk (g j))) sp dp n = arrV c1 n1 (fun j => mk (va_cpy f g sp.toNatClampNeg dp.toNatClampNeg n.toNatClampNeg j)) := va_copied mk c0 c1 f g h4
  rw [e1] at X' step
  have hl : a1 < T.heap.size := by rw [hT]; exact (Array.getElem?_eq_some_iff.mp hc1).1
  obtain ⟨t, x1, y1⟩ := kk _ _ (fun q hq => by
      obtain ⟨z, -, hz⟩ := List.mem_map.mp hq
      rw [← hz]) (heapAt_setCell_self (s := T.setVm vm') _ hl) (by rw [size_setCell]; exact congrArg Array.size hT) (fun q hq => by rw [heapAt_setCell_ne _ (Ne.symm hq)]; rw [← hT]; rfl) _ rfl X'
  exact ⟨t, step t x1, y1⟩
theorem ip_en_cpI {base : Nat} {cA : Nat → ClassId} {M : ip_H} {k0 k1 sp dp n : Nat} : ∀ (i : Nat) (z : Nat × Nat × Nat), i ≠ k1 → ip_en base cA (ip_cpI M k0 k1 sp dp n) i z = ip_en base cA M i z := by
  intro i z hi
  have e1 : (ip_cpI M k0 k1 sp dp n).2.1 i = M.2.1 i := by show (if i = k1 then _ else _) = _; rw [if_neg hi]
  have e4 : ip_fv base (ip_cpI M k0 k1 sp dp n) i z.2.1 = ip_fv base M i z.2.1 := by funext b; unfold ip_fv; rw [e1]; rfl
  unfold ip_en
  rw [e1, e4]; rfl
theorem ip_en_cpL {base : Nat} {cA : Nat → ClassId} {M : ip_H} {k0 k1 sp dp n : Nat} : ∀ (i : Nat) (z : Nat × Nat × Nat), i ≠ k1 → ip_en base cA (ip_cpL M k0 k1 sp dp n) i z = ip_en base cA M i z := by
  intro i z hi
  have e1 : (ip_cpL M k0 k1 sp dp n).2.2.1 i = M.2.2.1 i := by show (if i = k1 then _ else _) = _; rw [if_neg hi]
  have e4 : ip_fv base (ip_cpL M k0 k1 sp dp n) i z.2.1 = ip_fv base M i z.2.1 := by funext b; unfold ip_fv; rw [e1]; rfl
  unfold ip_en
  rw [e1, e4]; rfl
theorem ip_Rl.setL (hR : ip_Rl D cA base H0 s M H locs) {M1 : ip_H} {H1 : Heap} (h1 : M1.1 = M.1) {k : Nat} {q : Nat × Nat × Nat} (hk : M.1[k]? = some q) (hen : ∀ (i : Nat) (z : Nat × Nat × Nat), i ≠ k → ip_en base cA M1 i z = ip_en base cA M i z)
    (he : va_at D ip_cl (base + k, ip_en base cA M1 k q) H1) (hz : H1.size = H.size) (oq : ∀ x, x ≠ base + k → H1[x]? = H[x]?) {L : List Loc} (hL : ∀ x ∈ L, x.base = base + k) : ip_Rl D cA base H0 s M1 H1 (locs ++ L) := by
  obtain ⟨g1, g2, g3, g4, g5⟩ := hR.set h1 hk hen he hz oq 0
  refine ⟨g1, g2, ⟨g3.1, g3.2.1, fun x hx => ?_⟩, g4, g5⟩
  rcases List.mem_append.mp hx with h | h
  · exact hR.2.2.1.2.2 x h
  · rw [hL x h]; exact Nat.le_add_right _ _

theorem ip_s_copy {n : Nat} (C : ip_Cx D cA y p R s m meth c) (hok : ip_ok y pc ((.invokestatic n), nx, a, k2, t, w, v, ts) = true) (hs : ip_step y X ((.invokestatic n), nx, a, k2, t, w, v, ts) ls st M = some z) (hR : ip_Rl D cA base H0 s M H locs) (hl : lv_has arr (ip_ml y) (ip_pl b base ls)) (hlen : ls.length = ip_ml y)
    (kk : ip_go p l e R s m args below meth c cells slots Q D cA base b y H0 z) : W p l e R s m args below meth c H locs cells slots Q (F0 m pc arr (st.map (ip_rn b base))) := by
  obtain ⟨hx, hb, hml, hown, hW, hK, hA, hnm, hfr, hlo⟩ := C
  simp only [ip_ok, Bool.and_eq_true] at hok
  obtain ⟨h1, h2⟩ := hok
  obtain ⟨hd, rfl⟩ := ip_dc_spec h1
  simp only [ip_step] at hs
  split at hs
  · rename_i q dp k1 sp k0 r
    split at hs
    · rename_i hg
      obtain ⟨i1, i2, i3, i4, i5, i6, i7, i8, i9, i10, i11⟩ := hg
      rw [if_pos i1] at h2
      simp only [Bool.and_eq_true, decide_eq_true_eq] at h2
      obtain ⟨h3, h4, h5⟩ := h2
      obtain ⟨hk0, he0, hAr0⟩ := ip_arr i3 hR
      obtain ⟨hk1, he1, hAr1⟩ := ip_arr i4 hR
      have hc := ip_cats r b base
      have hlo2 : ((r.map (ip_rn b base)).map fun v => v.category).sum + (nativeFrameWords "java/lang/System" "arraycopy" 5 + 11) ≤ R.locals := by omega
      rw [← i5] at hAr1 he1 hk1
      have w1 := hW.use h3 rfl args
      have w2 := hW.use ip_ac1 rfl args
      have w3 := hW.use ip_ac2 rfl args
      have w4 := hW.use ip_ac3 rfl args
      have hmL : c.maxLocals = arr.size := hml.trans hl.1.symm
      by_cases hL : (ip_sh M k0).2.1 = 1
      · rw [if_pos hL] at hs
        cases hs
        rw [hL] at hAr0 hAr1 he0 he1 hk1
        rw [ip_en_l] at he0 he1
        refine ip_Wcopy (fun z : Int64 => Value.long z) hx hb hmL hown w1 w2 w3 w4 (hR.1 k0 _ he0) (hR.1 k1 _ he1) hAr0.1 hAr1.1 rfl (fun _ _ _ => trivial) i7 i8 i9 i10 i11 (fun _ _ => rfl) (by omega) hlo2 hd fun H1 L hLL e z oq => ?_
        refine kk H1 _ arr (hR.setL (M1 := ip_cpL M k0 k1 sp.toNatClampNeg dp.toNatClampNeg q.toNatClampNeg) rfl hk1 ip_en_cpL ?_ z oq hLL) hl hlen
        rw [ip_en_l]
        show H1[base + k1]? = some (vp_cell _ (_, .inr (.inl (if k1 = k1 then _ else _))))
        rw [if_pos rfl]
        exact e
      · rw [if_neg hL] at hs
        split at hs
        · rename_i hf
          cases hs
          have g2 : (ip_sh M k0).2.1 < 4 := by omega
          rw [ip_en_i hL g2] at he0 he1
          have hfit : ∀ i, i < q.toNatClampNeg → fits (ip_ty (ip_sh M k0).2.1) (.int (M.2.1 k0 (sp.toNatClampNeg + i))) = true := by
            intro i hi
            rcases hf with hf | hf
            · rw [hf]; rfl
            · have h0 : (ip_sh M k0).2.1 = 0 ∨ (ip_sh M k0).2.1 = 2 := by omega
              rcases h0 with h0 | h0
              · rw [h0]; rfl
              · rw [h0]; exact hf i (List.mem_range.mpr hi)
          have hpr : refKind (ip_ty (ip_sh M k0).2.1) = false := by
            have h0 : (ip_sh M k0).2.1 = 0 ∨ (ip_sh M k0).2.1 = 2 := by omega
            rcases h0 with h0 | h0 <;> rw [h0] <;> rfl
          refine ip_Wcopy (fun z : Int32 => Value.int z) hx hb hmL hown w1 w2 w3 w4 (hR.1 k0 _ he0) (hR.1 k1 _ he1) hAr0.1 hAr1.1 hpr (fun _ _ _ => trivial) i7 i8 i9 i10 i11 hfit (by omega) hlo2 hd fun H1 L hLL e z oq => ?_
          refine kk H1 _ arr (hR.setL (M1 := ip_cpI M k0 k1 sp.toNatClampNeg dp.toNatClampNeg q.toNatClampNeg) rfl hk1 ip_en_cpI ?_ z oq hLL) hl hlen
          rw [ip_en_i hL g2]
          show H1[base + k1]? = some (vp_cell _ (_, .inl (if k1 = k1 then _ else _)))
          rw [if_pos rfl]
          exact e
        · cases hs
    · cases hs
  · cases hs
end IPA
