-- SOUNDNESS of the instructions that read or write cells, or make them
theorem ip_cls_use {ci : Nat} {q : vw_C} (h : ip_cl[ci]? = some q) : ip_cl.getD ci (RX0, TX0, 0) = q ∧ ci < 12 ∧ q ∈ ip_cl := by
  refine ⟨by rw [List.getD_eq_getElem?_getD, h]; rfl, ?_, List.mem_of_getElem? h⟩
  have := (List.getElem?_eq_some_iff.mp h).1
  exact this
theorem ip_lays {q : vw_C} (hq : q ∈ ip_cl) {s : State} (hW : ip_W s) (args : Array Value) : ∀ w ∈ u_ws q.1 q.2.1 q.2.2, w.before args s = true := by
  intro w hw
  have h1 := List.all_eq_true.mp ip_Lw q hq
  have h2 := List.all_eq_true.mp h1 w hw
  rw [Bool.and_eq_true, decide_eq_true_eq] at h2
  exact hW.use h2.1 h2.2 args
theorem ip_apart {q : vw_C} (hq : q ∈ ip_cl) : ∀ a, a < q.2.2 → ∀ b, b < q.2.2 → a ≠ b → (q.2.1 a).2.1 ≠ (q.2.1 b).2.1 := by
  intro a ha b hb hne
  have h1 := List.all_eq_true.mp (List.all_eq_true.mp (List.all_eq_true.mp ip_Tn q hq) a (List.mem_range.mpr ha)) b (List.mem_range.mpr hb)
  rw [Bool.or_eq_true, decide_eq_true_eq, decide_eq_true_eq] at h1
  exact h1.resolve_left hne
theorem ip_parse {ci : Nat} {q : vw_C} (h : ip_cl[ci]? = some q) : ∀ k, k < q.2.2 → parseFieldDescriptor (q.2.1 k).2.2.1 = some (ip_fty ci k) ∧ (q.2.1 k).1 = q.1 := by
  intro k hk
  obtain ⟨h1, h2, -⟩ := ip_cls_use h
  have h3 := List.all_eq_true.mp ip_Ty ci (List.mem_range.mpr h2)
  rw [h1] at h3
  have h4 := List.all_eq_true.mp h3 k (List.mem_range.mpr hk)
  rw [Bool.and_eq_true, decide_eq_true_eq, decide_eq_true_eq] at h4
  exact h4
theorem ip_flink {y w n a k : Nat} {q : vw_C} (hw : ip_F[w]? = some (ip_oc y, n, a, k, false)) (hc : ip_cl[a]? = some q) {s : State} (hW : ip_W s) (args : Array Value) : (Cond.fieldLink (ip_os y) n (q.2.1 k).1 (q.2.1 k).2.1 (q.2.1 k).2.2.1).before args s = true := by
  obtain ⟨h1, h2⟩ := ip_F_ok _ (List.mem_of_getElem? hw)
  have e : ip_FC (ip_oc y, n, a, k, false) = Cond.fieldLink (ip_os y) n (q.2.1 k).1 (q.2.1 k).2.1 (q.2.1 k).2.2.1 := by
    simp only [ip_FC, (ip_cls_use hc).1, ip_os, Bool.false_eq_true, if_false]
  rw [e] at h1 h2
  exact hW.use h1 h2 args
theorem ip_flinkN {y w n a k : Nat} {q : vw_C} (hw : ip_F[w]? = some (ip_oc y, n, a, k, true)) (hc : ip_cl[a]? = some q) {s : State} (hW : ip_W s) (args : Array Value) : (Cond.fieldLinkNest (ip_os y) n (q.2.1 k).1 (q.2.1 k).2.1 (q.2.1 k).2.2.1 RX10).before args s = true := by
  obtain ⟨h1, h2⟩ := ip_F_ok _ (List.mem_of_getElem? hw)
  have e : ip_FC (ip_oc y, n, a, k, true) = Cond.fieldLinkNest (ip_os y) n (q.2.1 k).1 (q.2.1 k).2.1 (q.2.1 k).2.2.1 RX10 := by
    simp only [ip_FC, (ip_cls_use hc).1, ip_os, if_true]
  rw [e] at h1 h2
  exact hW.use h1 h2 args
theorem ip_en_uI {base : Nat} {cA : Nat → ClassId} {M : ip_H} {k j : Nat} {v : Int32} : ∀ (i : Nat) (z : Nat × Nat × Nat), i ≠ k → ip_en base cA (ip_uI M k j v) i z = ip_en base cA M i z := by
  intro i z hi
  have e1 : (ip_uI M k j v).2.1 i = M.2.1 i := by funext b; show (if i = k ∧ b = j then _ else _) = _; rw [if_neg (fun q => hi q.1)]
  have e4 : ip_fv base (ip_uI M k j v) i z.2.1 = ip_fv base M i z.2.1 := by funext b; unfold ip_fv; rw [e1]; rfl
  unfold ip_en
  rw [e1, e4]; rfl
theorem ip_en_uL {base : Nat} {cA : Nat → ClassId} {M : ip_H} {k j : Nat} {v : Int64} : ∀ (i : Nat) (z : Nat × Nat × Nat), i ≠ k → ip_en base cA (ip_uL M k j v) i z = ip_en base cA M i z := by
  intro i z hi
  have e1 : (ip_uL M k j v).2.2.1 i = M.2.2.1 i := by funext b; show (if i = k ∧ b = j then _ else _) = _; rw [if_neg (fun q => hi q.1)]
  have e4 : ip_fv base (ip_uL M k j v) i z.2.1 = ip_fv base M i z.2.1 := by funext b; unfold ip_fv; rw [e1]; rfl
  unfold ip_en
  rw [e1, e4]; rfl
theorem ip_en_uR {base : Nat} {cA : Nat → ClassId} {M : ip_H} {k j : Nat} {v : Option Nat} : ∀ (i : Nat) (z : Nat × Nat × Nat), i ≠ k → ip_en base cA (ip_uR M k j v) i z = ip_en base cA M i z := by
  intro i z hi
  have e1 : (ip_uR M k j v).2.2.2 i = M.2.2.2 i := by funext b; show (if i = k ∧ b = j then _ else _) = _; rw [if_neg (fun q => hi q.1)]
  have e4 : ip_fv base (ip_uR M k j v) i z.2.1 = ip_fv base M i z.2.1 := by funext b; unfold ip_fv; rw [e1]; rfl
  unfold ip_en
  rw [e1, e4]; rfl
section IPH
variable {D : va_G} {cA : Nat → ClassId} {base : Nat} {H0 H H1 : Heap} {s : State} {M M1 : ip_H} {locs : List Loc}
theorem ip_Rl.set (hR : ip_Rl D cA base H0 s M H locs) (h1 : M1.1 = M.1) {k : Nat} {q : Nat × Nat × Nat} (hk : M.1[k]? = some q) (hen : ∀ (i : Nat) (z : Nat × Nat × Nat), i ≠ k → ip_en base cA M1 i z = ip_en base cA M i z)
    (he : va_at D ip_cl (base + k, ip_en base cA M1 k q) H1) (hz : H1.size = H.size) (oq : ∀ x, x ≠ base + k → H1[x]? = H[x]?) (j : Nat) : ip_Rl D cA base H0 s M1 H1 (locs ++ [⟨base + k, j⟩]) := by
  obtain ⟨hP, hsz, hS, hwf, hKA⟩ := hR
  have hw : (ip_ws base cA M)[k]? = some (base + k, ip_en base cA M k q) := by rw [ip_ws_get, hk]; rfl
  refine ⟨?_, by rw [hz, h1]; exact hsz, hS.put hz oq (Nat.le_add_right _ _), fun a b c h => hwf a b c (by rw [← h1]; exact h), fun a b c h => hKA a b c (by rw [← h1]; exact h)⟩
  rw [ip_ws_upd h1 hk hen]
  exact hP.set (ip_wsD base cA M) hw he oq
theorem ip_obj {k : Nat} (h0 : (ip_sh M k).1 = 0) {a : Nat} (h1 : (ip_sh M k).2.1 = a) (hR : ip_Rl D cA base H0 s M H locs) : ∃ q : vw_C, ip_cl[a]? = some q ∧ M.1[k]? = some (0, a, q.2.2) ∧ (ip_ws base cA M)[k]? = some (base + k, .inr (a, (List.range q.2.2).map (ip_fv base M k a))) := by
  have hk := ip_sh_get (M := M) (k := k) (by rw [h0]; decide)
  rcases hx : ip_sh M k with ⟨x1, x2, x3⟩
  rw [hx] at h0 h1 hk
  dsimp only at h0 h1
  subst h0; subst h1
  obtain ⟨q, hq1, hq2⟩ := hR.2.2.2.1 k x2 x3 hk
  subst hq2
  refine ⟨q, hq1, hk, ?_⟩
  rw [ip_ws_get, hk]
  rfl
theorem ip_arr {k : Nat} (h0 : (ip_sh M k).1 = 1) (hR : ip_Rl D cA base H0 s M H locs) : M.1[k]? = some (1, (ip_sh M k).2.1, (ip_sh M k).2.2) ∧ (ip_ws base cA M)[k]? = some (base + k, ip_en base cA M k (1, (ip_sh M k).2.1, (ip_sh M k).2.2)) ∧ ArrOfT s (cA (ip_sh M k).2.1) (ip_ty (ip_sh M k).2.1) ∧ va_RA s (cA (ip_sh M k).2.1) (ip_ty (ip_sh M k).2.1) := by
  have hk := ip_sh_get (M := M) (k := k) (by rw [h0]; decide)
  have e : ip_sh M k = (1, (ip_sh M k).2.1, (ip_sh M k).2.2) := by rw [← h0]
  rw [e] at hk
  exact ⟨hk, by rw [ip_ws_get, hk]; rfl, hR.2.2.2.2 k _ _ hk⟩
theorem ip_fv_set {base : Nat} {M M1 : ip_H} {k a b n : Nat} {v : Value} (h : ∀ j, j < n → ip_fv base M1 k a j = if j = b then v else ip_fv base M k a j) : (List.range n).map (ip_fv base M1 k a) = ((List.range n).map (ip_fv base M k a)).set b v := by
  apply List.ext_getElem?
  intro j
  rw [List.getElem?_set, List.getElem?_map, List.getElem?_map, List.length_map, List.length_range]
  by_cases hj : j < n
  · rw [List.getElem?_range hj, Option.map_some, Option.map_some, h j hj]
    by_cases hb : b = j
    · subst hb; simp [hj]
    · rw [if_neg (fun q => hb q.symm), if_neg hb]
  · rw [List.getElem?_eq_none (by simpa using hj), Option.map_none, Option.map_none]
    by_cases hb : b = j
    · subst hb; rw [if_pos rfl, if_neg hj]
    · rw [if_neg hb]
end IPH
theorem ip_ixp {i : Int32} {n : Nat} (h : ip_ix i n = true) : vp_in i n := by
  unfold ip_ix at h
  rw [Bool.and_eq_true, decide_eq_true_eq, decide_eq_true_eq] at h
  exact fun q => q.elim h.1 (fun g => by omega)

theorem ip_kd0 {ty : FieldType} (h : ip_kd ty = 0) : ty = .int := by cases ty <;> first | rfl | (simp [ip_kd] at h)
theorem ip_kd1 {ty : FieldType} (h : ip_kd ty = 1) : ty = .long := by cases ty <;> first | rfl | (simp [ip_kd] at h)
theorem ip_kd3 {ty : FieldType} (h : ip_kd ty = 3) : ty = .boolean := by cases ty <;> first | rfl | (simp [ip_kd] at h)
def ip_ref : FieldType → Bool
  | .object _ => true
  | .array _ => true
  | _ => false
set_option maxRecDepth 100000 in
theorem ip_kdp : ((List.range 12).all fun ci => (List.range (ip_cl.getD ci (RX0, TX0, 0)).2.2).all fun a => decide (ip_kd (ip_fty ci a) ≠ 2) || ip_ref (ip_fty ci a)) = true := by decide +kernel
theorem ip_kdc (ci a : Nat) (h : ∃ q : vw_C, ip_cl[ci]? = some q ∧ a < q.2.2) : ip_kd (ip_fty ci a) = 2 → ip_ref (ip_fty ci a) = true := by
  obtain ⟨q, hq, ha⟩ := h
  obtain ⟨h1, h2, -⟩ := ip_cls_use hq
  have h3 := List.all_eq_true.mp ip_kdp ci (List.mem_range.mpr h2)
  rw [h1] at h3
  have h4 := List.all_eq_true.mp h3 a (List.mem_range.mpr ha)
  rw [Bool.or_eq_true, decide_eq_true_eq] at h4
  exact fun h => h4.resolve_left (fun g => g h)
theorem ip_kd2 {ty : FieldType} {x : Nat} (hc : ip_kd ty = 2 → ip_ref ty = true) (h : ip_kd ty = 2) : narrow ty (.ref x) = .ref x ∧ fits ty (.ref x) = true := by
  have h1 := hc h
  cases ty with
  | object n => exact ⟨rfl, rfl⟩
  | array n => exact ⟨rfl, rfl⟩
  | _ => simp [ip_ref] at h1
theorem ip_own_cl {a : Nat} {q : vw_C} (h : ip_cl[a]? = some q) : q.1 = ip_own.getD a "" := by
  obtain ⟨h1, h2, -⟩ := ip_cls_use h
  have h3 : ((List.range 12).all fun ci => decide ((ip_cl.getD ci (RX0, TX0, 0)).1 = ip_own.getD ci "")) = true := by decide +kernel
  have h4 := List.all_eq_true.mp h3 a (List.mem_range.mpr h2)
  rw [h1, decide_eq_true_eq] at h4
  exact h4

-- ==== ROWS
section IPH2
variable {p : Program} {l : Launch} {e : Env} {R : Room} {s : State} {m : MethodId} {args : Array Value} {below : List Frame} {meth : Method} {c : Code} {H : Heap} {locs : List Loc} {cells slots : Nat} {Q : State → Prop}
variable {D : va_G} {cA : Nat → ClassId} {base b y pc : Nat} {X : ip_X} {H0 : Heap} {M : ip_H} {ls st : List Value} {arr : Array Slot} {z : ip_Z} {i : Instr} {nx a k2 t w : Nat} {v : Value} {ts : List Nat}

theorem ip_s_getfield {n : Nat} (C : ip_Cx D cA y p R s m meth c) (hok : ip_ok y pc ((.getfield n), nx, a, k2, t, w, v, ts) = true) (hs : ip_step y X ((.getfield n), nx, a, k2, t, w, v, ts) ls st M = some z) (hR : ip_Rl D cA base H0 s M H locs) (hl : lv_has arr (ip_ml y) (ip_pl b base ls)) (hlen : ls.length = ip_ml y)
    (kk : ip_go p l e R s m args below meth c cells slots Q D cA base b y H0 z) : W p l e R s m args below meth c H locs cells slots Q (F0 m pc arr (st.map (ip_rn b base))) := by
  obtain ⟨hx, hb, hml, hown, hW, hK, hA, hnm, hfr, hlo⟩ := C
  simp only [ip_ok, Bool.and_eq_true, decide_eq_true_eq] at hok
  obtain ⟨h1, h2, h3, h4⟩ := hok
  obtain ⟨hd, rfl⟩ := ip_dc_spec h1
  obtain ⟨k, r, rfl, hz⟩ := ip_r1_inv hs
  split at hz
  · rename_i hg
    obtain ⟨q, hq, hk, he⟩ := ip_obj hg.1 hg.2 hR
    rw [hq] at h4
    have h4 : k2 < q.2.2 := by simpa using h4
    cases hz
    have hv : ((List.range q.2.2).map (ip_fv base M k a))[k2]? = some (ip_fv base M k a k2) := by rw [List.getElem?_map, List.getElem?_range h4]; rfl
    have k1 := kk H locs arr hR hl hlen
    have e1 : ip_rn b base (if t = 1 then .long (M.2.2.1 k k2) else if t = 2 then ip_vr (M.2.2.2 k k2) else .int (M.2.1 k k2)) = ip_fv base M k a k2 := by
      unfold ip_fv
      rw [← h3]
      by_cases g1 : t = 1
      · rw [if_pos g1, if_pos g1]; rfl
      · rw [if_neg g1, if_neg g1]
        by_cases g2 : t = 2
        · rw [if_pos g2, if_pos g2]; cases M.2.2.2 k k2 <;> rfl
        · rw [if_neg g2, if_neg g2]; rfl
    rw [List.map_cons, e1] at k1
    rcases h2 with h2 | h2
    · exact va_get hx hb (ip_lays (List.mem_of_getElem? hq) hW args) (fun _ h => h) hown hK hR.1 k he hq k2 h4 (ip_flink h2 hq hW args) (fun _ h => h) hv hd k1
    · exact va_getN hx hb (ip_lays (List.mem_of_getElem? hq) hW args) (fun _ h => h) hown hK hR.1 k he hq k2 h4 (ip_flinkN h2 hq hW args) (fun _ h => h) hv hd k1
  · cases hz

/-- putfield, of any of the three kinds of link -/
theorem ip_put (C : ip_Cx D cA y p R s m meth c) (hR : ip_Rl D cA base H0 s M H locs) {M1 : ip_H} {n k : Nat} {q : vw_C} {v0 : Value} {r : List Value} (hd : decode (ip_by y) pc = .ok (.putfield n, 3)) (hq : ip_cl[a]? = some q) (hk : M.1[k]? = some (0, a, q.2.2)) (he : (ip_ws base cA M)[k]? = some (base + k, .inr (a, (List.range q.2.2).map (ip_fv base M k a)))) (h4 : k2 < q.2.2)
    (h2 : ip_F[w]? = some (ip_oc y, n, a, k2, false) ∨ ip_F[w]? = some (ip_oc y, n, a, k2, true)) (h5 : ip_fin a k2 = true → (ip_nm y).name = "<init>" ∧ ip_oc y = a ∧ ip_F[w]? = some (ip_oc y, n, a, k2, false))
    (hn : narrow (ip_fty a k2) v0 = v0) (hfit : fits (ip_fty a k2) v0 = true) (h1 : M1.1 = M.1) (hen : ∀ (i : Nat) (z : Nat × Nat × Nat), i ≠ k → ip_en base cA M1 i z = ip_en base cA M i z) (hfs : ∀ j, j < q.2.2 → ip_fv base M1 k a j = if j = k2 then v0 else ip_fv base M k a j)
    (kk : ∀ (H1 : Heap) (locs1 : List Loc), ip_Rl D cA base H0 s M1 H1 locs1 → W p l e R s m args below meth c H1 locs1 cells slots Q (F0 m (pc + 3) arr r)) : W p l e R s m args below meth c H locs cells slots Q (F0 m pc arr (v0 :: .ref (base + k) :: r)) := by
  obtain ⟨hx, hb, hml, hown, hW, hK, hA, hnm, hfr, hlo⟩ := C
  have hm := List.mem_of_getElem? hq
  have hts := ip_lays hm hW args
  have hap := va_apart (own := ip_os y) (s := s) hts (fun _ h => h) (ip_fty a) (fun j hj => (ip_parse hq j hj).1) (ip_apart hm) hK hq
  obtain ⟨r0, g1, cell, q1, q2, q3, q4⟩ := hR.1 k _ he
  have hr : r0 = q := Option.some.inj (g1.symm.trans hq)
  subst hr
  obtain ⟨hS, hfc, kC, hkC, hkind⟩ := hK.1 a _ hq
  obtain ⟨cf, kf, fi, f, hi, hsl⟩ := hS k2 h4
  have hlay := hts _ (u_in_lay (C := r0.1) (T := r0.2.1) h4)
  have hst := (u_facts hfc hkC (u_lays hts (fun _ h => h) h4) hi).1
  have hdt := (ip_parse hq k2 h4).1
  have hsz : f.slot < cell.slots.size := by rw [hsl]; exact k2_hasslot (q4 k2 h4)
  have fin : ∀ H1 : Heap, H1[base + k]? = some (cell.setSlot f.slot v0) → H1.size = H.size → (∀ x, x ≠ base + k → H1[x]? = H[x]?) → ip_Rl D cA base H0 s M1 H1 (locs ++ [⟨base + k, f.slot⟩]) := by
    intro H1 e1 e2 e3
    refine hR.set h1 hk hen ?_ e2 e3 f.slot
    refine ⟨r0, hq, t_OB.to (V := updV (vp_V ((List.range r0.2.2).map (ip_fv base M k a))) k2 v0) ⟨_, e1, q2, q3, ?_⟩ (fun j hj => ?_)⟩
    · rw [hsl]; exact t_set q4 hap h4 v0
    · have e4 := ip_fv_set (M := M) (M1 := M1) hfs
      show _ = vp_V ((List.range r0.2.2).map (ip_fv base M1 k a)) j
      rw [e4]
      exact vp_updV_set (by simpa using h4) v0 j
  by_cases hf : ip_fin a k2 = true
  · obtain ⟨i1, i2, i3⟩ := h5 hf
    have hf2 : (r0.2.1 k2).2.2.2 = true := by
      unfold ip_fin at hf
      rw [hq] at hf
      exact hf
    have hl2 := hlay
    unfold u_lay at hl2
    rw [if_pos hf2] at hl2
    have hcf : m.cls = cf := by
      obtain ⟨_, _, c', _, _, _, -, -, hf', -, -, -, hown2, -⟩ := Cond.laysFinal_spec hl2
      have e1 : c' = cf := by have := hi.symm.trans hf'; simp at this; exact this.1.symm
      have e0 : (r0.2.1 k2).1 = ip_os y := by
        rw [(ip_parse hq k2 h4).2]
        have e9 : ip_os y = ip_own.getD a "" := by unfold ip_os; rw [i2]
        rw [e9]
        exact ip_own_cl hq
      rw [e0] at hown2
      rw [← e1]; exact Option.some.inj (hown.symm.trans hown2)
    have h6 := u_fits hfc hkC hkind (Or.inr hl2) hi hdt hn hfit
    have hnm2 : meth.name = "<init>" := by
      rcases hnm with g | g
      · subst g; exact absurd i1 (by decide +kernel)
      · exact g.trans i1
    refine W.putFinK hx hb hown (ip_flink i3 hq hW args) hi hst hcf hnm2 (by rw [q2]; exact h6) q1 q3 hsz rfl rfl hd fun H' e1 e2 e3 => ?_
    exact kk H' _ (fin H' e1 e2 e3)
  · have hf2 : (r0.2.1 k2).2.2.2 = false := by
      unfold ip_fin at hf
      rw [hq] at hf
      simpa using hf
    have hl2 := hlay
    unfold u_lay at hl2
    rw [if_neg (by rw [hf2]; decide)] at hl2
    have h6 := u_store hfc hkC hkind hl2 hi hdt hn hfit
    rcases h2 with h2 | h2
    · refine W.putK hx hb (f := f) ⟨hown, ip_flink h2 hq hW args, ⟨_, _, _, hi⟩, hst⟩ (by rw [q2]; exact h6) q1 q3 hsz rfl rfl hd fun H' e1 e2 e3 => ?_
      exact kk H' _ (fin H' e1 e2 e3)
    · refine va_WputK hx hb (f := f) hown (ip_flinkN h2 hq hW args) hi hst (by rw [q2]; exact h6) q1 q3 hsz rfl rfl hd fun H' e1 e2 e3 => ?_
      exact kk H' _ (fin H' e1 e2 e3)

theorem ip_s_putfield {n : Nat} (C : ip_Cx D cA y p R s m meth c) (hok : ip_ok y pc ((.putfield n), nx, a, k2, t, w, v, ts) = true) (hs : ip_step y X ((.putfield n), nx, a, k2, t, w, v, ts) ls st M = some z) (hR : ip_Rl D cA base H0 s M H locs) (hl : lv_has arr (ip_ml y) (ip_pl b base ls)) (hlen : ls.length = ip_ml y)
    (kk : ip_go p l e R s m args below meth c cells slots Q D cA base b y H0 z) : W p l e R s m args below meth c H locs cells slots Q (F0 m pc arr (st.map (ip_rn b base))) := by
  obtain ⟨hx, hb, hml, hown, hW, hK, hA, hnm, hfr, hlo⟩ := C
  have C : ip_Cx D cA y p R s m meth c := ⟨hx, hb, hml, hown, hW, hK, hA, hnm, hfr, hlo⟩
  simp only [ip_ok, Bool.and_eq_true, decide_eq_true_eq, Bool.or_eq_true, Bool.not_eq_true'] at hok
  obtain ⟨h1, h2, h3, h4, h5⟩ := hok
  have h5 : ip_fin a k2 = true → (ip_nm y).name = "<init>" ∧ ip_oc y = a ∧ ip_F[w]? = some (ip_oc y, n, a, k2, false) := fun g => h5.resolve_left (by rw [g]; decide)
  obtain ⟨hd, rfl⟩ := ip_dc_spec h1
  simp only [ip_step] at hs
  split at hs
  · rename_i x k r
    split at hs
    · rename_i hg
      have hty : ip_fty a k2 = .int ∨ (ip_fty a k2 = .boolean ∧ (x = 0 ∨ x = 1)) := by
        rw [h3] at hg
        rcases hg.2.2 with g | ⟨g1, g2⟩
        · exact Or.inl (ip_kd0 g)
        · exact Or.inr ⟨ip_kd3 g1, g2⟩
      obtain ⟨q, hq, hk, he⟩ := ip_obj hg.1 hg.2.1 hR
      rw [hq] at h4
      have h4 : k2 < q.2.2 := by simpa using h4
      cases hs
      refine ip_put C hR hd hq hk he h4 h2 h5 (M1 := ip_uI M k k2 x) (v0 := .int x) ?_ ?_ rfl ip_en_uI ?_ (fun H1 locs1 hR1 => kk H1 locs1 arr hR1 hl hlen)
      · rcases hty with g | ⟨g, rfl | rfl⟩ <;> rw [g] <;> rfl
      · rcases hty with g | ⟨g, rfl | rfl⟩ <;> rw [g] <;> rfl
      · intro j hj
        unfold ip_fv
        by_cases hjk : j = k2
        · subst hjk
          have e1 : ¬ ip_kd (ip_fty a j) = 1 := by rcases hty with g | ⟨g, -⟩ <;> rw [g] <;> decide
          have e2 : ¬ ip_kd (ip_fty a j) = 2 := by rcases hty with g | ⟨g, -⟩ <;> rw [g] <;> decide
          rw [if_pos rfl, if_neg e1, if_neg e2]
          show Value.int (if k = k ∧ j = j then x else _) = _
          rw [if_pos ⟨rfl, rfl⟩]
        · rw [if_neg hjk]
          show (if _ then Value.long (M.2.2.1 k j) else if _ then va_rf (ip_rf base (M.2.2.2 k j)) else Value.int (if k = k ∧ j = k2 then x else M.2.1 k j)) = _
          rw [if_neg (fun g : k = k ∧ j = k2 => hjk g.2)]
    · cases hs
  · rename_i x k r
    split at hs
    · rename_i hg
      have hty : ip_fty a k2 = .long := ip_kd1 (by rw [← h3]; exact hg.2.2)
      obtain ⟨q, hq, hk, he⟩ := ip_obj hg.1 hg.2.1 hR
      rw [hq] at h4
      have h4 : k2 < q.2.2 := by simpa using h4
      cases hs
      refine ip_put C hR hd hq hk he h4 h2 h5 (M1 := ip_uL M k k2 x) (v0 := .long x) ?_ ?_ rfl ip_en_uL ?_ (fun H1 locs1 hR1 => kk H1 locs1 arr hR1 hl hlen)
      · rw [hty]; rfl
      · rw [hty]; rfl
      · intro j hj
        unfold ip_fv
        by_cases hjk : j = k2
        · subst hjk
          have e1 : ip_kd (ip_fty a j) = 1 := by rw [hty]; rfl
          rw [if_pos rfl, if_pos e1]
          show Value.long (if k = k ∧ j = j then x else _) = _
          rw [if_pos ⟨rfl, rfl⟩]
        · rw [if_neg hjk]
          show (if _ then Value.long (if k = k ∧ j = k2 then x else M.2.2.1 k j) else if _ then va_rf (ip_rf base (M.2.2.2 k j)) else Value.int (M.2.1 k j)) = _
          rw [if_neg (fun g : k = k ∧ j = k2 => hjk g.2)]
    · cases hs
  · rename_i x k r
    split at hs
    · rename_i hg
      have hty : narrow (ip_fty a k2) (.ref (base + x)) = .ref (base + x) ∧ fits (ip_fty a k2) (.ref (base + x)) = true := ip_kd2 (ip_kdc _ _ (by
        obtain ⟨q, hq, -⟩ := ip_obj hg.1 hg.2.1 hR
        rw [hq] at h4
        exact ⟨q, hq, by simpa using h4⟩)) (by rw [← h3]; exact hg.2.2)
      obtain ⟨q, hq, hk, he⟩ := ip_obj hg.1 hg.2.1 hR
      rw [hq] at h4
      have h4 : k2 < q.2.2 := by simpa using h4
      cases hs
      refine ip_put C hR hd hq hk he h4 h2 h5 (M1 := ip_uR M k k2 (some x)) (v0 := .ref (base + x)) hty.1 hty.2 rfl ip_en_uR ?_ (fun H1 locs1 hR1 => kk H1 locs1 arr hR1 hl hlen)
      · intro j hj
        unfold ip_fv
        by_cases hjk : j = k2
        · subst hjk
          have e1 : ip_kd (ip_fty a j) = 2 := by rw [← h3]; exact hg.2.2
          have e2 : ¬ ip_kd (ip_fty a j) = 1 := by rw [e1]; decide
          rw [if_pos rfl, if_neg e2, if_pos e1]
          show va_rf (ip_rf base (if k = k ∧ j = j then some x else _)) = _
          rw [if_pos ⟨rfl, rfl⟩]
          rfl
        · rw [if_neg hjk]
          show (if _ then Value.long (M.2.2.1 k j) else if _ then va_rf (ip_rf base (if k = k ∧ j = k2 then some x else M.2.2.2 k j)) else Value.int (M.2.1 k j)) = _
          rw [if_neg (fun g : k = k ∧ j = k2 => hjk g.2)]
    · cases hs
  · cases hs
end IPH2
