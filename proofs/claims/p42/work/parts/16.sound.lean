-- SOUNDNESS of the interpreter: what it answers, the machine answers
theorem ip_nw_len (M : ip_H) (q : Nat × Nat × Nat) : (ip_nw M q).1.length - M.1.length = 1 ∧ ip_size (ip_nw M q).1 - ip_size M.1 = q.2.2 := by
  have e1 : (ip_nw M q).1 = M.1 ++ [q] := rfl
  rw [e1, List.length_append]
  refine ⟨by simp, ?_⟩
  unfold ip_size
  rw [List.map_append, List.sum_append]
  simp
theorem ip_nw_le (M : ip_H) (q : Nat × Nat × Nat) : M.1.length ≤ (ip_nw M q).1.length ∧ ip_size M.1 ≤ ip_size (ip_nw M q).1 := by
  have e1 : (ip_nw M q).1 = M.1 ++ [q] := rfl
  rw [e1, List.length_append]
  refine ⟨by omega, ?_⟩
  unfold ip_size
  rw [List.map_append, List.sum_append]
  omega
def ip_isA : Instr → Bool
  | .new _ => true
  | .newarray _ => true
  | .anewarray _ => true
  | _ => false
theorem ip_step_sh {y : Nat} {X : ip_X} {i : Instr} {nx a k2 t w : Nat} {v : Value} {ts : List Nat} {ls st : List Value} {M : ip_H} {z : ip_Z} (hA : ip_isA i = false) (h : ip_step y X (i, nx, a, k2, t, w, v, ts) ls st M = some z) : z.2.2.2.1 = M.1 := by
  cases i <;> first
    | (cases hA; done)
    | (cases h; rfl)
    | (obtain ⟨x, q, r, rfl, hz⟩ := ip_i2_inv h; first | (cases hz; rfl) | (split at hz <;> first | (cases hz; rfl) | (cases hz; done)))
    | (obtain ⟨x, q, r, rfl, hz⟩ := ip_l2_inv h; first | (cases hz; rfl) | (split at hz <;> first | (cases hz; rfl) | (cases hz; done)))
    | (obtain ⟨x, q, r, rfl, hz⟩ := ip_li_inv h; cases hz; rfl)
    | (obtain ⟨x, r, rfl, hz⟩ := ip_i1_inv h; cases hz; rfl)
    | (obtain ⟨x, r, rfl, hz⟩ := ip_l1_inv h; cases hz; rfl)
    | (obtain ⟨x, r, rfl, hz⟩ := ip_r1_inv h; first | (cases hz; rfl) | (split at hz <;> first | (cases hz; rfl) | (cases hz; done)))
    | (simp only [ip_step] at h; repeat' (first | (cases h; rfl) | (cases h; done) | split at h))
theorem ip_step_le {y : Nat} {X : ip_X} {e : ip_E} {ls st : List Value} {M : ip_H} {z : ip_Z} (h : ip_step y X e ls st M = some z) : M.1.length ≤ z.2.2.2.1.length ∧ ip_size M.1 ≤ ip_size z.2.2.2.1 := by
  obtain ⟨i, nx, a, k2, t, w, v, ts⟩ := e
  by_cases hA : ip_isA i = true
  · cases i <;> first
      | (cases hA; done)
      | (cases h; exact ip_nw_le _ _)
      | (obtain ⟨x, r, rfl, hz⟩ := ip_i1_inv h; split at hz <;> first | (cases hz; exact ip_nw_le _ _) | (cases hz; done))
  · rw [ip_step_sh (by simpa using hA) h]
    exact ⟨Nat.le_refl _, Nat.le_refl _⟩
theorem ip_exec_le (X : ip_X) : ∀ (n y pc : Nat) (ls st : List Value) (M : ip_H) (z : Option Value × ip_H), ip_exec X n y pc ls st M = some z → M.1.length ≤ z.2.1.length ∧ ip_size M.1 ≤ ip_size z.2.1 := by
  intro n
  induction n with
  | zero => intro y pc ls st M z h; cases h
  | succ n ih =>
    intro y pc ls st M z h
    rw [ip_exec] at h
    split at h
    · cases h
    · rename_i e he
      split at h
      · split at h
        · split at h
          · cases h
          · rename_i r M1 hx
            have h1 := ih _ _ _ _ _ _ hx
            have h2 := ih _ _ _ _ _ _ h
            exact ⟨Nat.le_trans h1.1 h2.1, Nat.le_trans h1.2 h2.2⟩
        · cases h
      · split at h
        · cases h
          exact ⟨Nat.le_refl _, Nat.le_refl _⟩
        · split at h
          · cases h
          · rename_i w hw
            have h1 := ip_step_le hw
            have h2 := ih _ _ _ _ _ _ h
            exact ⟨Nat.le_trans h1.1 h2.1, Nat.le_trans h1.2 h2.2⟩
section IPD
variable {p : Program} {l : Launch} {e : Env} {R : Room} {s : State} {m : MethodId} {args : Array Value} {below : List Frame} {meth : Method} {c : Code} {H : Heap} {locs : List Loc} {cells slots : Nat} {Q : State → Prop}
variable {D : va_G} {cA : Nat → ClassId} {base b y pc : Nat} {X : ip_X} {H0 : Heap} {M : ip_H} {ls st : List Value} {arr : Array Slot} {z : ip_Z}
theorem ip_go_same (h : z.2.2.2.1 = M.1) (kk : ip_go p l e R s m args below meth c (cells + (z.2.2.2.1.length - M.1.length)) (slots + (ip_size z.2.2.2.1 - ip_size M.1)) Q D cA base b y H0 z) : ip_go p l e R s m args below meth c cells slots Q D cA base b y H0 z := by
  rw [h, Nat.sub_self, Nat.sub_self] at kk
  exact kk
theorem ip_stepW {en : ip_E} (C : ip_Cx D cA y p R s m meth c) (hok : ip_ok y pc en = true) (hic : ip_ic en = false) (hs : ip_step y X en ls st M = some z) (hR : ip_Rl D cA base H0 s M H locs) (hX : y = ip_LAW → va_X b X.1 X.2 s H0 ∧ b < H0.size ∧ ¬ base ≤ b) (hl : lv_has arr (ip_ml y) (ip_pl b base ls)) (hlen : ls.length = ip_ml y)
    (hcells : cells + (z.2.2.2.1.length - M.1.length) ≤ R.cells) (hslots : slots + (ip_size z.2.2.2.1 - ip_size M.1) ≤ R.slots)
    (kk : ip_go p l e R s m args below meth c (cells + (z.2.2.2.1.length - M.1.length)) (slots + (ip_size z.2.2.2.1 - ip_size M.1)) Q D cA base b y H0 z) : W p l e R s m args below meth c H locs cells slots Q (F0 m pc arr (st.map (ip_rn b base))) := by
  obtain ⟨i, nx, a, k2, t, w, v, ts⟩ := en
  by_cases hA : ip_isA i = true
  · cases i with
    | new n =>
      have hz : z.2.2.2 = ip_nw M (0, a, k2) := by cases hs; rfl
      have h1 := ip_nw_len M (0, a, k2)
      rw [hz, h1.1] at hcells
      rw [hz, h1.2] at hslots
      rw [hz, h1.1, h1.2] at kk
      exact ip_s_new C hok hs hR hcells hslots hl hlen kk
    | newarray n =>
      have hz : z.2.2.2 = ip_nw M (1, a, (ip_sh z.2.2.2 M.1.length).2.2) := by
        obtain ⟨x, r, rfl, hz⟩ := ip_i1_inv hs
        split at hz
        · cases hz
          dsimp only
          rw [ip_sh_nw]
        · cases hz
      have h1 := ip_nw_len M (1, a, (ip_sh z.2.2.2 M.1.length).2.2)
      rw [← hz] at h1
      rw [h1.1] at hcells
      rw [h1.2] at hslots
      rw [h1.1, h1.2] at kk
      exact ip_s_newarray C hok hs hR rfl hcells hslots hl hlen kk
    | anewarray n =>
      have hz : z.2.2.2 = ip_nw M (1, a, (ip_sh z.2.2.2 M.1.length).2.2) := by
        obtain ⟨x, r, rfl, hz⟩ := ip_i1_inv hs
        split at hz
        · cases hz
          dsimp only
          rw [ip_sh_nw]
        · cases hz
      have h1 := ip_nw_len M (1, a, (ip_sh z.2.2.2 M.1.length).2.2)
      rw [← hz] at h1
      rw [h1.1] at hcells
      rw [h1.2] at hslots
      rw [h1.1, h1.2] at kk
      exact ip_s_anewarray C hok hs hR rfl hcells hslots hl hlen kk
    | _ => cases hA
  · have k1 := ip_go_same (ip_step_sh (by simpa using hA) hs) kk
    cases i with
    | iconst n => exact ip_s_iconst C hok hs hR hl hlen k1
    | bipush n => exact ip_s_bipush C hok hs hR hl hlen k1
    | sipush n => exact ip_s_sipush C hok hs hR hl hlen k1
    | lconst n => exact ip_s_lconst C hok hs hR hl hlen k1
    | ldc n => exact ip_s_ldc C hok hs hR hl hlen k1
    | ldc_w n => exact ip_s_ldc_w C hok hs hR hl hlen k1
    | ldc2_w n => exact ip_s_ldc2_w C hok hs hR hl hlen k1
    | iload n => exact ip_s_iload C hok hs hR hl hlen k1
    | iload_n n => exact ip_s_iload_n C hok hs hR hl hlen k1
    | lload n => exact ip_s_lload C hok hs hR hl hlen k1
    | lload_n n => exact ip_s_lload_n C hok hs hR hl hlen k1
    | aload n => exact ip_s_aload C hok hs hR hl hlen k1
    | aload_n n => exact ip_s_aload_n C hok hs hR hl hlen k1
    | istore n => exact ip_s_istore C hok hs hR hl hlen k1
    | istore_n n => exact ip_s_istore_n C hok hs hR hl hlen k1
    | lstore n => exact ip_s_lstore C hok hs hR hl hlen k1
    | lstore_n n => exact ip_s_lstore_n C hok hs hR hl hlen k1
    | astore n => exact ip_s_astore C hok hs hR hl hlen k1
    | astore_n n => exact ip_s_astore_n C hok hs hR hl hlen k1
    | iinc n k => exact ip_s_iinc C hok hs hR hl hlen k1
    | iadd => exact ip_s_iadd C hok hs hR hl hlen k1
    | isub => exact ip_s_isub C hok hs hR hl hlen k1
    | imul => exact ip_s_imul C hok hs hR hl hlen k1
    | idiv => exact ip_s_idiv C hok hs hR hl hlen k1
    | irem => exact ip_s_irem C hok hs hR hl hlen k1
    | ineg => exact ip_s_ineg C hok hs hR hl hlen k1
    | iand => exact ip_s_iand C hok hs hR hl hlen k1
    | ior => exact ip_s_ior C hok hs hR hl hlen k1
    | ixor => exact ip_s_ixor C hok hs hR hl hlen k1
    | ishl => exact ip_s_ishl C hok hs hR hl hlen k1
    | ishr => exact ip_s_ishr C hok hs hR hl hlen k1
    | ladd => exact ip_s_ladd C hok hs hR hl hlen k1
    | lsub => exact ip_s_lsub C hok hs hR hl hlen k1
    | lmul => exact ip_s_lmul C hok hs hR hl hlen k1
    | ldiv => exact ip_s_ldiv C hok hs hR hl hlen k1
    | lrem => exact ip_s_lrem C hok hs hR hl hlen k1
    | lneg => exact ip_s_lneg C hok hs hR hl hlen k1
    | land => exact ip_s_land C hok hs hR hl hlen k1
    | lor => exact ip_s_lor C hok hs hR hl hlen k1
    | lxor => exact ip_s_lxor C hok hs hR hl hlen k1
    | lshl => exact ip_s_lshl C hok hs hR hl hlen k1
    | lshr => exact ip_s_lshr C hok hs hR hl hlen k1
    | lushr => exact ip_s_lushr C hok hs hR hl hlen k1
    | lcmp => exact ip_s_lcmp C hok hs hR hl hlen k1
    | i2l => exact ip_s_i2l C hok hs hR hl hlen k1
    | l2i => exact ip_s_l2i C hok hs hR hl hlen k1
    | i2b => exact ip_s_i2b C hok hs hR hl hlen k1
    | goto off => exact ip_s_goto C hok hs hR hl hlen k1
    | ifCond cd off => exact ip_s_ifCond C hok hs hR hl hlen k1
    | if_icmp cd off => exact ip_s_if_icmp C hok hs hR hl hlen k1
    | tableswitch d lo hi offs => exact ip_s_tableswitch C hok hs hR hl hlen k1
    | dup => exact ip_s_dup C hok hs hR hl hlen k1
    | dup2 => exact ip_s_dup2 C hok hs hR hl hlen k1
    | pop => exact ip_s_pop C hok hs hR hl hlen k1
    | pop2 => exact ip_s_pop2 C hok hs hR hl hlen k1
    | getfield n => exact ip_s_getfield C hok hs hR hl hlen k1
    | putfield n => exact ip_s_putfield C hok hs hR hl hlen k1
    | arraylength => exact ip_s_arraylength C hok hs hR hX hl hlen k1
    | iaload => exact ip_s_iaload C hok hs hR hX hl hlen k1
    | laload => exact ip_s_laload C hok hs hR hl hlen k1
    | baload => exact ip_s_baload C hok hs hR hl hlen k1
    | aaload => exact ip_s_aaload C hok hs hR hl hlen k1
    | iastore => exact ip_s_iastore C hok hs hR hl hlen k1
    | lastore => exact ip_s_lastore C hok hs hR hl hlen k1
    | bastore => exact ip_s_bastore C hok hs hR hl hlen k1
    | aastore => exact ip_s_aastore C hok hs hR hl hlen k1
    | invokespecial n => exact ip_s_objInit C hok hs hR hl hlen k1
    | invokestatic n => exact ip_s_copy C hok hs hR hl hlen k1
    | _ => first | exact absurd rfl hA | (cases hs; done)
end IPD
theorem ip_pad_len (b base : Nat) (vs : List Value) : (lg_sl (vs.map (ip_rn b base))).length = (ip_pad vs).length := by
  induction vs with
  | nil => rfl
  | cons v vs ih =>
    have e1 : lg_sl ((v :: vs).map (ip_rn b base)) = (if (ip_rn b base v).category = 2 then [Slot.val (ip_rn b base v), .second] else [Slot.val (ip_rn b base v)]) ++ lg_sl (vs.map (ip_rn b base)) := rfl
    have e2 : ip_pad (v :: vs) = (if v.category = 2 then [v, .retAddr 1] else [v]) ++ ip_pad vs := rfl
    rw [e1, e2, List.length_append, List.length_append, ih, ip_rn_cat]
    split <;> rfl
theorem ip_pad_get (b base : Nat) : ∀ (vs : List Value) (off j : Nat), ip_get (ip_pad vs) j ≠ .retAddr 1 → (off + j, ip_rn b base (ip_get (ip_pad vs) j)) ∈ lv_args off (vs.map (ip_rn b base)) := by
  intro vs
  induction vs with
  | nil => intro off j h; exact absurd rfl h
  | cons v vs ih =>
    intro off j h
    have e2 : ip_pad (v :: vs) = (if v.category = 2 then [v, .retAddr 1] else [v]) ++ ip_pad vs := rfl
    have e3 : lv_args off ((v :: vs).map (ip_rn b base)) = (off, ip_rn b base v) :: lv_args (if (ip_rn b base v).category = 2 then off + 2 else off + 1) (vs.map (ip_rn b base)) := rfl
    rw [e2] at h ⊢
    rw [e3, ip_rn_cat]
    by_cases hc : v.category = 2
    · rw [if_pos hc] at h ⊢
      rw [if_pos hc]
      match j, h with
      | 0, h => exact List.mem_cons_self
      | 1, h => exact absurd rfl h
      | j + 2, h =>
        have e4 : ip_get ([v, .retAddr 1] ++ ip_pad vs) (j + 2) = ip_get (ip_pad vs) j := rfl
        rw [e4] at h ⊢
        have := ih (off + 2) j h
        rw [show off + 2 + j = off + (j + 2) by omega] at this
        exact List.mem_cons_of_mem _ this
    · rw [if_neg hc] at h ⊢
      rw [if_neg hc]
      match j, h with
      | 0, h => exact List.mem_cons_self
      | j + 1, h =>
        have e4 : ip_get ([v] ++ ip_pad vs) (j + 1) = ip_get (ip_pad vs) j := rfl
        rw [e4] at h ⊢
        have := ih (off + 1) j h
        rw [show off + 1 + j = off + (j + 1) by omega] at this
        exact List.mem_cons_of_mem _ this
theorem ip_ent_get (n : Nat) (vs : List Value) (j : Nat) (h : ip_get (ip_ent n vs) j ≠ .retAddr 1) : ip_get (ip_ent n vs) j = ip_get (ip_pad vs) j := by
  unfold ip_ent ip_get at h ⊢
  rw [List.getD_eq_getElem?_getD] at h ⊢
  rw [List.getD_eq_getElem?_getD]
  by_cases hj : j < (ip_pad vs).length
  · rw [List.getElem?_append_left hj]
  · rw [List.getElem?_append_right (by omega)] at h ⊢
    exfalso
    apply h
    cases hr : (List.replicate (n - (ip_pad vs).length) (Value.retAddr 1))[j - (ip_pad vs).length]? with
    | none => rfl
    | some q => rw [List.eq_of_mem_replicate (List.mem_of_getElem? hr)]; rfl
theorem ip_ent_len {n : Nat} {vs : List Value} (h : (ip_pad vs).length ≤ n) : (ip_ent n vs).length = n := by
  unfold ip_ent
  rw [List.length_append, List.length_replicate]
  omega
/-- what a method finds, and what it leaves -/
def ip_B (D : va_G) (cA : Nat → ClassId) (base : Nat) (M : ip_H) (U : State) : Prop := va_P D ip_cl (ip_ws base cA M) U.heap ∧ U.heap.size = base + M.1.length ∧ ip_wf M ∧ ip_KA cA M U ∧ ip_W U ∧ va_K D ip_cl [] U ∧ ip_A cA U
def ip_Qc (D : va_G) (cA : Nat → ClassId) (b base : Nat) (r : Option Value) (M1 : ip_H) : Array Value → State → Outcome → State → Prop := fun _ st oc t => oc = .returned (r.map (ip_rn b base)) ∧ va_P D ip_cl (ip_ws base cA M1) t.heap ∧ t.heap.size = base + M1.1.length ∧ ip_wf M1 ∧ ip_KA cA M1 t ∧ va_F (fun q => base ≤ q) st t
theorem ip_KA.moved {cA : Nat → ClassId} {M : ip_H} {u U : State} (hvm : u.vm.Alike U.vm) (h : ip_KA cA M u) : ip_KA cA M U := fun k x n hk => ⟨arrOfT_moved hvm (h k x n hk).1, (h k x n hk).2.moved hvm⟩
theorem ip_A.moved {cA : Nat → ClassId} {u U : State} (hvm : u.vm.Alike U.vm) (h : ip_A cA u) : ip_A cA U := fun x k hk => h x k (by rw [← hvm.findClass]; exact hk)
def ip_rm (c : Nat) (M M1 : ip_H) : Room := { frames := ip_fr c, cells := M1.1.length - M.1.length, slots := ip_size M1.1 - ip_size M.1, locals := ip_lw c }
def ip_wd (c : Nat) : List Cond := [Cond.code (ip_nm c) (ip_by c) (ip_ml c) (ip_rt c)]
def ip_Pr (l : Launch) (X : ip_X) (D : va_G) (cA : Nat → ClassId) (base b : Nat) (n : Nat) : Prop :=
  ∀ (y pc : Nat) (ls st : List Value) (M : ip_H) (r : Option Value) (Mf : ip_H), ip_exec X n y pc ls st M = some (r, Mf) →
  ∀ (p : Program) (e : Env) (R : Room) (s : State) (m : MethodId) (args : Array Value) (below : List Frame) (meth : Method) (c : Code) (H : Heap) (locs : List Loc) (cells slots : Nat) (Q : State → Prop) (H0 : Heap) (arr : Array Slot),
  ip_Cx D cA y p R s m meth c → cells + (Mf.1.length - M.1.length) ≤ R.cells → slots + (ip_size Mf.1 - ip_size M.1) ≤ R.slots → ip_Rl D cA base H0 s M H locs → (y = ip_LAW → va_X b X.1 X.2 s H0 ∧ b < H0.size ∧ ¬ base ≤ b) →
  lv_has arr (ip_ml y) (ip_pl b base ls) → ls.length = ip_ml y →
  (∀ (H' : Heap) (locs' : List Loc) (pc' : Nat) (arr' : Array Slot) (en : ip_E) (st0 : List Value), ip_Rl D cA base H0 s Mf H' locs' → ip_at y pc' = some en → ip_rv en st0 = some r → W p l e R s m args below meth c H' locs' (cells + (Mf.1.length - M.1.length)) (slots + (ip_size Mf.1 - ip_size M.1)) Q (F0 m pc' arr' (st0.map (ip_rn b base)))) →
  W p l e R s m args below meth c H locs cells slots Q (F0 m pc arr (st.map (ip_rn b base)))
theorem ip_MetofW {l : Launch} {y : MethodName} {ws ws' : List Cond} {rm : Room} {Pc : Array Value → State → Prop} {Qc : Array Value → State → Outcome → State → Prop} {mc ms : Nat} {free : Addr → Prop} {cc : ByteArray} {maxL : Nat} {ret : Option FieldType}
    (hy : plainFor y = true) (hw : ws = Cond.code y cc maxL ret :: ws')
    (body : ∀ p e s m args below meth c s₁, BodyLoose p l y (headSpec ws rm) cc maxL ret e s m args below meth c s₁ → c.maxLocals = maxL → Pc args s →
      W p l e (headSpec ws rm).room s m args below meth c s.heap [] 0 0 (MQ below Qc args s mc ms free) (entryFrame m args maxL)) : Met l y ws rm Pc Qc mc ms free := by
  refine MetFree.of_bodySF (code := cc) (maxLocals := maxL) (ret := ret) hy ?_ ?_
  · intro args s m h hn
    obtain ⟨meth, c, h1, h2, h3, h4, h5, h6, -, -⟩ := Cond.code_spec hn (atoms_spec (ws := ws) h _ (by rw [hw]; exact List.mem_cons_self))
    exact ⟨meth, c, h1, h2, h3, h4, h5, h6⟩
  · intro p e s m args below meth c s₁ B hml hP _
    have hh0 : s₁.heap = s.heap := by rw [B.state]; rfl
    obtain ⟨t, a1, o, b1, b2, b3⟩ := body p e s m args below meth c s₁ B hml hP s₁ hh0 (Stand.of_body B)
    exact ⟨t, o, a1, b1, b2, ⟨b3.1, b3.2⟩⟩
theorem ip_met {l : Launch} {X : ip_X} {D : va_G} {cA : Nat → ClassId} {base b n c : Nat} (IH : ip_Pr l X D cA base b n) (hc : c < 295) {vs : List Value} {M M1 : ip_H} {r : Option Value} (hx : ip_exec X n c 0 (ip_ent (ip_ml c) vs) [] M = some (r, M1)) (hfit : (ip_pad vs).length ≤ ip_ml c) :
    Met l (ip_nm c) (ip_wd c) (ip_rm c M M1) (va_Pc (vs.map (ip_rn b base)) (ip_B D cA base M)) (ip_Qc D cA b base r M1) (M1.1.length - M.1.length) (ip_size M1.1 - ip_size M.1) (fun q => base ≤ q) := by
  obtain ⟨w1, w2, w3, w4, w5⟩ := ip_M_ok c hc
  refine ip_MetofW w4 rfl ?_
  intro p e s m args below meth c0 s₁ B hml hv
  obtain ⟨rfl, hP, hsz, hwf, hKA, hW, hK, hA⟩ := hv
  have hN : c ≠ ip_LAW := by unfold ip_LAW; omega
  have C : ip_Cx D cA c p (headSpec (ip_wd c) (ip_rm c M M1)).room s m meth c0 := ⟨B.exec, B.bytes, hml, by rw [w5]; exact findClass_of_methodNamed B.named, hW, hK, hA, Or.inr (name_of_methodNamed B.named B.method).1, Nat.le_refl _, Nat.le_refl _⟩
  have hl := lv_entry (vs.map (ip_rn b base)) (n := ip_ml c) (by rw [ip_pad_len]; exact hfit)
  rw [lg_entry_eq]
  generalize (lg_sl (vs.map (ip_rn b base)) ++ List.replicate (ip_ml c - (lg_sl (vs.map (ip_rn b base))).length) Slot.unset).toArray = arr at hl ⊢
  have hl2 : lv_has arr (ip_ml c) (ip_pl b base (ip_ent (ip_ml c) vs)) := ⟨hl.1, hl.2.1, fun q hq => hl.2.2 q (by
    obtain ⟨h1, h2, h3⟩ := ip_pl_mem.mp hq
    have g := ip_ent_get _ _ _ h2
    have g2 := ip_pad_get b base vs 0 q.1 (by rw [← g]; exact h2)
    rw [← g, Nat.zero_add, ← h3] at g2
    exact g2)⟩
  have hR : ip_Rl D cA base s.heap s M s.heap [] := ⟨hP, hsz, va_S.rf, hwf, hKA⟩
  refine IH c 0 _ [] M r M1 hx p e _ s m _ below meth c0 s.heap [] 0 0 _ s.heap arr C (by rw [Nat.zero_add]; exact Nat.le_refl _) (by rw [Nat.zero_add]; exact Nat.le_refl _) hR (fun h => absurd h hN) hl2 (ip_ent_len hfit) ?_
  intro H' locs' pc' arr' en st0 hR' hat hrv
  obtain ⟨-, hok⟩ := ip_at_ok hat
  have hq : ∀ t : State, t.heap = H' → s.WarmedH t.vm → ip_Qc D cA b base r M1 ((vs.map (ip_rn b base)).toArray) s (.returned (r.map (ip_rn b base))) t := fun t ht hWm => ⟨rfl, by rw [ht]; exact hR'.1, by rw [ht]; exact hR'.2.1, hR'.2.2.2.1, hR'.2.2.2.2.moved hWm.alike, hR'.2.2.1.F ht⟩
  have hf : ∀ q ∈ locs', base ≤ q.base := hR'.2.2.1.2.2
  have hlk := B.notSynchronized
  rw [Nat.zero_add, Nat.zero_add]
  obtain ⟨i, nx, a, k2, t, w, v, ts⟩ := en
  unfold ip_rv at hrv
  dsimp only at hrv
  split at hrv
  · rename_i x
    split at hrv
    · rename_i hcond
      cases hrv
      simp only [ip_ok, Bool.and_eq_true, decide_eq_true_eq] at hok
      obtain ⟨h1, h2⟩ := hok
      obtain ⟨hd, -⟩ := ip_dc_spec h1
      rcases h2 with ⟨h3, h4⟩ | ⟨h3, h4⟩
      · exact W.zret B.exec B.bytes (B.returns.trans h4) rfl hq hf hd (hlocks := hlk)
      · have hn : narrow .boolean (.int x) = .int x := by
          rcases hcond with g | rfl | rfl
          · omega
          · rfl
          · rfl
        exact W.zret B.exec B.bytes (B.returns.trans h4) hn hq hf hd (hlocks := hlk)
    · cases hrv
  · cases hrv
    simp only [ip_ok, Bool.and_eq_true, decide_eq_true_eq] at hok
    obtain ⟨h1, h2⟩ := hok
    obtain ⟨hd, -⟩ := ip_dc_spec h1
    exact W.lret B.exec B.bytes (B.returns.trans h2) hq hf hd (hlocks := hlk)
  · cases hrv
    simp only [ip_ok, Bool.and_eq_true] at hok
    obtain ⟨h1, h2⟩ := hok
    obtain ⟨hd, -⟩ := ip_dc_spec h1
    cases hrt : ip_rt c with
    | none => rw [hrt] at h2; cases h2
    | some rt =>
      rw [hrt] at h2
      cases rt with
      | object nn => exact W.aret B.exec B.bytes (B.returns.trans hrt) (Or.inl ⟨nn, rfl⟩) (Or.inr ⟨_, rfl⟩) hq hf hd (hlocks := hlk)
      | _ => cases h2
  · cases hrv
    simp only [ip_ok, Bool.and_eq_true, decide_eq_true_eq] at hok
    obtain ⟨h1, h2⟩ := hok
    obtain ⟨hd, -⟩ := ip_dc_spec h1
    exact W.vret B.exec B.bytes (B.returns.trans h2) hq hf hd (hlocks := hlk)
  · cases hrv
theorem ip_blind {D : va_G} {cA : Nat → ClassId} {base : Nat} {M : ip_H} {av : List Value} : FrameBlind (va_Pc av (ip_B D cA base M)) := by
  intro a U g mk q
  obtain ⟨q0, q1, q2, q3, q4, q5, q6, q7⟩ := q
  exact ⟨q0, q1, q2, q3, ip_KA.moved (u := U) (U := U.calling g mk a) (Vm.Alike.refl U.vm) q4, ip_W.frame (s := U) (U := U.calling g mk a) q5 rfl, va_K.moved (u := U) (U := U.calling g mk a) (Vm.Alike.refl U.vm) q6, ip_A.moved (u := U) (U := U.calling g mk a) (Vm.Alike.refl U.vm) q7⟩
set_option maxRecDepth 100000 in
theorem ip_Kl : (ip_K.all fun r => decide (r.2.2.1 < 295)) = true := by decide +kernel
theorem ip_K_lt {r : Nat × Nat × Nat × Nat} (h : r ∈ ip_K) : r.2.2.1 < 295 := by simpa using List.all_eq_true.mp ip_Kl r h
section IPC
variable {p : Program} {l : Launch} {e : Env} {R : Room} {s : State} {m : MethodId} {args : Array Value} {below : List Frame} {meth : Method} {c0 : Code} {H : Heap} {locs : List Loc} {cells slots : Nat} {Q : State → Prop}
variable {D : va_G} {cA : Nat → ClassId} {base b y pc : Nat} {X : ip_X} {H0 : Heap} {M M1 : ip_H} {ls st : List Value} {arr : Array Slot} {r : Option Value} {rest : List Value} {a : Array Value} {st0 : List Value}
theorem ip_after {mc ms : Nat} (hR : ip_Rl D cA base H0 s M H locs) (hr : va_Run p l e R s m args below meth c0 H locs cells slots mc ms (F0 m pc arr st0) rest (ip_Qc D cA b base r M1 a) (fun q => base ≤ q))
    (kk : ∀ (H1 : Heap) (locs1 : List Loc), ip_Rl D cA base H0 s M1 H1 locs1 → W p l e R s m args below meth c0 H1 locs1 (cells + mc) (slots + ms) Q (F0 m (pc + 3) arr ((r.map (ip_rn b base)).toList ++ rest))) : W p l e R s m args below meth c0 H locs cells slots Q (F0 m pc arr st0) := by
  intro T hT X
  obtain ⟨v, st₀, t, T', L, h0, X', hL, e1, e2, ⟨hv, hP, hsz, hwf, hKA, hz, hk⟩, st⟩ := hr T hT X
  have hv : v = r.map (ip_rn b base) := Outcome.returned.inj hv
  subst hv
  rw [h0] at hz hk
  have hal : t.vm.Alike s.vm := by rw [← e2]; exact X'.warmed.alike.symm
  have hS := hR.2.2.1
  obtain ⟨t2, a1, b1⟩ := kk T'.heap (locs ++ L) ⟨by rw [e1]; exact hP, by rw [e1]; exact hsz, ⟨Nat.le_trans hS.1 (by rw [e1]; exact hz), fun q h1 h2 => by rw [e1, hk q (Nat.lt_of_lt_of_le h1 hS.1) h2]; exact hS.2.1 q h1 h2, fun q hq => by
      rcases List.mem_append.mp hq with h | h
      · exact hS.2.2 q h
      · exact hL q h⟩, hwf, hKA.moved hal⟩ T' rfl X'
  exact ⟨t2, st t2 a1, b1⟩
theorem ip_nargs {c k : Nat} (h : (parseMethodDescriptor (ip_nm c).desc).map (fun d => d.parameters.length) = some k) : ∀ sig, parseMethodDescriptor (ip_nm c).desc = some sig → k = sig.parameters.length := by
  intro sig hs
  rw [hs] at h
  exact (Option.some.inj h).symm
theorem ip_nargs1 {c k : Nat} (h : (parseMethodDescriptor (ip_nm c).desc).map (fun d => d.parameters.length + 1) = some (k + 1)) : ∀ sig, parseMethodDescriptor (ip_nm c).desc = some sig → k = sig.parameters.length := by
  intro sig hs
  rw [hs] at h
  have h2 : sig.parameters.length + 1 = k + 1 := Option.some.inj h
  omega
theorem ip_cw_rn (l : List Value) (b base : Nat) : ((l.map (ip_rn b base)).map fun v => v.category).sum = ip_cw l := by
  induction l with
  | nil => rfl
  | cons v l ih =>
    unfold ip_cw at *
    simp only [List.map_cons, List.sum_cons, ip_rn_cat, ih]
theorem ip_callW {n : Nat} {en : ip_E} (IH : ip_Pr l X D cA base b n) (C : ip_Cx D cA y p R s m meth c0) (hok : ip_ok y pc en = true) (hic : ip_ic en = true) (hk : en.2.2.2.1 ≤ st.length) (h4 : ip_cw (st.drop en.2.2.2.1) ≤ 8) (hrc : ip_rc en (st.take en.2.2.2.1).reverse M = true)
    (hx : ip_exec X n en.2.2.1 0 (ip_ent (ip_ml en.2.2.1) (st.take en.2.2.2.1).reverse) [] M = some (r, M1)) (hR : ip_Rl D cA base H0 s M H locs) (hl : lv_has arr (ip_ml y) (ip_pl b base ls))
    (hcells : cells + (M1.1.length - M.1.length) ≤ R.cells) (hslots : slots + (ip_size M1.1 - ip_size M.1) ≤ R.slots)
    (kk : ∀ (H1 : Heap) (locs1 : List Loc), ip_Rl D cA base H0 s M1 H1 locs1 → W p l e R s m args below meth c0 H1 locs1 (cells + (M1.1.length - M.1.length)) (slots + (ip_size M1.1 - ip_size M.1)) Q (F0 m en.2.1 arr ((r.toList ++ st.drop en.2.2.2.1).map (ip_rn b base)))) : W p l e R s m args below meth c0 H locs cells slots Q (F0 m pc arr (st.map (ip_rn b base))) := by
  obtain ⟨hex, hb, hml, hown, hW, hK, hA, hnm, hfr, hlo⟩ := C
  obtain ⟨i, nx, c, k, t, w, v, ts⟩ := en
  dsimp only at hk h4 hrc hx kk
  unfold ip_rc at hrc
  rw [Bool.and_eq_true, decide_eq_true_eq] at hrc
  obtain ⟨hfit, hrc⟩ := hrc
  dsimp only at hfit hrc
  have hB : ∀ U : State, U.heap = H → s.WarmedH U.vm → ip_B D cA base M U := fun U hU hWm => ⟨by rw [hU]; exact hR.1, by rw [hU]; exact hR.2.1, hR.2.2.2.1, hR.2.2.2.2.moved hWm.alike, hW.warm hWm, va_K.moved hWm.alike hK, hA.moved hWm.alike⟩
  have hcat : 2 * (F0 m pc arr (st.map (ip_rn b base))).monitorRoom + (((st.drop k).map (ip_rn b base)).map fun v => v.category).sum ≤ 8 := lv_room (by rw [ip_cw_rn]; exact h4)
  have hstk : st.map (ip_rn b base) = (((st.take k).reverse.map (ip_rn b base)).reverse) ++ (st.drop k).map (ip_rn b base) := by
    rw [← List.map_reverse, List.reverse_reverse, ← List.map_append, List.take_append_drop]
  have hrl : ∀ o : Option Value, (o.map (ip_rn b base)).toList ++ (st.drop k).map (ip_rn b base) = (o.toList ++ st.drop k).map (ip_rn b base) := fun o => by cases o <;> simp
  have key : ∀ (hc : c < 295) (hfr1 : ip_fr c + 1 ≤ ip_fr y) (hlo1 : 8 + (ip_ml c + 11) + ip_lw c ≤ ip_lw y), (ip_rm c M M1).cells = M1.1.length - M.1.length ∧ (ip_rm c M M1).slots = ip_size M1.1 - ip_size M.1 ∧ (ip_rm c M M1).frames + 1 ≤ R.frames ∧ 8 + (ip_ml c + 11) + (ip_rm c M M1).locals ≤ R.locals ∧ (∀ w ∈ ip_wd c, ∀ (a' : Array Value) (U : State), s.WarmedH U.vm → w.before a' U = true) ∧ Cond.code (ip_nm c) (ip_by c) (ip_ml c) (ip_rt c) ∈ ip_wd c := by
    intro hc hfr1 hlo1
    obtain ⟨w1, -⟩ := ip_M_ok c hc
    refine ⟨rfl, rfl, Nat.le_trans hfr1 hfr, Nat.le_trans hlo1 hlo, fun w hw a' U hWm => ?_, List.mem_cons_self⟩
    rw [List.mem_singleton.mp hw]
    exact word_at hWm (Or.inl rfl) (hW.use w1 rfl args)
  cases i with
  | invokestatic n2 =>
    simp only [ip_ok, Bool.and_eq_true] at hok
    obtain ⟨h1, h2⟩ := hok
    obtain ⟨hd, rfl⟩ := ip_dc_spec h1
    have ht6 : t < 6 := by simpa [ip_ic] using hic
    rw [if_neg (by omega)] at h2
    simp only [Bool.and_eq_true, decide_eq_true_eq] at h2
    obtain ⟨g1, g2, g3, g4, g5⟩ := h2
    have hc := ip_K_lt (List.mem_of_getElem? g2)
    obtain ⟨w1, w2, w3, w4, w5⟩ := ip_M_ok c hc
    obtain ⟨⟨k1, k2, k3⟩, k4, k5, k6⟩ := ip_K_ok _ (List.mem_of_getElem? g2)
    have hM := ip_met IH hc hx hfit
    have hst : (Cond.static (ip_nm c)).before args s = true := by
      have e0 : ip_KS (ip_oc y, n2, c, t) = Cond.static (ip_nm c) := by unfold ip_KS; rw [if_pos g1]
      rw [e0] at k2 k5
      exact hW.use k2 k5 args
    have hlen2 : ((st.take k).reverse.map (ip_rn b base)).length = k := by simp; omega
    have hPS : PreS s H (va_Pc ((st.take k).reverse.map (ip_rn b base)) (ip_B D cA base M)) ((st.take k).reverse.map (ip_rn b base)) := ⟨ip_blind, fun U hU hWm => ⟨rfl, hB U hU hWm⟩⟩
    obtain ⟨q1, q2, q3, q4, q5, q6⟩ := key hc g4 g5
    rcases g1 with rfl | rfl
    · have hln : (Cond.methodLink (ip_os y) n2 (ip_nm c)).before args s = true := hW.use k1 k4 args
      refine ip_after (a := ((st.take k).reverse.map (ip_rn b base)).toArray) hR (va_runS (l := l) (own := ip_os y) (Ts := []) (n := k) ⟨hex, hb, hml, hown, fun _ h => by cases h⟩ hM ⟨⟨q1, q2, q3, q4, q5, q6, hW.use w1 rfl args, hW.use w2 rfl args, w3, ip_nargs g3, hln⟩, hst⟩ hPS rfl hlen2 hl.1 hstk hcat hd ⟨hcells, hslots⟩) (fun H1 locs1 hR1 => ?_)
      rw [hrl]
      exact kk H1 locs1 hR1
    · have hln : (Cond.methodLinkNest (ip_os y) n2 (ip_nm c) RX10).before args s = true := hW.use k1 k4 args
      refine ip_after (a := ((st.take k).reverse.map (ip_rn b base)).toArray) hR (va_runSN (l := l) (own := ip_os y) (Ts := []) (n := k) ⟨hex, hb, hml, hown, fun _ h => by cases h⟩ hM ⟨⟨⟨q1, q2, q3, q4, q5, q6⟩, hW.use w1 rfl args, hW.use w2 rfl args, w3, ip_nargs g3, hln⟩, hst, trivial⟩ hPS rfl hlen2 hl.1 hstk hcat hd ⟨hcells, hslots⟩) (fun H1 locs1 hR1 => ?_)
      rw [hrl]
      exact kk H1 locs1 hR1
  | invokevirtual n2 =>
    simp only [ip_ok, Bool.and_eq_true, decide_eq_true_eq] at hok
    obtain ⟨h1, g1, g2, g3, g4, g5⟩ := hok
    obtain ⟨hd, rfl⟩ := ip_dc_spec h1
    have hc := ip_K_lt (List.mem_of_getElem? g2)
    obtain ⟨w1, w2, w3, w4, w5⟩ := ip_M_ok c hc
    obtain ⟨⟨k1, k2, k3⟩, k4, k5, k6⟩ := ip_K_ok _ (List.mem_of_getElem? g2)
    have hM := ip_met IH hc hx hfit
    obtain ⟨q1, q2, q3, q4, q5, q6⟩ := key hc g4 g5
    obtain ⟨a0, As, hargs⟩ : ∃ a0 As, (st.take k).reverse = .ref a0 :: As := by
      cases hA0 : (st.take k).reverse with
      | nil => rw [hA0] at hrc; rcases g1 with rfl | rfl <;> cases hrc
      | cons v0 As => cases v0 with
        | ref a0 => exact ⟨a0, As, rfl⟩
        | _ => rw [hA0] at hrc; rcases g1 with rfl | rfl <;> cases hrc
    rw [hargs] at hM hstk hrc
    have hobj : (ip_sh M a0).1 = 0 ∧ (ip_sh M a0).2.1 = ip_oc c := by
      rcases g1 with rfl | rfl <;> simpa using hrc
    obtain ⟨q, hq, hk0, he0⟩ := ip_obj hobj.1 hobj.2 hR
    have hrecv := va_recv hK hR.1 hq he0
    have hqn : q.1 = (ip_nm c).cls := by rw [ip_own_cl hq]; exact w5
    rw [hqn] at hrecv
    have hkl : (st.take k).length = k := by simp; omega
    have hlen2 : (As.map (ip_rn b base)).length + 1 = k := by
      have := congrArg List.length hargs
      simp only [List.length_reverse, hkl, List.length_cons] at this
      rw [List.length_map]; omega
    have hstk2 : st.map (ip_rn b base) = (As.map (ip_rn b base)).reverse ++ .ref (base + a0) :: (st.drop k).map (ip_rn b base) := by
      rw [hstk]; simp [ip_rn]
    have hin : (Cond.instanceMethod (ip_nm c)).before args s = true := by
      have e0 : ip_KS (ip_oc y, n2, c, t) = Cond.instanceMethod (ip_nm c) := by unfold ip_KS; rw [if_neg (by dsimp only; omega)]
      rw [e0] at k2 k5
      exact hW.use k2 k5 args
    have hse : (Cond.selects (ip_nm c).cls (ip_nm c) (ip_nm c)).before args s = true := by
      have e0 : ip_KV (ip_oc y, n2, c, t) = Cond.selects (ip_nm c).cls (ip_nm c) (ip_nm c) := by unfold ip_KV; rw [if_pos g1]
      rw [e0] at k3 k6
      exact hW.use k3 k6 args
    have hPV : PreV s H (ip_nm c).cls (base + a0) (va_Pc ((Value.ref a0 :: As).map (ip_rn b base)) (ip_B D cA base M)) (As.map (ip_rn b base)) := ⟨ip_blind, hrecv, fun U hU hWm => ⟨rfl, hB U hU hWm⟩⟩
    have g3 : (parseMethodDescriptor (ip_nm c).desc).map (fun d => d.parameters.length + 1) = some ((As.map (ip_rn b base)).length + 1) := by rw [hlen2]; exact g3
    rcases g1 with rfl | rfl
    · have hln : (Cond.methodLink (ip_os y) n2 (ip_nm c)).before args s = true := hW.use k1 k4 args
      refine ip_after (a := (Value.ref (base + a0) :: As.map (ip_rn b base)).toArray) hR (va_runV (l := l) (own := ip_os y) (Ts := []) (n := (As.map (ip_rn b base)).length) ⟨hex, hb, hml, hown, fun _ h => by cases h⟩ hM ⟨⟨q1, q2, q3, q4, q5, q6, hW.use w1 rfl args, hW.use w2 rfl args, w3, ip_nargs1 g3, hln⟩, hin, hse⟩ hPV rfl rfl hl.1 hstk2 hcat hd ⟨hcells, hslots⟩) (fun H1 locs1 hR1 => ?_)
      rw [hrl]
      exact kk H1 locs1 hR1
    · have hln : (Cond.methodLinkNest (ip_os y) n2 (ip_nm c) RX10).before args s = true := hW.use k1 k4 args
      refine ip_after (a := (Value.ref (base + a0) :: As.map (ip_rn b base)).toArray) hR (va_runVN (l := l) (own := ip_os y) (Ts := []) (n := (As.map (ip_rn b base)).length) ⟨hex, hb, hml, hown, fun _ h => by cases h⟩ hM ⟨⟨⟨q1, q2, q3, q4, q5, q6⟩, hW.use w1 rfl args, hW.use w2 rfl args, w3, ip_nargs1 g3, hln⟩, hin, hse⟩ hPV rfl rfl hl.1 hstk2 hcat hd ⟨hcells, hslots⟩) (fun H1 locs1 hR1 => ?_)
      rw [hrl]
      exact kk H1 locs1 hR1
  | invokespecial n2 =>
    simp only [ip_ok, Bool.and_eq_true] at hok
    obtain ⟨h1, h2⟩ := hok
    obtain ⟨hd, rfl⟩ := ip_dc_spec h1
    have ht6 : t < 6 := by simpa [ip_ic] using hic
    rw [if_neg (by omega)] at h2
    simp only [Bool.and_eq_true, decide_eq_true_eq] at h2
    obtain ⟨g1, g2, g3, g4, g5, g6, g7⟩ := h2
    have hc := ip_K_lt (List.mem_of_getElem? g2)
    obtain ⟨w1, w2, w3, w4, w5⟩ := ip_M_ok c hc
    obtain ⟨⟨k1, k2, k3⟩, k4, k5, k6⟩ := ip_K_ok _ (List.mem_of_getElem? g2)
    have hM := ip_met IH hc hx hfit
    obtain ⟨q1, q2, q3, q4, q5, q6⟩ := key hc g4 g5
    obtain ⟨a0, As, hargs⟩ : ∃ a0 As, (st.take k).reverse = .ref a0 :: As := by
      cases hA0 : (st.take k).reverse with
      | nil => rw [hA0] at hrc; rcases g1 with rfl | rfl <;> cases hrc
      | cons v0 As => cases v0 with
        | ref a0 => exact ⟨a0, As, rfl⟩
        | _ => rw [hA0] at hrc; rcases g1 with rfl | rfl <;> cases hrc
    rw [hargs] at hM hstk hrc
    have hkl : (st.take k).length = k := by simp; omega
    have hlen2 : (As.map (ip_rn b base)).length + 1 = k := by
      have := congrArg List.length hargs
      simp only [List.length_reverse, hkl, List.length_cons] at this
      rw [List.length_map]; omega
    have hstk2 : st.map (ip_rn b base) = (As.map (ip_rn b base)).reverse ++ .ref (base + a0) :: (st.drop k).map (ip_rn b base) := by
      rw [hstk]; simp [ip_rn]
    have hin : (Cond.instanceMethod (ip_nm c)).before args s = true := by
      have e0 : ip_KS (ip_oc y, n2, c, t) = Cond.instanceMethod (ip_nm c) := by unfold ip_KS; rw [if_neg (by dsimp only; omega)]
      rw [e0] at k2 k5
      exact hW.use k2 k5 args
    have hPV : PreS s H (va_Pc ((Value.ref a0 :: As).map (ip_rn b base)) (ip_B D cA base M)) (.ref (base + a0) :: As.map (ip_rn b base)) := ⟨ip_blind, fun U hU hWm => ⟨rfl, hB U hU hWm⟩⟩
    have g3 : (parseMethodDescriptor (ip_nm c).desc).map (fun d => d.parameters.length + 1) = some ((As.map (ip_rn b base)).length + 1) := by rw [hlen2]; exact g3
    rw [g7] at q6
    have hcd := hW.use w1 rfl args
    rw [g7] at hcd
    rcases g1 with rfl | rfl
    · have hln : (Cond.methodLink (ip_os y) n2 (ip_nm c)).before args s = true := hW.use k1 k4 args
      refine ip_after (a := (Value.ref (base + a0) :: As.map (ip_rn b base)).toArray) hR (va_runI (l := l) (own := ip_os y) (Ts := []) (n := (As.map (ip_rn b base)).length) ⟨hex, hb, hml, hown, fun _ h => by cases h⟩ hM ⟨⟨q1, q2, q3, q4, q5, q6, hcd, hW.use w2 rfl args, w3, ip_nargs1 g3, hln⟩, g6, hin⟩ hPV rfl rfl hl.1 hstk2 hcat hd ⟨hcells, hslots⟩) (fun H1 locs1 hR1 => ?_)
      rw [hrl]
      exact kk H1 locs1 hR1
    · have hln : (Cond.methodLinkNest (ip_os y) n2 (ip_nm c) RX10).before args s = true := hW.use k1 k4 args
      refine ip_after (a := (Value.ref (base + a0) :: As.map (ip_rn b base)).toArray) hR (va_runIN (l := l) (own := ip_os y) (Ts := []) (n := (As.map (ip_rn b base)).length) ⟨hex, hb, hml, hown, fun _ h => by cases h⟩ hM ⟨⟨⟨q1, q2, q3, q4, q5, q6⟩, hcd, hW.use w2 rfl args, w3, ip_nargs1 g3, hln⟩, g6, hin⟩ hPV rfl rfl hl.1 hstk2 hcat hd ⟨hcells, hslots⟩) (fun H1 locs1 hR1 => ?_)
      rw [hrl]
      exact kk H1 locs1 hR1
  | _ => cases hic
end IPC
theorem ip_sound (l : Launch) (X : ip_X) (D : va_G) (cA : Nat → ClassId) (base b : Nat) : ∀ n, ip_Pr l X D cA base b n := by
  intro n
  induction n with
  | zero => intro y pc ls st M r Mf h; cases h
  | succ n ih =>
    intro y pc ls st M r Mf hex p e R s m args below meth c H locs cells slots Q H0 arr C hcells hslots hR hX hl hlen kk
    rw [ip_exec] at hex
    split at hex
    · cases hex
    · rename_i en he
      obtain ⟨-, hok⟩ := ip_at_ok he
      split at hex
      · rename_i hic
        split at hex
        · rename_i hg
          split at hex
          · cases hex
          · rename_i r1 M1 hx1
            have l1 := ip_exec_le X _ _ _ _ _ _ _ hx1
            have l2 := ip_exec_le X _ _ _ _ _ _ _ hex
            dsimp only at l1 l2
            refine ip_callW (ls := ls) ih C hok hic hg.1 hg.2.1 hg.2.2 hx1 hR hl (by omega) (by omega) (fun H1 locs1 hR1 => ?_)
            refine ih _ _ _ _ _ _ _ hex p e R s m args below meth c H1 locs1 _ _ Q H0 arr C (by omega) (by omega) hR1 hX hl hlen (fun H' locs' pc' arr' en' st0 hR' h1 h2 => ?_)
            have k1 := kk H' locs' pc' arr' en' st0 hR' h1 h2
            rw [show cells + (M1.1.length - M.1.length) + (Mf.1.length - M1.1.length) = cells + (Mf.1.length - M.1.length) by omega, show slots + (ip_size M1.1 - ip_size M.1) + (ip_size Mf.1 - ip_size M1.1) = slots + (ip_size Mf.1 - ip_size M.1) by omega]
            exact k1
        · cases hex
      · rename_i hic
        split at hex
        · rename_i r' hrv
          cases hex
          have k1 := kk H locs pc arr en st hR he hrv
          rw [Nat.sub_self, Nat.sub_self, Nat.add_zero, Nat.add_zero] at k1
          exact k1
        · split at hex
          · cases hex
          · rename_i z hz
            have l1 := ip_step_le hz
            have l2 := ip_exec_le X _ _ _ _ _ _ _ hex
            dsimp only at l1 l2
            refine ip_stepW C hok (by simpa using hic) hz hR hX hl hlen (by omega) (by omega) (fun H1 locs1 arr1 hR1 hl1 hlen1 => ?_)
            refine ih _ _ _ _ _ _ _ hex p e R s m args below meth c H1 locs1 _ _ Q H0 arr1 C (by omega) (by omega) hR1 hX hl1 hlen1 (fun H' locs' pc' arr' en' st0 hR' h1 h2 => ?_)
            have k1 := kk H' locs' pc' arr' en' st0 hR' h1 h2
            rw [show cells + (z.2.2.2.1.length - M.1.length) + (Mf.1.length - z.2.2.2.1.length) = cells + (Mf.1.length - M.1.length) by omega, show slots + (ip_size z.2.2.2.1 - ip_size M.1) + (ip_size Mf.1 - ip_size z.2.2.2.1) = slots + (ip_size Mf.1 - ip_size M.1) by omega]
            exact k1
