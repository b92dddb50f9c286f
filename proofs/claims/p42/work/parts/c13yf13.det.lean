-- A ROW IS DETERMINED: each STATE is the STEP of the one before
def q_fu (N : Nat → Int32) (j : Nat) : Int32 := c_fl N (r_v N 0) (r_v N 1) (r_v N 2) (153 + 8 * j)
def q_fv (N : Nat → Int32) (j : Nat) : Int32 := c_fl N (r_v N 0) (r_v N 1) (r_v N 2) (153 + 8 * j + 4)
def q_f0 (N : Nat → Int32) (j : Nat) : Int × Int × Int × Int := (r_v N (153 + 8 * j) - (q_fu N j).toInt * r_v N (153 + 8 * j + 3), r_v N (153 + 8 * j + 1), r_v N (153 + 8 * j + 2), r_v N (153 + 8 * j + 3))
def q_g0 (N : Nat → Int32) (j : Nat) : Int × Int × Int × Int := (r_v N (153 + 8 * j + 4) - (q_fv N j).toInt * r_v N (153 + 8 * j + 7), r_v N (153 + 8 * j + 5), r_v N (153 + 8 * j + 6), r_v N (153 + 8 * j + 7))
def q_t (N : Nat → Int32) (j : Nat) : Bool := decide (N 4 = 1) && r_lt (r_v N 0) (r_v N 1) (r_v N 2) (q_f0 N j) (q_g0 N j)
def q_f (N : Nat → Int32) (j : Nat) : Int × Int × Int × Int := if q_t N j = true then q_g0 N j else q_f0 N j
def q_g (N : Nat → Int32) (j : Nat) : Int × Int × Int × Int := if q_t N j = true then q_f0 N j else q_g0 N j
def q_e (N : Nat → Int32) (j : Nat) : Bool := decide (Int64.ofInt (q_f N j).1 = 0) && (decide (Int64.ofInt (q_f N j).2.1 = 0) && decide (Int64.ofInt (q_f N j).2.2.1 = 0))
theorem q_r (N : Nat → Int32) : r_fu N = q_fu N (r_k N) ∧ r_fv N = q_fv N (r_k N) ∧ r_f0 N = q_f0 N (r_k N) ∧ r_g0 N = q_g0 N (r_k N) ∧ r_t N = q_t N (r_k N) ∧ r_f N = q_f N (r_k N) ∧ r_g N = q_g N (r_k N) ∧ r_e N = q_e N (r_k N) := ⟨rfl, rfl, rfl, rfl, rfl, rfl, rfl, rfl⟩
theorem q_cg {N N' : Nat → Int32} {j : Nat} (h0 : ∀ b, b < 5 → N' b = N b) (h : ∀ i, i < 8 → N' (153 + 8 * j + i) = N (153 + 8 * j + i)) : q_fu N' j = q_fu N j ∧ q_fv N' j = q_fv N j ∧ q_t N' j = q_t N j ∧ q_f N' j = q_f N j ∧ q_g N' j = q_g N j ∧ q_e N' j = q_e N j := by
  have a0 := h0 0 (by decide)
  have a1 := h0 1 (by decide)
  have a2 := h0 2 (by decide)
  have a4 := h0 4 (by decide)
  have s0 := h 0 (by decide)
  have s1 := h 1 (by decide)
  have s2 := h 2 (by decide)
  have s3 := h 3 (by decide)
  have s4 := h 4 (by decide)
  have s5 := h 5 (by decide)
  have s6 := h 6 (by decide)
  have s7 := h 7 (by decide)
  rw [Nat.add_zero] at s0
  have eu : q_fu N' j = q_fu N j := by
    unfold q_fu c_fl r_v
    rw [a0, a1, a2, s0, s1, s2, s3]
  have ev : q_fv N' j = q_fv N j := by
    unfold q_fv c_fl r_v
    simp only [Nat.add_assoc, Nat.reduceAdd] at s4 s5 s6 s7 ⊢
    rw [a0, a1, a2, s4, s5, s6, s7]
  have ef : q_f0 N' j = q_f0 N j := by
    unfold q_f0 r_v
    rw [eu, s0, s1, s2, s3]
  have eg : q_g0 N' j = q_g0 N j := by
    unfold q_g0 r_v
    rw [ev, s4, s5, s6, s7]
  have et : q_t N' j = q_t N j := by
    unfold q_t r_v
    rw [a0, a1, a2, a4, ef, eg]
  have ef' : q_f N' j = q_f N j := by
    unfold q_f
    rw [et, ef, eg]
  refine ⟨eu, ev, et, ef', ?_, ?_⟩
  · unfold q_g
    rw [et, ef, eg]
  · unfold q_e
    rw [ef']
/-- four numbers of a row -/
def z4 (N : Nat → Int32) (s : Nat) (z : Int × Int × Int × Int) : Prop := N s = Int32.ofInt z.1 ∧ N (s + 1) = Int32.ofInt z.2.1 ∧ N (s + 2) = Int32.ofInt z.2.2.1 ∧ N (s + 3) = Int32.ofInt z.2.2.2
theorem z4_c {N N' : Nat → Int32} {s : Nat} {z : Int × Int × Int × Int} (h : ∀ i, i < 4 → N' (s + i) = N (s + i)) (g : z4 N s z) : z4 N' s z := by
  obtain ⟨g0, g1, g2, g3⟩ := g
  exact ⟨(h 0 (by decide)).trans g0, (h 1 (by decide)).trans g1, (h 2 (by decide)).trans g2, (h 3 (by decide)).trans g3⟩
/-- PRODUCT behind j STEPS -/
def q_P (N : Nat → Int32) : Nat → Nat → Int64
  | 0 => fun i => if i % 4 = 0 then 1 else 0
  | j + 1 => q_nx false (q_P N j) (N (641 + 3 * j)).toInt64 (N (641 + 3 * j + 1)).toInt64 (b1 (N (641 + 3 * j + 2)))
/-- STEP j is right -/
def q_s (N : Nat → Int32) (j : Nat) : Prop := q_e N j = false ∧ N (641 + 3 * j) = q_fu N j ∧ N (641 + 3 * j + 1) = q_fv N j ∧ N (641 + 3 * j + 2) = ip_b (q_t N j) ∧
  z4 N (153 + 8 * (j + 1)) (zQ4 (r_v N 0) (r_v N 1) (r_v N 2) (q_g N j) (q_f N j)) ∧ z4 N (153 + 8 * (j + 1) + 4) (zQ4 (r_v N 0) (r_v N 1) (r_v N 2) (1, 0, 0, 1) (q_f N j)) ∧
  z_nxt (r_v N 0) (r_v N 1) (r_v N 2) (zQ4 (r_v N 0) (r_v N 1) (r_v N 2) (q_g N j) (q_f N j)) = true ∧ z_nxt (r_v N 0) (r_v N 1) (r_v N 2) (zQ4 (r_v N 0) (r_v N 1) (r_v N 2) (1, 0, 0, 1) (q_f N j)) = true ∧
  (q_c false (q_P N j) (N (641 + 3 * j)).toInt64 (N (641 + 3 * j + 1)).toInt64).2 = false
/-- the PERIOD known behind j STEPS -/
def q_pe (N : Nat → Int32) : Nat → Option (Nat × Nat)
  | 0 => none
  | j + 1 => match q_pe N j with
    | some q => some q
    | none => (lbk N (j + 1) (j + 1) 0).map fun k => (k, j + 1 - k)
def q_po (N : Nat → Int32) : Option (Nat × Nat) → Prop
  | none => N 6 = -1
  | some q => N 6 = Int32.ofNat q.1 ∧ N 7 = Int32.ofNat q.2
def q_lw (N : Nat → Int32) (s : Nat) : Prop := z_low (qi N s)
/-- ALL THAT DETERMINES A ROW -/
def q_ok (N : Nat → Int32) (P : Nat → Int64) : Prop := (∀ i, i < 6 → q_lw N (9 + 4 * i)) ∧ (¬ N 3 = 0 → (N 4 = 0 ∨ N 4 = 1) ∧ (∀ j, j < r_k N → q_s N j) ∧ (∀ i, i < 9 → P i = q_P N (r_k N) i) ∧ q_po N (q_pe N (r_k N)) ∧ ∀ j, j ≤ r_k N → q_lw N (153 + 8 * j) ∧ q_lw N (153 + 8 * j + 4))
theorem q_P_c {N N' : Nat → Int32} : ∀ (j : Nat), (∀ i, i < 3 * j → N' (641 + i) = N (641 + i)) → q_P N' j = q_P N j := by
  intro j
  induction j with
  | zero => intro h; rfl
  | succ j ih =>
    intro h
    have h0 := h (3 * j) (by omega)
    have h1 := h (3 * j + 1) (by omega)
    have h2 := h (3 * j + 2) (by omega)
    simp only [← Nat.add_assoc] at h1 h2
    unfold q_P
    rw [ih (fun i hi => h i (by omega)), h0, h1, h2]
theorem alk_c {N N' : Nat → Int32} {k l : Nat} (hk : ∀ i, i < 8 → N' (153 + 8 * k + i) = N (153 + 8 * k + i)) (hl : ∀ i, i < 8 → N' (153 + 8 * l + i) = N (153 + 8 * l + i)) : alk N' k l = alk N k l := by
  have a0 := hk 0 (by decide)
  have b0 := hl 0 (by decide)
  rw [Nat.add_zero] at a0 b0
  unfold alk
  rw [a0, b0, hk 1 (by decide), hk 2 (by decide), hk 3 (by decide), hk 4 (by decide), hk 5 (by decide), hk 6 (by decide), hk 7 (by decide), hl 1 (by decide), hl 2 (by decide), hl 3 (by decide), hl 4 (by decide), hl 5 (by decide), hl 6 (by decide), hl 7 (by decide)]
theorem lbk_c {N N' : Nat → Int32} {last : Nat} : ∀ (n k : Nat), k + n ≤ last → (∀ i, i < 8 * (last + 1) → N' (153 + i) = N (153 + i)) → lbk N' last n k = lbk N last n k := by
  intro n
  induction n with
  | zero => intro k _ _; rfl
  | succ n ih =>
    intro k hk h
    have e : alk N' k last = alk N k last := alk_c (fun i hi => by
      have := h (8 * k + i) (by omega)
      simp only [← Nat.add_assoc] at this
      exact this) (fun i hi => by
      have := h (8 * last + i) (by omega)
      simp only [← Nat.add_assoc] at this
      exact this)
    rw [lbk, lbk, e, ih (k + 1) (by omega) h]
theorem q_pe_c {N N' : Nat → Int32} : ∀ (j : Nat), (∀ i, i < 8 * (j + 1) → N' (153 + i) = N (153 + i)) → q_pe N' j = q_pe N j := by
  intro j
  induction j with
  | zero => intro _; rfl
  | succ j ih =>
    intro h
    unfold q_pe
    rw [ih (fun i hi => h i (by omega)), lbk_c (j + 1) 0 (by omega) h]
theorem q_lw_c {N N' : Nat → Int32} {s : Nat} (h : ∀ i, i < 4 → N' (s + i) = N (s + i)) (g : q_lw N s) : q_lw N' s := by
  unfold q_lw qi at *
  have h0 := h 0 (by decide)
  rw [Nat.add_zero] at h0
  rw [h0, h 1 (by decide), h 2 (by decide), h 3 (by decide)]
  exact g
theorem q_s_c {N N' : Nat → Int32} {j : Nat} (h0 : ∀ b, b < 5 → N' b = N b) (h : ∀ i, i < 8 * (j + 2) → N' (153 + i) = N (153 + i)) (hd : ∀ i, i < 3 * (j + 1) → N' (641 + i) = N (641 + i)) (g : q_s N j) : q_s N' j := by
  have hs : ∀ (a i : Nat), 8 * a + i < 8 * (j + 2) → N' (153 + 8 * a + i) = N (153 + 8 * a + i) := fun a i hi => by
    have := h (8 * a + i) hi
    simp only [← Nat.add_assoc] at this
    exact this
  obtain ⟨eu, ev, et, ef, eg, ee⟩ := q_cg h0 (fun i hi => hs j i (by omega))
  have p0 : r_v N' 0 = r_v N 0 := by unfold r_v; rw [h0 0 (by decide)]
  have p1 : r_v N' 1 = r_v N 1 := by unfold r_v; rw [h0 1 (by decide)]
  have p2 : r_v N' 2 = r_v N 2 := by unfold r_v; rw [h0 2 (by decide)]
  have d0 := hd (3 * j) (by omega)
  have d1 := hd (3 * j + 1) (by omega)
  have d2 := hd (3 * j + 2) (by omega)
  simp only [← Nat.add_assoc] at d1 d2
  have eP : q_P N' j = q_P N j := q_P_c j (fun i hi => hd i (by omega))
  obtain ⟨g1, g2, g3, g4, g5, g6, g7, g8, g9⟩ := g
  unfold q_s
  rw [eu, ev, et, ef, eg, ee, p0, p1, p2, d0, d1, d2, eP]
  refine ⟨g1, g2, g3, g4, z4_c (fun i hi => hs (j + 1) i (by omega)) g5, z4_c (fun i hi => ?_) g6, g7, g8, g9⟩
  have := hs (j + 1) (4 + i) (by omega)
  simp only [← Nat.add_assoc] at this
  exact this
theorem q_ok_c {N N' : Nat → Int32} {P P' : Nat → Int64} (h : ∀ b, b < 821 → N' b = N b) (hP : ∀ i, i < 9 → P' i = P i) (hk : ¬ N 3 = 0 → r_k N ≤ 60) (g : q_ok N P) : q_ok N' P' := by
  obtain ⟨g1, g2⟩ := g
  refine ⟨fun i hi => q_lw_c (fun j hj => h _ (by omega)) (g1 i hi), fun h3 => ?_⟩
  rw [h 3 (by decide)] at h3
  have h60 := hk h3
  obtain ⟨a1, a2, a3, a4, a5⟩ := g2 h3
  have ek : r_k N' = r_k N := by unfold r_k; rw [h 5 (by decide)]
  rw [ek]
  refine ⟨by rw [h 4 (by decide)]; exact a1, fun j hj => q_s_c (fun b hb => h b (by omega)) (fun i hi => h _ (by omega)) (fun i hi => h _ (by omega)) (a2 j hj), fun i hi => ?_, ?_, fun j hj => ?_⟩
  · rw [hP i hi, q_P_c (r_k N) (fun i hi => h _ (by omega))]
    exact a3 i hi
  · rw [q_pe_c (r_k N) (fun i hi => h _ (by omega))]
    generalize q_pe N (r_k N) = o at a4 ⊢
    cases o with
    | none => exact (h 6 (by decide)).trans a4
    | some q => exact ⟨(h 6 (by decide)).trans a4.1, (h 7 (by decide)).trans a4.2⟩
  · exact ⟨q_lw_c (fun i hi => h _ (by omega)) (a5 j hj).1, q_lw_c (fun i hi => h _ (by omega)) (a5 j hj).2⟩
theorem q_pe_b (N : Nat → Int32) : ∀ (j : Nat) (q : Nat × Nat), q_pe N j = some q → q.1 + q.2 ≤ j ∧ 1 ≤ q.2 := by
  intro j
  induction j with
  | zero => intro q h; cases h
  | succ j ih =>
    intro q h
    unfold q_pe at h
    cases e : q_pe N j with
    | some s =>
      rw [e] at h
      cases h
      have := ih _ e
      omega
    | none =>
      rw [e] at h
      cases e2 : lbk N (j + 1) (j + 1) 0 with
      | none => rw [e2] at h; cases h
      | some m =>
        rw [e2] at h
        have hm := lbk_lt N (j + 1) (j + 1) 0 m e2
        have hq : q = (m, j + 1 - m) := by
          have h2 : some (m, j + 1 - m) = some q := h
          exact (Option.some.inj h2).symm
        rw [hq]
        dsimp only
        omega
