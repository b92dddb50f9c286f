-- RANKS, and what a checked context says
def ai_qv (ρ : List Int) (q : ai_Q) (z : Int) : Prop := match q.2 with
  | none => z = q.1
  | some (s, m) => ∃ p, ρ[m]? = some p ∧ z = if s then q.1 + p else q.1 - p
theorem ai_qv_app {ρ : List Int} {q : ai_Q} {z : Int} (t : List Int) (h : ai_qv ρ q z) : ai_qv (ρ ++ t) q z := by
  unfold ai_qv at *
  split at h
  · exact h
  · obtain ⟨p, h1, h2⟩ := h
    exact ⟨p, by rw [List.getElem?_append_left (List.getElem?_eq_some_iff.mp h1).1]; exact h1, h2⟩
theorem ai_rq_ok {ρ : List Int} {ls : List ai_A} {vls : List Value} {r : ai_R} {q : ai_Q} (hls : ai_okL ρ ls vls) (h : ai_rq ls r = some q) : ai_qv ρ q (ai_rv vls r) := by
  cases r using ai_Rc with
  | n c => cases h; exact rfl
  | v i hi =>
    have hg := ai_get_ok hls i
    unfold ai_rq at h
    dsimp only at h
    split at h
    · rename_i d hd
      rw [hd] at hg
      obtain ⟨z, e, h1⟩ := hg
      cases h
      show hi - ai_ti (ip_get vls i) = _
      rw [e]
      have : z.toInt = d := h1
      simp only [ai_ti]
      omega
    · rename_i m d hd
      rw [hd] at hg
      obtain ⟨z, e, p, h1, h2⟩ := hg
      cases h
      refine ⟨p, h1, ?_⟩
      show hi - ai_ti (ip_get vls i) = _
      rw [e]
      simp only [ai_ti, Bool.false_eq_true, ↓reduceIte] at *
      omega
    · cases h
  | w i lo =>
    have hg := ai_get_ok hls i
    unfold ai_rq at h
    dsimp only at h
    split at h
    · rename_i d hd
      rw [hd] at hg
      obtain ⟨z, e, h1⟩ := hg
      cases h
      show ai_ti (ip_get vls i) - lo = _
      rw [e]
      have : z.toInt = d := h1
      simp only [ai_ti]
      omega
    · rename_i m d hd
      rw [hd] at hg
      obtain ⟨z, e, p, h1, h2⟩ := hg
      cases h
      refine ⟨p, h1, ?_⟩
      show ai_ti (ip_get vls i) - lo = _
      rw [e]
      simp only [ai_ti, ↓reduceIte] at *
      omega
    · cases h
theorem ai_qi_ok {ρ : List Int} {E : ai_V} {q : ai_Q} {z : Int} (hE : ai_okV ρ E) (h : ai_qv ρ q z) : (ai_qi E q).1 ≤ z ∧ z ≤ (ai_qi E q).2 := by
  have key : ∀ m p, ρ[m]? = some p → (E.getD m (0, 0)).1 ≤ p ∧ p ≤ (E.getD m (0, 0)).2 := by
    intro m p h1
    obtain ⟨b, h3, h4⟩ := ai_two2_get hE m p h1
    rw [List.getD_eq_getElem?_getD, h3]
    exact h4
  obtain ⟨c, o⟩ := q
  cases o with
  | none => have : z = c := h; simp only [ai_qi]; omega
  | some sm =>
    obtain ⟨s, m⟩ := sm
    obtain ⟨p, h1, h2⟩ := h
    have := key m p h1
    cases s
    · simp only [ai_qi, Bool.false_eq_true, ↓reduceIte] at *
      omega
    · simp only [ai_qi, ↓reduceIte] at *
      omega
theorem ai_qv_fun {ρ : List Int} {p q : ai_Q} {a b : Int} (h1 : ai_qv ρ p a) (h2 : ai_qv ρ q b) (he : p.2 = q.2) : a - p.1 = b - q.1 := by
  obtain ⟨c, o⟩ := p
  obtain ⟨d, o2⟩ := q
  have he : o = o2 := he
  subst he
  cases o with
  | none =>
    have e1 : a = c := h1
    have e2 : b = d := h2
    show a - c = b - d
    omega
  | some sm =>
    obtain ⟨s, m⟩ := sm
    obtain ⟨x, k1, k2⟩ := h1
    obtain ⟨y, k3, k4⟩ := h2
    have k3 : ρ[m]? = some y := k3
    rw [k1] at k3
    cases k3
    cases s
    · simp only [Bool.false_eq_true, ↓reduceIte] at *
      omega
    · simp only [↓reduceIte] at *
      omega
theorem ai_qlt_ok {ρ : List Int} {E : ai_V} {p q : ai_Q} {a b : Int} (hE : ai_okV ρ E) (h1 : ai_qv ρ p a) (h2 : ai_qv ρ q b) (h : ai_qlt E p q = true) : a < b := by
  simp only [ai_qlt, Bool.or_eq_true, Bool.and_eq_true, decide_eq_true_eq] at h
  rcases h with h | h
  · have := ai_qv_fun h1 h2 h.1
    omega
  · have := ai_qi_ok hE h1
    have := ai_qi_ok hE h2
    omega
theorem ai_qeq_ok {ρ : List Int} {p q : ai_Q} {a b : Int} (h1 : ai_qv ρ p a) (h2 : ai_qv ρ q b) (h : ai_qeq p q = true) : a = b := by
  simp only [ai_qeq, Bool.and_eq_true, decide_eq_true_eq] at h
  have := ai_qv_fun h1 h2 h.1
  omega
theorem ai_qin_ok {ρ : List Int} {E : ai_V} {p : ai_Q} {a : Int} (hE : ai_okV ρ E) (h1 : ai_qv ρ p a) (h : ai_qin E p = true) : 0 ≤ a ∧ a < 8589934592 := by
  simp only [ai_qin, Bool.and_eq_true, decide_eq_true_eq] at h
  have := ai_qi_ok hE h1
  omega
/-- the rank as one number -/
def ai_ms (z : Int × Int × Int) : Int := (z.1 * 8589934592 + z.2.1) * 8589934592 + z.2.2
def ai_rv3 (vls : List Value) (r : ai_R3) : Int × Int × Int := (ai_rv vls r.1, ai_rv vls r.2.1, ai_rv vls r.2.2)
def ai_qv3 (ρ : List Int) (q : ai_Q3) (z : Int × Int × Int) : Prop := ai_qv ρ q.1 z.1 ∧ ai_qv ρ q.2.1 z.2.1 ∧ ai_qv ρ q.2.2 z.2.2
def ai_z3 (z : Int × Int × Int) : Prop := (0 ≤ z.1 ∧ z.1 < 8589934592) ∧ (0 ≤ z.2.1 ∧ z.2.1 < 8589934592) ∧ (0 ≤ z.2.2 ∧ z.2.2 < 8589934592)
theorem ai_rq3_ok {ρ : List Int} {ls : List ai_A} {vls : List Value} {r : ai_R3} {q : ai_Q3} (hls : ai_okL ρ ls vls) (h : ai_rq3 ls r = some q) : ai_qv3 ρ q (ai_rv3 vls r) := by
  unfold ai_rq3 at h
  split at h
  · rename_i a b c h1 h2 h3
    cases h
    exact ⟨ai_rq_ok hls h1, ai_rq_ok hls h2, ai_rq_ok hls h3⟩
  · cases h
theorem ai_q3in_ok {ρ : List Int} {E : ai_V} {q : ai_Q3} {z : Int × Int × Int} (hE : ai_okV ρ E) (h1 : ai_qv3 ρ q z) (h : ai_q3in E q = true) : ai_z3 z := by
  simp only [ai_q3in, Bool.and_eq_true] at h
  exact ⟨ai_qin_ok hE h1.1 h.1, ai_qin_ok hE h1.2.1 h.2.1, ai_qin_ok hE h1.2.2 h.2.2⟩
theorem ai_q3lt_ok {ρ : List Int} {E : ai_V} {p q : ai_Q3} {a b : Int × Int × Int} (hE : ai_okV ρ E) (h1 : ai_qv3 ρ p a) (h2 : ai_qv3 ρ q b) (ha : ai_z3 a) (hb : ai_z3 b) (h : ai_q3lt E p q = true) : ai_ms a < ai_ms b := by
  simp only [ai_q3lt, Bool.or_eq_true, Bool.and_eq_true] at h
  obtain ⟨a1, a2, a3⟩ := ha
  obtain ⟨b1, b2, b3⟩ := hb
  unfold ai_ms
  rcases h with h | ⟨g, h | ⟨h', h⟩⟩
  · have := ai_qlt_ok hE h1.1 h2.1 h
    omega
  · have := ai_qeq_ok h1.1 h2.1 g
    have := ai_qlt_ok hE h1.2.1 h2.2.1 h
    omega
  · have := ai_qeq_ok h1.1 h2.1 g
    have := ai_qeq_ok h1.2.1 h2.2.1 h'
    have := ai_qlt_ok hE h1.2.2 h2.2.2 h
    omega
theorem ai_z3_ms {z : Int × Int × Int} (h : ai_z3 z) : 0 ≤ ai_ms z := by
  obtain ⟨a, b, c⟩ := h
  unfold ai_ms
  omega
/-- the calls that wait -/
def ai_frs (X : ip_X) (ρ : List Int) (K0 : Option Value → ip_H → Prop) : List ai_Fr → (Option Value → ip_H → Prop) → Prop
  | [], K => K = K0
  | f :: fs, K => ∃ K1 vls vst, ai_frs X ρ K0 fs K1 ∧ ai_okL ρ f.2.2.1 vls ∧ ai_okL ρ f.2.2.2 vst ∧ K = fun r M1 => ip_wp X f.1 f.2.1 vls (r.toList ++ vst) M1 K1
theorem ai_frs_app {X : ip_X} {ρ : List Int} {K0 : Option Value → ip_H → Prop} (t : List Int) : ∀ {fr : List ai_Fr} {K : Option Value → ip_H → Prop}, ai_frs X ρ K0 fr K → ai_frs X (ρ ++ t) K0 fr K
  | [], _, h => h
  | _ :: _, _, ⟨K1, vls, vst, h1, h2, h3, h4⟩ => ⟨K1, vls, vst, ai_frs_app t h1, ai_okL_app t h2, ai_okL_app t h3, h4⟩
theorem ai_fr_t {W : ai_W} {M M1 M2 : ip_H} (h1 : ai_fr W M M1) (h2 : ai_fr W M1 M2) : ai_fr W M M2 := ⟨fun k j h => (h2.1 k j h).trans (h1.1 k j h), fun k j h => (h2.2 k j h).trans (h1.2 k j h)⟩
theorem ai_leW_m {W V : ai_W} (h : ai_leW W V = true) {k j : Nat} (hkj : ai_may V k j = false) : ai_may W k j = false := by
  simp only [ai_leW, Bool.and_eq_true] at h
  cases hc : ai_may W k j with
  | false => rfl
  | true =>
    exfalso
    rw [ai_may_e] at hc
    rw [Bool.or_eq_true] at hc
    rcases hc with hc | hc
    · have := List.all_eq_true.mp h.1 (k, j) (by simpa using hc)
      simp only at this
      rw [this] at hkj
      cases hkj
    · have := List.all_eq_true.mp h.2 k (by simpa using hc)
      unfold ai_may at hkj
      rw [this, Bool.or_true] at hkj
      cases hkj
theorem ai_leW_ok {W V : ai_W} (h : ai_leW W V = true) {M M1 : ip_H} (hf : ai_fr W M M1) : ai_fr V M M1 := ⟨fun k j hkj => hf.1 k j (ai_leW_m h hkj), fun k j hkj => hf.2 k j (ai_leW_m h hkj)⟩
theorem ai_flt_ok {ρ : List Int} {F : ai_F} {W : ai_W} {M M1 : ip_H} (hF : ai_okF ρ F M) (hf : ai_fr W M M1) : ai_okF ρ (F.filter fun f => !ai_may W f.1 f.2.1) M1 := by
  intro f h
  rw [List.mem_filter, Bool.not_eq_true'] at h
  rw [hf.1 _ _ h.2]
  exact hF f h.1
