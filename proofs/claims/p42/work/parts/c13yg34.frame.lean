-- WHAT A CALL THAT ONLY TELLS LEAVES
/-- cells that only the call itself works with -/
def tlc (k : Nat) : Bool := (decide (80 ≤ k) && decide (k ≤ 101)) || (decide (k = 1003) || (decide (k = 1015) || (decide (k = 1016) || (decide (1080 ≤ k) && decide (k ≤ 1101)))))
theorem tlc_n {k : Nat} (h : k < 80 ∨ k = 1010 ∨ (1102 ≤ k ∧ k < 1108)) : tlc k = false := by
  unfold tlc
  have h1 : (decide (80 ≤ k) && decide (k ≤ 101)) = false := by
    rw [← Bool.decide_and]
    exact decide_eq_false (by omega)
  have h2 : (decide (1080 ≤ k) && decide (k ≤ 1101)) = false := by
    rw [← Bool.decide_and]
    exact decide_eq_false (by omega)
  rw [h1, h2, decide_eq_false (by omega), decide_eq_false (by omega), decide_eq_false (by omega)]
  rfl
def ai_tl (V : ai_W) : Bool := (V.1.all fun p => tlc p.1) && V.2.all fun k => tlc k
theorem ai_tl_ok {V : ai_W} (h : ai_tl V = true) {a : Nat} (j : Nat) (hn : tlc a = false) : ai_may V a j = false := by
  unfold ai_tl at h
  rw [Bool.and_eq_true] at h
  cases e : ai_may V a j
  · rfl
  · exfalso
    rw [ai_may_e] at e
    rw [Bool.or_eq_true, List.elem_iff, List.elem_iff] at e
    rcases e with e | e
    · have q := List.all_eq_true.mp h.1 _ e
      have q' : tlc a = true := q
      rw [hn] at q'
      exact absurd q' (by decide)
    · have q := List.all_eq_true.mp h.2 _ e
      have q' : tlc a = true := q
      rw [hn] at q'
      exact absurd q' (by decide)
/-- the class behind a call that only tells -/
def tlf (M M1 : ip_H) : Prop := (∀ a, a < 80 → M1.2.1 a = M.2.1 a) ∧ ∀ a, (a = 10 ∨ (102 ≤ a ∧ a < 108)) → M1.2.2.1 a = M.2.2.1 a
theorem tlf_of {V : ai_W} {M M1 : ip_H} (h : ai_tl V = true) (f : ai_fr V M M1) : tlf M M1 := ⟨fun a ha => funext fun j => f.1 a j (ai_tl_ok h j (tlc_n (by omega))), fun a ha => funext fun j => f.2 a j (ai_tl_ok h j (tlc_n (by omega)))⟩
theorem tlf_cur {M E : ip_H} {N : Nat → Int32} (t : tlf M E) (h : cur M N) : cur E N := by
  have e := t.1
  have l := t.2
  exact cur_M (fun x _ => by rw [e 1 (by omega)]) (fun i hi => l _ (by omega)) (by rw [e 17 (by omega)]) (e 18 (by omega)) (by rw [e 6 (by omega)]) (by rw [e 6 (by omega)]) (by rw [e 6 (by omega)]) (by rw [e 6 (by omega)]) (e 7 (by omega)) (e 8 (by omega)) (l 10 (by omega)) h
theorem JJ_tl {M M1 : ip_H} (hg : hig M M1) (t : tlf M M1) (j : JJ M) : JJ M1 := by
  obtain ⟨n, hn, e, c, r, i, d, w⟩ := j
  have e8 := (hg 108 (by decide) (by decide)).1
  have e9 := (hg 109 (by decide) (by decide)).1
  have e11 := (hg 111 (by decide) (by decide)).1
  have e12 := (hg 112 (by decide) (by decide)).1
  have e13 := (hg 113 (by decide) (by decide)).1
  have e14 := (hg 114 (by decide) (by decide)).1
  have e17 := (hg 117 (by decide) (by decide)).1
  have k : kR M1 = kR M := by unfold kR; rw [e12]
  have ir : iR M1 = iR M := by unfold iR; rw [e14]
  refine ⟨n, hn, ?_, ?_, ?_, ?_, ?_, ?_⟩
  · rw [e8]; exact e
  · rw [e9]; exact tlf_cur t c
  · rw [k, e13]; exact rgC_M (M := M) (fun a ha => t.1 a (by omega)) r
  · rw [e17, ir]; exact igC_M (M := M) (fun a ha => t.1 a (by omega)) i
  · rw [e8, e11]; exact tdC_M (M := M) (fun a ha => t.1 a (by omega)) d
  · rw [t.1 0 (by decide), e8]; exact w
/-- the reference behind a call that only tells -/
def vq (M M1 : ip_H) : Prop := vis M M1 ∧ (∀ b, b < 821 → M1.2.1 109 b = M.2.1 109 b) ∧ (∀ b, b < 9 → M1.2.2.1 110 b = M.2.2.1 110 b) ∧ M1.2.1 111 = M.2.1 111 ∧ M1.2.1 108 4 = M.2.1 108 4
theorem vq_r (M : ip_H) : vq M M := ⟨vis_r M, fun _ _ => rfl, fun _ _ => rfl, rfl, rfl⟩
theorem vq_t {M M1 M2 : ip_H} (h : vq M M1) (g : vq M1 M2) : vq M M2 := ⟨vis_t h.1 g.1, fun b hb => (g.2.1 b hb).trans (h.2.1 b hb), fun b hb => (g.2.2.1 b hb).trans (h.2.2.1 b hb), g.2.2.2.1.trans h.2.2.2.1, g.2.2.2.2.trans h.2.2.2.2⟩
theorem vq_rN (M : ip_H) (R S : Nat → Int64) (B : Bool) : vq M (c_rN M R S B) := ⟨vis_rN M R S B, fun b _ => by rw [c_rN_109], fun b _ => by rw [rN_110], rN_111 M R S B, by rw [c_rN_I, if_neg (by decide)]⟩
theorem vq_sm (M : ip_H) (F : Nat → Int64) (u d : Int64) : vq M (c_sm M F u d) := ⟨vis_sm M F u d, fun _ _ => rfl, fun b _ => by
  unfold c_sm
  rw [ip_uL_L, if_neg (by omega), ip_uL_L, if_neg (by omega), ip_sL_L, if_neg (by decide)], rfl, rfl⟩
theorem vq_x4g (M : ip_H) (e f g k : Int64) : vq M (c_x4g M e f g k) := ⟨vis_x4g M e f g k, fun _ _ => rfl, fun b _ => by
  unfold c_x4g
  simp only [ip_uL_L, show ¬ (110 : Nat) = 108 by decide, false_and, ↓reduceIte], rfl, rfl⟩
theorem vq_pm (M : ip_H) : vq M (c_pm M) := ⟨vis_pm M, fun b _ => by rw [c_pm_row], fun b _ => by rw [c_pm_110], funext fun b => (scr_pm M).2.2.1 111 b rfl, (scr_pm M).2.2.1 108 4 rfl⟩
theorem Ri_vq {M M1 : ip_H} (q : vq M M1) (g : Ri M) : Ri M1 := ⟨Rk_vis q.1 g.1, rw_ok_c q.2.1 g.2.1, fun b hb => by rw [q.2.2.1 b hb]; exact g.2.2 b hb⟩
theorem Rq_vq {M M1 : ip_H} (q : vq M M1) (gi : Ri M) (g : Rq M) : Rq M1 := by
  have v := q.1
  have e7 := vis_I v 117 (fun _ => rfl)
  have e4 := vis_I v 114 (fun _ => rfl)
  have e6 := vis_L v 116 (fun _ => rfl)
  have e112 := vis_I v 112 (fun _ => rfl)
  have e115 := vis_L v 115 (fun _ => rfl)
  refine ⟨qk_c q.2.1 q.2.2.1 gi.2.1 g.1, ?_, ?_⟩
  · have h := g.2.1
    unfold kR kP at h ⊢
    rw [e112, e115, v.2.2.1 108 12 rfl]
    exact h
  · have h := g.2.2
    unfold iR iP at h ⊢
    rw [e7, e4, e6]
    exact h
theorem JJ_vq {M M1 : ip_H} (q : vq M M1) (gi : Ri M) (j : JJ M) : JJ M1 := by
  obtain ⟨n, hn, e, c, r, i, d, w⟩ := j
  have v := q.1
  have l : low M M1 := vix_low (vix_vis v)
  have e7 := vis_I v 117 (fun _ => rfl)
  have e4 := vis_I v 114 (fun _ => rfl)
  have e12 := vis_I v 112 (fun _ => rfl)
  have e13 := vis_I v 113 (fun _ => rfl)
  have k : kR M1 = kR M := by unfold kR; rw [e12]
  have ir : iR M1 = iR M := by unfold iR; rw [e4]
  refine ⟨n, hn, ?_, ?_, ?_, ?_, ?_, ?_⟩
  · rw [v.2.2.1 108 12 rfl]; exact e
  · exact cur_N q.2.1 gi.2.1 (low_cur l c)
  · rw [k, e13]; exact rgC_M (M := M) (fun a ha => low_I l a (by omega)) r
  · rw [e7, ir]; exact igC_M (M := M) (fun a ha => low_I l a (by omega)) i
  · rw [q.2.2.2.2, q.2.2.2.1]; exact tdC_M (M := M) (fun a ha => low_I l a (by omega)) d
  · rw [low_I l 0 (by decide), v.2.2.1 108 3 rfl]; exact w

theorem tx_value (X : ip_X) (M : ip_H) (K : Option Value → ip_H → Prop) (i : Int32) (j : Int32) (hG : ip_G M) (hI : ai_inv ai_Tb M) (h : ∀ v M1, ip_G M1 → ai_inv ai_Tb M1 → hig M M1 → tlf M M1 → K (some (.int v)) M1) : ip_wp X 127 0 [.ref 0, .int i, .int j] [] M K := by
  have hi : ai_hi cx_364.2.2.2.2 = true := by decide +kernel
  have ht : ai_tl cx_364.2.2.2.2 = true := by decide +kernel
  refine vx_364 X M [.ref 0, .int i, .int j] K (a2_r (a2_i (a2_i (a2_n)))) hG hI (fun r M1 hr hG1 hI1 hf => ?_)
  obtain ⟨q, rfl⟩ := ar_i hr
  exact h q M1 hG1 hI1 (hig_of hi hf) (tlf_of ht hf)

theorem tx_matrix (X : ip_X) (M : ip_H) (K : Option Value → ip_H → Prop) (i : Int32) (j : Int32) (k : Int32) (hG : ip_G M) (hI : ai_inv ai_Tb M) (h : ∀ v M1, ip_G M1 → ai_inv ai_Tb M1 → hig M M1 → tlf M M1 → K (some (.long v)) M1) : ip_wp X 128 0 [.ref 0, .int i, .int j, .int k] [] M K := by
  have hi : ai_hi cx_365.2.2.2.2 = true := by decide +kernel
  have ht : ai_tl cx_365.2.2.2.2 = true := by decide +kernel
  refine vx_365 X M [.ref 0, .int i, .int j, .int k] K (a2_r (a2_i (a2_i (a2_i (a2_n))))) hG hI (fun r M1 hr hG1 hI1 hf => ?_)
  obtain ⟨q, rfl⟩ := ar_l hr
  exact h q M1 hG1 hI1 (hig_of hi hf) (tlf_of ht hf)

theorem tx_norm (X : ip_X) (M : ip_H) (K : Option Value → ip_H → Prop) (i : Int32) (j : Int32) (k : Int32) (hG : ip_G M) (hI : ai_inv ai_Tb M) (h : ∀ v M1, ip_G M1 → ai_inv ai_Tb M1 → hig M M1 → tlf M M1 → K (some (.long v)) M1) : ip_wp X 129 0 [.ref 0, .int i, .int j, .int k, .retAddr 1, .retAddr 1] [] M K := by
  have hi : ai_hi cx_367.2.2.2.2 = true := by decide +kernel
  have ht : ai_tl cx_367.2.2.2.2 = true := by decide +kernel
  refine vx_367 X M [.ref 0, .int i, .int j, .int k] K (a2_r (a2_i (a2_i (a2_i (a2_n))))) hG hI (fun r M1 hr hG1 hI1 hf => ?_)
  obtain ⟨q, rfl⟩ := ar_l hr
  exact h q M1 hG1 hI1 (hig_of hi hf) (tlf_of ht hf)

theorem tx_compare (X : ip_X) (M : ip_H) (K : Option Value → ip_H → Prop) (i : Int32) (j : Int32) (hG : ip_G M) (hI : ai_inv ai_Tb M) (h : ∀ v M1, ip_G M1 → ai_inv ai_Tb M1 → hig M M1 → tlf M M1 → K (some (.int v)) M1) : ip_wp X 130 0 [.ref 0, .int i, .int j] [] M K := by
  have hi : ai_hi cx_404.2.2.2.2 = true := by decide +kernel
  have ht : ai_tl cx_404.2.2.2.2 = true := by decide +kernel
  refine vx_404 X M [.ref 0, .int i, .int j] K (a2_r (a2_i (a2_i (a2_n)))) hG hI (fun r M1 hr hG1 hI1 hf => ?_)
  obtain ⟨q, rfl⟩ := ar_i hr
  exact h q M1 hG1 hI1 (hig_of hi hf) (tlf_of ht hf)

theorem tx_state (X : ip_X) (M : ip_H) (K : Option Value → ip_H → Prop) (k : Int32) (w : Int32) (j : Int32) (hG : ip_G M) (hI : ai_inv ai_Tb M) (h : ∀ v M1, ip_G M1 → ai_inv ai_Tb M1 → hig M M1 → tlf M M1 → K (some (.int v)) M1) : ip_wp X 131 0 [.ref 0, .int k, .int w, .int j] [] M K := by
  have hi : ai_hi cx_405.2.2.2.2 = true := by decide +kernel
  have ht : ai_tl cx_405.2.2.2.2 = true := by decide +kernel
  refine vx_405 X M [.ref 0, .int k, .int w, .int j] K (a2_r (a2_i (a2_i (a2_i (a2_n))))) hG hI (fun r M1 hr hG1 hI1 hf => ?_)
  obtain ⟨q, rfl⟩ := ar_i hr
  exact h q M1 hG1 hI1 (hig_of hi hf) (tlf_of ht hf)

theorem tx_digit (X : ip_X) (M : ip_H) (K : Option Value → ip_H → Prop) (i : Int32) (j : Int32) (hG : ip_G M) (hI : ai_inv ai_Tb M) (h : ∀ v M1, ip_G M1 → ai_inv ai_Tb M1 → hig M M1 → tlf M M1 → K (some (.int v)) M1) : ip_wp X 132 0 [.ref 0, .int i, .int j] [] M K := by
  have hi : ai_hi cx_407.2.2.2.2 = true := by decide +kernel
  have ht : ai_tl cx_407.2.2.2.2 = true := by decide +kernel
  refine vx_407 X M [.ref 0, .int i, .int j] K (a2_r (a2_i (a2_i (a2_n)))) hG hI (fun r M1 hr hG1 hI1 hf => ?_)
  obtain ⟨q, rfl⟩ := ar_i hr
  exact h q M1 hG1 hI1 (hig_of hi hf) (tlf_of ht hf)

theorem tx_product (X : ip_X) (M : ip_H) (K : Option Value → ip_H → Prop) (i : Int32) (j : Int32) (hG : ip_G M) (hI : ai_inv ai_Tb M) (h : ∀ v M1, ip_G M1 → ai_inv ai_Tb M1 → hig M M1 → tlf M M1 → K (some (.long v)) M1) : ip_wp X 133 0 [.ref 0, .int i, .int j] [] M K := by
  have hi : ai_hi cx_409.2.2.2.2 = true := by decide +kernel
  have ht : ai_tl cx_409.2.2.2.2 = true := by decide +kernel
  refine vx_409 X M [.ref 0, .int i, .int j] K (a2_r (a2_i (a2_i (a2_n)))) hG hI (fun r M1 hr hG1 hI1 hf => ?_)
  obtain ⟨q, rfl⟩ := ar_l hr
  exact h q M1 hG1 hI1 (hig_of hi hf) (tlf_of ht hf)

theorem tx_determinant (X : ip_X) (M : ip_H) (K : Option Value → ip_H → Prop)  (hG : ip_G M) (hI : ai_inv ai_Tb M) (h : ∀ v M1, ip_G M1 → ai_inv ai_Tb M1 → hig M M1 → tlf M M1 → K (some (.int v)) M1) : ip_wp X 134 0 [.ref 0] [] M K := by
  have hi : ai_hi cx_412.2.2.2.2 = true := by decide +kernel
  have ht : ai_tl cx_412.2.2.2.2 = true := by decide +kernel
  refine vx_412 X M [.ref 0] K (a2_r (a2_n)) hG hI (fun r M1 hr hG1 hI1 hf => ?_)
  obtain ⟨q, rfl⟩ := ar_i hr
  exact h q M1 hG1 hI1 (hig_of hi hf) (tlf_of ht hf)

theorem tx_bounds (X : ip_X) (M : ip_H) (K : Option Value → ip_H → Prop) (w : Int32) (x : Int32) (hG : ip_G M) (hI : ai_inv ai_Tb M) (h : ∀ v M1, ip_G M1 → ai_inv ai_Tb M1 → hig M M1 → tlf M M1 → K (some (.long v)) M1) : ip_wp X 135 0 [.ref 0, .int w, .int x] [] M K := by
  have hi : ai_hi cx_419.2.2.2.2 = true := by decide +kernel
  have ht : ai_tl cx_419.2.2.2.2 = true := by decide +kernel
  refine vx_419 X M [.ref 0, .int w, .int x] K (a2_r (a2_i (a2_i (a2_n)))) hG hI (fun r M1 hr hG1 hI1 hf => ?_)
  obtain ⟨q, rfl⟩ := ar_l hr
  exact h q M1 hG1 hI1 (hig_of hi hf) (tlf_of ht hf)

theorem tx_outer (X : ip_X) (M : ip_H) (K : Option Value → ip_H → Prop) (w : Int32) (x : Int32) (hG : ip_G M) (hI : ai_inv ai_Tb M) (h : ∀ v M1, ip_G M1 → ai_inv ai_Tb M1 → hig M M1 → tlf M M1 → K (some (.int v)) M1) : ip_wp X 136 0 [.ref 0, .int w, .int x] [] M K := by
  have hi : ai_hi cx_420.2.2.2.2 = true := by decide +kernel
  have ht : ai_tl cx_420.2.2.2.2 = true := by decide +kernel
  refine vx_420 X M [.ref 0, .int w, .int x] K (a2_r (a2_i (a2_i (a2_n)))) hG hI (fun r M1 hr hG1 hI1 hf => ?_)
  obtain ⟨q, rfl⟩ := ar_i hr
  exact h q M1 hG1 hI1 (hig_of hi hf) (tlf_of ht hf)

theorem tx_inverse (X : ip_X) (M : ip_H) (K : Option Value → ip_H → Prop) (i : Int32) (j : Int32) (hG : ip_G M) (hI : ai_inv ai_Tb M) (h : ∀ v M1, ip_G M1 → ai_inv ai_Tb M1 → hig M M1 → tlf M M1 → K (some (.long v)) M1) : ip_wp X 137 0 [.ref 0, .int i, .int j] [] M K := by
  have hi : ai_hi cx_422.2.2.2.2 = true := by decide +kernel
  have ht : ai_tl cx_422.2.2.2.2 = true := by decide +kernel
  refine vx_422 X M [.ref 0, .int i, .int j] K (a2_r (a2_i (a2_i (a2_n)))) hG hI (fun r M1 hr hG1 hI1 hf => ?_)
  obtain ⟨q, rfl⟩ := ar_l hr
  exact h q M1 hG1 hI1 (hig_of hi hf) (tlf_of ht hf)

theorem tx_side (X : ip_X) (M : ip_H) (K : Option Value → ip_H → Prop) (w : Int32) (i : Int32) (j : Int32) (hG : ip_G M) (hI : ai_inv ai_Tb M) (h : ∀ v M1, ip_G M1 → ai_inv ai_Tb M1 → hig M M1 → tlf M M1 → K (some (.int v)) M1) : ip_wp X 138 0 [.ref 0, .int w, .int i, .int j] [] M K := by
  have hi : ai_hi cx_424.2.2.2.2 = true := by decide +kernel
  have ht : ai_tl cx_424.2.2.2.2 = true := by decide +kernel
  refine vx_424 X M [.ref 0, .int w, .int i, .int j] K (a2_r (a2_i (a2_i (a2_i (a2_n))))) hG hI (fun r M1 hr hG1 hI1 hf => ?_)
  obtain ⟨q, rfl⟩ := ar_i hr
  exact h q M1 hG1 hI1 (hig_of hi hf) (tlf_of ht hf)

theorem tx_simplest (X : ip_X) (M : ip_H) (K : Option Value → ip_H → Prop) (w : Int32) (x : Int32) (hG : ip_G M) (hI : ai_inv ai_Tb M) (h : ∀ v M1, ip_G M1 → ai_inv ai_Tb M1 → hig M M1 → tlf M M1 → K (some (.long v)) M1) : ip_wp X 139 0 [.ref 0, .int w, .int x] [] M K := by
  have hi : ai_hi cx_426.2.2.2.2 = true := by decide +kernel
  have ht : ai_tl cx_426.2.2.2.2 = true := by decide +kernel
  refine vx_426 X M [.ref 0, .int w, .int x] K (a2_r (a2_i (a2_i (a2_n)))) hG hI (fun r M1 hr hG1 hI1 hf => ?_)
  obtain ⟨q, rfl⟩ := ar_l hr
  exact h q M1 hG1 hI1 (hig_of hi hf) (tlf_of ht hf)

theorem tx_shared (X : ip_X) (M : ip_H) (K : Option Value → ip_H → Prop) (x : Int32) (hG : ip_G M) (hI : ai_inv ai_Tb M) (h : ∀ v M1, ip_G M1 → ai_inv ai_Tb M1 → hig M M1 → tlf M M1 → K (some (.long v)) M1) : ip_wp X 140 0 [.ref 0, .int x] [] M K := by
  have hi : ai_hi cx_430.2.2.2.2 = true := by decide +kernel
  have ht : ai_tl cx_430.2.2.2.2 = true := by decide +kernel
  refine vx_430 X M [.ref 0, .int x] K (a2_r (a2_i (a2_n))) hG hI (fun r M1 hr hG1 hI1 hf => ?_)
  obtain ⟨q, rfl⟩ := ar_l hr
  exact h q M1 hG1 hI1 (hig_of hi hf) (tlf_of ht hf)

theorem tx_period (X : ip_X) (M : ip_H) (K : Option Value → ip_H → Prop) (i : Int32) (hG : ip_G M) (hI : ai_inv ai_Tb M) (h : ∀ v M1, ip_G M1 → ai_inv ai_Tb M1 → hig M M1 → tlf M M1 → K (some (.int v)) M1) : ip_wp X 141 0 [.ref 0, .int i] [] M K := by
  have hi : ai_hi cx_431.2.2.2.2 = true := by decide +kernel
  have ht : ai_tl cx_431.2.2.2.2 = true := by decide +kernel
  refine vx_431 X M [.ref 0, .int i] K (a2_r (a2_i (a2_n))) hG hI (fun r M1 hr hG1 hI1 hf => ?_)
  obtain ⟨q, rfl⟩ := ar_i hr
  exact h q M1 hG1 hI1 (hig_of hi hf) (tlf_of ht hf)

theorem tx_round (X : ip_X) (M : ip_H) (K : Option Value → ip_H → Prop) (i : Int32) (j : Int32) (hG : ip_G M) (hI : ai_inv ai_Tb M) (h : ∀ v M1, ip_G M1 → ai_inv ai_Tb M1 → hig M M1 → tlf M M1 → K (some (.long v)) M1) : ip_wp X 142 0 [.ref 0, .int i, .int j, .retAddr 1, .retAddr 1] [] M K := by
  have hi : ai_hi cx_433.2.2.2.2 = true := by decide +kernel
  have ht : ai_tl cx_433.2.2.2.2 = true := by decide +kernel
  refine vx_433 X M [.ref 0, .int i, .int j] K (a2_r (a2_i (a2_i (a2_n)))) hG hI (fun r M1 hr hG1 hI1 hf => ?_)
  obtain ⟨q, rfl⟩ := ar_l hr
  exact h q M1 hG1 hI1 (hig_of hi hf) (tlf_of ht hf)

theorem tx_unit (X : ip_X) (M : ip_H) (K : Option Value → ip_H → Prop) (i : Int32) (hG : ip_G M) (hI : ai_inv ai_Tb M) (h : ∀ v M1, ip_G M1 → ai_inv ai_Tb M1 → hig M M1 → tlf M M1 → K (some (.int v)) M1) : ip_wp X 143 0 [.ref 0, .int i] [] M K := by
  have hi : ai_hi cx_438.2.2.2.2 = true := by decide +kernel
  have ht : ai_tl cx_438.2.2.2.2 = true := by decide +kernel
  refine vx_438 X M [.ref 0, .int i] K (a2_r (a2_i (a2_n))) hG hI (fun r M1 hr hG1 hI1 hf => ?_)
  obtain ⟨q, rfl⟩ := ar_i hr
  exact h q M1 hG1 hI1 (hig_of hi hf) (tlf_of ht hf)

theorem tx_equation (X : ip_X) (M : ip_H) (K : Option Value → ip_H → Prop) (i : Int32) (hG : ip_G M) (hI : ai_inv ai_Tb M) (h : ∀ v M1, ip_G M1 → ai_inv ai_Tb M1 → hig M M1 → tlf M M1 → K (some (.long v)) M1) : ip_wp X 144 0 [.ref 0, .int i] [] M K := by
  have hi : ai_hi cx_439.2.2.2.2 = true := by decide +kernel
  have ht : ai_tl cx_439.2.2.2.2 = true := by decide +kernel
  refine vx_439 X M [.ref 0, .int i] K (a2_r (a2_i (a2_n))) hG hI (fun r M1 hr hG1 hI1 hf => ?_)
  obtain ⟨q, rfl⟩ := ar_l hr
  exact h q M1 hG1 hI1 (hig_of hi hf) (tlf_of ht hf)

theorem tx_isRelation (X : ip_X) (M : ip_H) (K : Option Value → ip_H → Prop) (k : Int32) (l : Int32) (m : Int32) (hG : ip_G M) (hI : ai_inv ai_Tb M) (h : ∀ v M1, ip_G M1 → ai_inv ai_Tb M1 → hig M M1 → tlf M M1 → K (some (.int v)) M1) : ip_wp X 145 0 [.ref 0, .int k, .int l, .int m] [] M K := by
  have hi : ai_hi cx_441.2.2.2.2 = true := by decide +kernel
  have ht : ai_tl cx_441.2.2.2.2 = true := by decide +kernel
  refine vx_441 X M [.ref 0, .int k, .int l, .int m] K (a2_r (a2_i (a2_i (a2_i (a2_n))))) hG hI (fun r M1 hr hG1 hI1 hf => ?_)
  obtain ⟨q, rfl⟩ := ar_i hr
  exact h q M1 hG1 hI1 (hig_of hi hf) (tlf_of ht hf)

theorem tx_relation (X : ip_X) (M : ip_H) (K : Option Value → ip_H → Prop) (n : Int32) (x : Int32) (hG : ip_G M) (hI : ai_inv ai_Tb M) (h : ∀ v M1, ip_G M1 → ai_inv ai_Tb M1 → hig M M1 → tlf M M1 → K (some (.int v)) M1) : ip_wp X 146 0 [.ref 0, .int n, .int x] [] M K := by
  have hi : ai_hi cx_444.2.2.2.2 = true := by decide +kernel
  have ht : ai_tl cx_444.2.2.2.2 = true := by decide +kernel
  refine vx_444 X M [.ref 0, .int n, .int x] K (a2_r (a2_i (a2_i (a2_n)))) hG hI (fun r M1 hr hG1 hI1 hf => ?_)
  obtain ⟨q, rfl⟩ := ar_i hr
  exact h q M1 hG1 hI1 (hig_of hi hf) (tlf_of ht hf)

theorem tx_word (X : ip_X) (M : ip_H) (K : Option Value → ip_H → Prop) (i : Int32) (j : Int32) (hG : ip_G M) (hI : ai_inv ai_Tb M) (h : ∀ v M1, ip_G M1 → ai_inv ai_Tb M1 → hig M M1 → tlf M M1 → K (some (.int v)) M1) : ip_wp X 147 0 [.ref 0, .int i, .int j] [] M K := by
  have hi : ai_hi cx_445.2.2.2.2 = true := by decide +kernel
  have ht : ai_tl cx_445.2.2.2.2 = true := by decide +kernel
  refine vx_445 X M [.ref 0, .int i, .int j] K (a2_r (a2_i (a2_i (a2_n)))) hG hI (fun r M1 hr hG1 hI1 hf => ?_)
  obtain ⟨q, rfl⟩ := ar_i hr
  exact h q M1 hG1 hI1 (hig_of hi hf) (tlf_of ht hf)

theorem tx_spelt (X : ip_X) (M : ip_H) (K : Option Value → ip_H → Prop) (i : Int32) (j : Int32) (hG : ip_G M) (hI : ai_inv ai_Tb M) (h : ∀ v M1, ip_G M1 → ai_inv ai_Tb M1 → hig M M1 → tlf M M1 → K (some (.long v)) M1) : ip_wp X 148 0 [.ref 0, .int i, .int j, .retAddr 1, .retAddr 1] [] M K := by
  have hi : ai_hi cx_446.2.2.2.2 = true := by decide +kernel
  have ht : ai_tl cx_446.2.2.2.2 = true := by decide +kernel
  refine vx_446 X M [.ref 0, .int i, .int j] K (a2_r (a2_i (a2_i (a2_n)))) hG hI (fun r M1 hr hG1 hI1 hf => ?_)
  obtain ⟨q, rfl⟩ := ar_l hr
  exact h q M1 hG1 hI1 (hig_of hi hf) (tlf_of ht hf)

theorem tx_asks (X : ip_X) (M : ip_H) (K : Option Value → ip_H → Prop) (x : Int32) (hG : ip_G M) (hI : ai_inv ai_Tb M) (h : ∀ v M1, ip_G M1 → ai_inv ai_Tb M1 → hig M M1 → tlf M M1 → K (some (.int v)) M1) : ip_wp X 149 0 [.ref 0, .int x] [] M K := by
  have hi : ai_hi cx_449.2.2.2.2 = true := by decide +kernel
  have ht : ai_tl cx_449.2.2.2.2 = true := by decide +kernel
  refine vx_449 X M [.ref 0, .int x] K (a2_r (a2_i (a2_n))) hG hI (fun r M1 hr hG1 hI1 hf => ?_)
  obtain ⟨q, rfl⟩ := ar_i hr
  exact h q M1 hG1 hI1 (hig_of hi hf) (tlf_of ht hf)

theorem tx_would (X : ip_X) (M : ip_H) (K : Option Value → ip_H → Prop) (i : Int32) (j : Int32) (w : Int32) (x : Int32) (hG : ip_G M) (hI : ai_inv ai_Tb M) (h : ∀ v M1, ip_G M1 → ai_inv ai_Tb M1 → hig M M1 → tlf M M1 → K (some (.int v)) M1) : ip_wp X 150 0 [.ref 0, .int i, .int j, .int w, .int x, .retAddr 1] [] M K := by
  have hi : ai_hi cx_508.2.2.2.2 = true := by decide +kernel
  have ht : ai_tl cx_508.2.2.2.2 = true := by decide +kernel
  refine vx_508 X M [.ref 0, .int i, .int j, .int w, .int x] K (a2_r (a2_i (a2_i (a2_i (a2_i (a2_n)))))) hG hI (fun r M1 hr hG1 hI1 hf => ?_)
  obtain ⟨q, rfl⟩ := ar_i hr
  exact h q M1 hG1 hI1 (hig_of hi hf) (tlf_of ht hf)

theorem tx_count (X : ip_X) (M : ip_H) (K : Option Value → ip_H → Prop) (x : Int32) (hG : ip_G M) (hI : ai_inv ai_Tb M) (h : ∀ v M1, ip_G M1 → ai_inv ai_Tb M1 → hig M M1 → tlf M M1 → K (some (.int v)) M1) : ip_wp X 151 0 [.ref 0, .int x] [] M K := by
  have hi : ai_hi cx_510.2.2.2.2 = true := by decide +kernel
  have ht : ai_tl cx_510.2.2.2.2 = true := by decide +kernel
  refine vx_510 X M [.ref 0, .int x] K (a2_r (a2_i (a2_n))) hG hI (fun r M1 hr hG1 hI1 hf => ?_)
  obtain ⟨q, rfl⟩ := ar_i hr
  exact h q M1 hG1 hI1 (hig_of hi hf) (tlf_of ht hf)

theorem tx_status (X : ip_X) (M : ip_H) (K : Option Value → ip_H → Prop)  (hG : ip_G M) (hI : ai_inv ai_Tb M) (h : ∀ v M1, ip_G M1 → ai_inv ai_Tb M1 → hig M M1 → tlf M M1 → K (some (.int v)) M1) : ip_wp X 152 0 [.ref 0] [] M K := by
  have hi : ai_hi cx_511.2.2.2.2 = true := by decide +kernel
  have ht : ai_tl cx_511.2.2.2.2 = true := by decide +kernel
  refine vx_511 X M [.ref 0] K (a2_r (a2_n)) hG hI (fun r M1 hr hG1 hI1 hf => ?_)
  obtain ⟨q, rfl⟩ := ar_i hr
  exact h q M1 hG1 hI1 (hig_of hi hf) (tlf_of ht hf)

set_option maxHeartbeats 40000000 in
set_option maxRecDepth 100000 in
theorem q_value (X : ip_X) (M : ip_H) (K : Option Value → ip_H → Prop) (i : Int32) (j : Int32) (hG : ip_G M) (g : Ri M) (h : ∀ v M1, vq M M1 → K (some (.int v)) M1) : ip_wp X 236 0 [.ref 108, .int i, .int j] [] M K := by
  have g0 := g
  obtain ⟨⟨ht, hm, ⟨f, hf, h32⟩, g4, g5, g6, g7⟩, gr, hn⟩ := g0
  have hq := rw_q3 gr
  have hpv := rw_prv gr
  have hpd := rw_prd gr
  obtain ⟨hF, hc, g3, hw, hV, ⟨wm, wm40, w8, wwd⟩, g9⟩ := gr
  exact o_236 X M K i j hG hq ht (fun v => h v M (vq_r M))

set_option maxHeartbeats 40000000 in
set_option maxRecDepth 100000 in
theorem q_matrix (X : ip_X) (M : ip_H) (K : Option Value → ip_H → Prop) (i : Int32) (j : Int32) (k : Int32) (hG : ip_G M) (g : Ri M) (h : ∀ v M1, vq M M1 → K (some (.long v)) M1) : ip_wp X 237 0 [.ref 108, .int i, .int j, .int k, .retAddr 1, .retAddr 1, .retAddr 1, .retAddr 1, .retAddr 1, .retAddr 1, .retAddr 1, .retAddr 1, .retAddr 1, .retAddr 1, .retAddr 1] [] M K := by
  have g0 := g
  obtain ⟨⟨ht, hm, ⟨f, hf, h32⟩, g4, g5, g6, g7⟩, gr, hn⟩ := g0
  have hq := rw_q3 gr
  have hpv := rw_prv gr
  have hpd := rw_prd gr
  obtain ⟨hF, hc, g3, hw, hV, ⟨wm, wm40, w8, wwd⟩, g9⟩ := gr
  exact o_237 X M K i j k hG ht (fun v => h v M (vq_r M))

set_option maxHeartbeats 40000000 in
set_option maxRecDepth 100000 in
theorem q_norm (X : ip_X) (M : ip_H) (K : Option Value → ip_H → Prop) (i : Int32) (j : Int32) (k : Int32) (hG : ip_G M) (g : Ri M) (h : ∀ v M1, vq M M1 → K (some (.long v)) M1) : ip_wp X 238 0 [.ref 108, .int i, .int j, .int k, .retAddr 1, .retAddr 1, .retAddr 1, .retAddr 1, .retAddr 1, .retAddr 1, .retAddr 1, .retAddr 1, .retAddr 1, .retAddr 1, .retAddr 1, .retAddr 1, .retAddr 1, .retAddr 1] [] M K := by
  have g0 := g
  obtain ⟨⟨ht, hm, ⟨f, hf, h32⟩, g4, g5, g6, g7⟩, gr, hn⟩ := g0
  have hq := rw_q3 gr
  have hpv := rw_prv gr
  have hpd := rw_prd gr
  obtain ⟨hF, hc, g3, hw, hV, ⟨wm, wm40, w8, wwd⟩, g9⟩ := gr
  exact o_238 X M K i j k hG hq ht (fun i hi => (hV i hi).2.2.2) (fun v => h v M (vq_r M))

set_option maxHeartbeats 40000000 in
set_option maxRecDepth 100000 in
theorem q_compare (X : ip_X) (M : ip_H) (K : Option Value → ip_H → Prop) (i : Int32) (j : Int32) (hG : ip_G M) (g : Ri M) (h : ∀ v M1, vq M M1 → K (some (.int v)) M1) : ip_wp X 239 0 [.ref 108, .int i, .int j, .retAddr 1, .retAddr 1, .retAddr 1, .retAddr 1] [] M K := by
  have g0 := g
  obtain ⟨⟨ht, hm, ⟨f, hf, h32⟩, g4, g5, g6, g7⟩, gr, hn⟩ := g0
  have hq := rw_q3 gr
  have hpv := rw_prv gr
  have hpd := rw_prd gr
  obtain ⟨hF, hc, g3, hw, hV, ⟨wm, wm40, w8, wwd⟩, g9⟩ := gr
  exact o_239 X M K i j hG hq ht (fun v => h v M (vq_r M))

set_option maxHeartbeats 40000000 in
set_option maxRecDepth 100000 in
theorem q_state (X : ip_X) (M : ip_H) (K : Option Value → ip_H → Prop) (k : Int32) (w : Int32) (j : Int32) (hG : ip_G M) (g : Ri M) (h : ∀ v M1, vq M M1 → K (some (.int v)) M1) : ip_wp X 240 0 [.ref 108, .int k, .int w, .int j, .retAddr 1] [] M K := by
  have g0 := g
  obtain ⟨⟨ht, hm, ⟨f, hf, h32⟩, g4, g5, g6, g7⟩, gr, hn⟩ := g0
  have hq := rw_q3 gr
  have hpv := rw_prv gr
  have hpd := rw_prd gr
  obtain ⟨hF, hc, g3, hw, hV, ⟨wm, wm40, w8, wwd⟩, g9⟩ := gr
  exact o_240 X M K k w j hG hq ht hc (fun v => h v M (vq_r M))

set_option maxHeartbeats 40000000 in
set_option maxRecDepth 100000 in
theorem q_digit (X : ip_X) (M : ip_H) (K : Option Value → ip_H → Prop) (i : Int32) (j : Int32) (hG : ip_G M) (g : Ri M) (h : ∀ v M1, vq M M1 → K (some (.int v)) M1) : ip_wp X 241 0 [.ref 108, .int i, .int j] [] M K := by
  have g0 := g
  obtain ⟨⟨ht, hm, ⟨f, hf, h32⟩, g4, g5, g6, g7⟩, gr, hn⟩ := g0
  have hq := rw_q3 gr
  have hpv := rw_prv gr
  have hpd := rw_prd gr
  obtain ⟨hF, hc, g3, hw, hV, ⟨wm, wm40, w8, wwd⟩, g9⟩ := gr
  exact o_241 X M K i j hG ht hc (fun v => h v M (vq_r M))

set_option maxHeartbeats 40000000 in
set_option maxRecDepth 100000 in
theorem q_product (X : ip_X) (M : ip_H) (K : Option Value → ip_H → Prop) (i : Int32) (j : Int32) (hG : ip_G M) (g : Ri M) (h : ∀ v M1, vq M M1 → K (some (.long v)) M1) : ip_wp X 242 0 [.ref 108, .int i, .int j] [] M K := by
  have g0 := g
  obtain ⟨⟨ht, hm, ⟨f, hf, h32⟩, g4, g5, g6, g7⟩, gr, hn⟩ := g0
  have hq := rw_q3 gr
  have hpv := rw_prv gr
  have hpd := rw_prd gr
  obtain ⟨hF, hc, g3, hw, hV, ⟨wm, wm40, w8, wwd⟩, g9⟩ := gr
  exact o_242 X M K i j hG ht (fun v => h v M (vq_r M))

set_option maxHeartbeats 40000000 in
set_option maxRecDepth 100000 in
theorem q_determinant (X : ip_X) (M : ip_H) (K : Option Value → ip_H → Prop)  (hG : ip_G M) (g : Ri M) (h : ∀ v M1, vq M M1 → K (some (.int v)) M1) : ip_wp X 245 0 [.ref 108] [] M K := by
  have g0 := g
  obtain ⟨⟨ht, hm, ⟨f, hf, h32⟩, g4, g5, g6, g7⟩, gr, hn⟩ := g0
  have hq := rw_q3 gr
  have hpv := rw_prv gr
  have hpd := rw_prd gr
  obtain ⟨hF, hc, g3, hw, hV, ⟨wm, wm40, w8, wwd⟩, g9⟩ := gr
  exact o_245 X M K hG ht hc (fun v => h v M (vq_r M))

set_option maxHeartbeats 40000000 in
set_option maxRecDepth 100000 in
theorem q_bounds (X : ip_X) (M : ip_H) (K : Option Value → ip_H → Prop) (w : Int32) (x : Int32) (hG : ip_G M) (g : Ri M) (h : ∀ v M1, vq M M1 → K (some (.long v)) M1) : ip_wp X 249 0 [.ref 108, .int w, .int x, .retAddr 1, .retAddr 1, .retAddr 1, .retAddr 1] [] M K := by
  have g0 := g
  obtain ⟨⟨ht, hm, ⟨f, hf, h32⟩, g4, g5, g6, g7⟩, gr, hn⟩ := g0
  have hq := rw_q3 gr
  have hpv := rw_prv gr
  have hpd := rw_prd gr
  obtain ⟨hF, hc, g3, hw, hV, ⟨wm, wm40, w8, wwd⟩, g9⟩ := gr
  exact o_249 X M K w x hG ht hn (fun v => h v M (vq_r M))

set_option maxHeartbeats 40000000 in
set_option maxRecDepth 100000 in
theorem q_outer (X : ip_X) (M : ip_H) (K : Option Value → ip_H → Prop) (w : Int32) (x : Int32) (hG : ip_G M) (g : Ri M) (h : ∀ v M1, vq M M1 → K (some (.int v)) M1) : ip_wp X 250 0 [.ref 108, .int w, .int x] [] M K := by
  have g0 := g
  obtain ⟨⟨ht, hm, ⟨f, hf, h32⟩, g4, g5, g6, g7⟩, gr, hn⟩ := g0
  have hq := rw_q3 gr
  have hpv := rw_prv gr
  have hpd := rw_prd gr
  obtain ⟨hF, hc, g3, hw, hV, ⟨wm, wm40, w8, wwd⟩, g9⟩ := gr
  exact o_250 X M K w x hG ht hn (fun v => h v M (vq_r M))

set_option maxHeartbeats 40000000 in
set_option maxRecDepth 100000 in
theorem q_inverse (X : ip_X) (M : ip_H) (K : Option Value → ip_H → Prop) (i : Int32) (j : Int32) (hG : ip_G M) (g : Ri M) (h : ∀ v M1, vq M M1 → K (some (.long v)) M1) : ip_wp X 253 0 [.ref 108, .int i, .int j] [] M K := by
  have g0 := g
  obtain ⟨⟨ht, hm, ⟨f, hf, h32⟩, g4, g5, g6, g7⟩, gr, hn⟩ := g0
  have hq := rw_q3 gr
  have hpv := rw_prv gr
  have hpd := rw_prd gr
  obtain ⟨hF, hc, g3, hw, hV, ⟨wm, wm40, w8, wwd⟩, g9⟩ := gr
  exact o_253 X M K i j hG ht hc (fun v => h v M (vq_r M))

set_option maxHeartbeats 40000000 in
set_option maxRecDepth 100000 in
theorem q_side (X : ip_X) (M : ip_H) (K : Option Value → ip_H → Prop) (w : Int32) (i : Int32) (j : Int32) (hG : ip_G M) (g : Ri M) (h : ∀ v M1, vq M M1 → K (some (.int v)) M1) : ip_wp X 254 0 [.ref 108, .int w, .int i, .int j, .retAddr 1] [] M K := by
  have g0 := g
  obtain ⟨⟨ht, hm, ⟨f, hf, h32⟩, g4, g5, g6, g7⟩, gr, hn⟩ := g0
  have hq := rw_q3 gr
  have hpv := rw_prv gr
  have hpd := rw_prd gr
  obtain ⟨hF, hc, g3, hw, hV, ⟨wm, wm40, w8, wwd⟩, g9⟩ := gr
  exact o_254 X M K w i j hG hq ht (fun v => h v M (vq_r M))

set_option maxHeartbeats 40000000 in
set_option maxRecDepth 100000 in
theorem q_simplest (X : ip_X) (M : ip_H) (K : Option Value → ip_H → Prop) (w : Int32) (x : Int32) (hG : ip_G M) (g : Ri M) (h : ∀ v M1, vq M M1 → K (some (.long v)) M1) : ip_wp X 256 0 [.ref 108, .int w, .int x] [] M K := by
  have g0 := g
  obtain ⟨⟨ht, hm, ⟨f, hf, h32⟩, g4, g5, g6, g7⟩, gr, hn⟩ := g0
  have hq := rw_q3 gr
  have hpv := rw_prv gr
  have hpd := rw_prd gr
  obtain ⟨hF, hc, g3, hw, hV, ⟨wm, wm40, w8, wwd⟩, g9⟩ := gr
  exact o_256 X M K w x hG ht hn (h _ M (vq_r M)) (fun F u d v => h v _ (vq_sm M F u d))

set_option maxHeartbeats 40000000 in
set_option maxRecDepth 100000 in
theorem q_shared (X : ip_X) (M : ip_H) (K : Option Value → ip_H → Prop) (x : Int32) (hG : ip_G M) (g : Ri M) (h : ∀ v M1, vq M M1 → K (some (.long v)) M1) : ip_wp X 259 0 [.ref 108, .int x, .retAddr 1, .retAddr 1, .retAddr 1, .retAddr 1, .retAddr 1, .retAddr 1] [] M K := by
  have g0 := g
  obtain ⟨⟨ht, hm, ⟨f, hf, h32⟩, g4, g5, g6, g7⟩, gr, hn⟩ := g0
  have hq := rw_q3 gr
  have hpv := rw_prv gr
  have hpd := rw_prd gr
  obtain ⟨hF, hc, g3, hw, hV, ⟨wm, wm40, w8, wwd⟩, g9⟩ := gr
  exact o_259 X M K x hG ht hn (fun v => h v M (vq_r M))

set_option maxHeartbeats 40000000 in
set_option maxRecDepth 100000 in
theorem q_period (X : ip_X) (M : ip_H) (K : Option Value → ip_H → Prop) (i : Int32) (hG : ip_G M) (g : Ri M) (h : ∀ v M1, vq M M1 → K (some (.int v)) M1) : ip_wp X 261 0 [.ref 108, .int i] [] M K := by
  have g0 := g
  obtain ⟨⟨ht, hm, ⟨f, hf, h32⟩, g4, g5, g6, g7⟩, gr, hn⟩ := g0
  have hq := rw_q3 gr
  have hpv := rw_prv gr
  have hpd := rw_prd gr
  obtain ⟨hF, hc, g3, hw, hV, ⟨wm, wm40, w8, wwd⟩, g9⟩ := gr
  exact o_261 X M K i hG ht (fun v => h v M (vq_r M))

set_option maxHeartbeats 40000000 in
set_option maxRecDepth 100000 in
theorem q_round (X : ip_X) (M : ip_H) (K : Option Value → ip_H → Prop) (i : Int32) (j : Int32) (hG : ip_G M) (g : Ri M) (h : ∀ v M1, vq M M1 → K (some (.long v)) M1) : ip_wp X 265 0 [.ref 108, .int i, .int j] [] M K := by
  have g0 := g
  obtain ⟨⟨ht, hm, ⟨f, hf, h32⟩, g4, g5, g6, g7⟩, gr, hn⟩ := g0
  have hq := rw_q3 gr
  have hpv := rw_prv gr
  have hpd := rw_prd gr
  obtain ⟨hF, hc, g3, hw, hV, ⟨wm, wm40, w8, wwd⟩, g9⟩ := gr
  exact o_265 X M K i j hG ht hpd hw (fun v => h v M (vq_r M)) (fun R S B v => h v _ (vq_rN M R S B))

set_option maxHeartbeats 40000000 in
set_option maxRecDepth 100000 in
theorem q_unit (X : ip_X) (M : ip_H) (K : Option Value → ip_H → Prop) (i : Int32) (hG : ip_G M) (g : Ri M) (h : ∀ v M1, vq M M1 → K (some (.int v)) M1) : ip_wp X 268 0 [.ref 108, .int i] [] M K := by
  have g0 := g
  obtain ⟨⟨ht, hm, ⟨f, hf, h32⟩, g4, g5, g6, g7⟩, gr, hn⟩ := g0
  have hq := rw_q3 gr
  have hpv := rw_prv gr
  have hpd := rw_prd gr
  obtain ⟨hF, hc, g3, hw, hV, ⟨wm, wm40, w8, wwd⟩, g9⟩ := gr
  exact o_268 X M K i hG ht hpv hw (fun v => h v M (vq_r M)) (fun R S B v => h v _ (vq_rN M R S B)) (fun R S B e f g1 k v => h v _ (vq_t (vq_rN M R S B) (vq_x4g _ _ _ _ _)))

set_option maxHeartbeats 40000000 in
set_option maxRecDepth 100000 in
theorem q_equation (X : ip_X) (M : ip_H) (K : Option Value → ip_H → Prop) (i : Int32) (hG : ip_G M) (g : Ri M) (h : ∀ v M1, vq M M1 → K (some (.long v)) M1) : ip_wp X 270 0 [.ref 108, .int i, .retAddr 1] [] M K := by
  have g0 := g
  obtain ⟨⟨ht, hm, ⟨f, hf, h32⟩, g4, g5, g6, g7⟩, gr, hn⟩ := g0
  have hq := rw_q3 gr
  have hpv := rw_prv gr
  have hpd := rw_prd gr
  obtain ⟨hF, hc, g3, hw, hV, ⟨wm, wm40, w8, wwd⟩, g9⟩ := gr
  exact o_270 X M K i hG ht hpd hw (fun v => h v M (vq_r M)) (fun R S B v => h v _ (vq_rN M R S B))

set_option maxHeartbeats 40000000 in
set_option maxRecDepth 100000 in
theorem q_isRelation (X : ip_X) (M : ip_H) (K : Option Value → ip_H → Prop) (k : Int32) (l : Int32) (m : Int32) (hG : ip_G M) (g : Ri M) (h : ∀ v M1, vq M M1 → K (some (.int v)) M1) : ip_wp X 272 0 [.ref 108, .int k, .int l, .int m] [] M K := by
  have g0 := g
  obtain ⟨⟨ht, hm, ⟨f, hf, h32⟩, g4, g5, g6, g7⟩, gr, hn⟩ := g0
  have hq := rw_q3 gr
  have hpv := rw_prv gr
  have hpd := rw_prd gr
  obtain ⟨hF, hc, g3, hw, hV, ⟨wm, wm40, w8, wwd⟩, g9⟩ := gr
  exact o_272 X M K k l m hG ht (fun v => h (ip_b v) M (vq_r M))

set_option maxHeartbeats 40000000 in
set_option maxRecDepth 100000 in
theorem q_relation (X : ip_X) (M : ip_H) (K : Option Value → ip_H → Prop) (n : Int32) (x : Int32) (hG : ip_G M) (g : Ri M) (h : ∀ v M1, vq M M1 → K (some (.int v)) M1) : ip_wp X 274 0 [.ref 108, .int n, .int x, .retAddr 1, .retAddr 1, .retAddr 1, .retAddr 1, .retAddr 1, .retAddr 1] [] M K := by
  have g0 := g
  obtain ⟨⟨ht, hm, ⟨f, hf, h32⟩, g4, g5, g6, g7⟩, gr, hn⟩ := g0
  have hq := rw_q3 gr
  have hpv := rw_prv gr
  have hpd := rw_prd gr
  obtain ⟨hF, hc, g3, hw, hV, ⟨wm, wm40, w8, wwd⟩, g9⟩ := gr
  exact o_274 X M K n x hG ht (fun v => h v M (vq_r M))

set_option maxHeartbeats 40000000 in
set_option maxRecDepth 100000 in
theorem q_word (X : ip_X) (M : ip_H) (K : Option Value → ip_H → Prop) (i : Int32) (j : Int32) (hG : ip_G M) (g : Ri M) (h : ∀ v M1, vq M M1 → K (some (.int v)) M1) : ip_wp X 275 0 [.ref 108, .int i, .int j] [] M K := by
  have g0 := g
  obtain ⟨⟨ht, hm, ⟨f, hf, h32⟩, g4, g5, g6, g7⟩, gr, hn⟩ := g0
  have hq := rw_q3 gr
  have hpv := rw_prv gr
  have hpd := rw_prd gr
  obtain ⟨hF, hc, g3, hw, hV, ⟨wm, wm40, w8, wwd⟩, g9⟩ := gr
  exact o_275 X M K i j hG ht wm wm40 w8 (fun v => h v M (vq_r M))

set_option maxHeartbeats 40000000 in
set_option maxRecDepth 100000 in
theorem q_spelt (X : ip_X) (M : ip_H) (K : Option Value → ip_H → Prop) (i : Int32) (j : Int32) (hG : ip_G M) (g : Ri M) (h : ∀ v M1, vq M M1 → K (some (.long v)) M1) : ip_wp X 276 0 [.ref 108, .int i, .int j, .retAddr 1] [] M K := by
  have g0 := g
  obtain ⟨⟨ht, hm, ⟨f, hf, h32⟩, g4, g5, g6, g7⟩, gr, hn⟩ := g0
  have hq := rw_q3 gr
  have hpv := rw_prv gr
  have hpd := rw_prd gr
  obtain ⟨hF, hc, g3, hw, hV, ⟨wm, wm40, w8, wwd⟩, g9⟩ := gr
  exact o_276 X M K i j hG ht wm wm40 w8 wwd (fun v => h v M (vq_r M)) (fun R S B v => h v _ (vq_rN M R S B))

set_option maxHeartbeats 40000000 in
set_option maxRecDepth 100000 in
theorem q_asks (X : ip_X) (M : ip_H) (K : Option Value → ip_H → Prop) (x : Int32) (hG : ip_G M) (g : Ri M) (h : ∀ v M1, vq M M1 → K (some (.int v)) M1) : ip_wp X 279 0 [.ref 108, .int x, .retAddr 1] [] M K := by
  have g0 := g
  obtain ⟨⟨ht, hm, ⟨f, hf, h32⟩, g4, g5, g6, g7⟩, gr, hn⟩ := g0
  have hq := rw_q3 gr
  have hpv := rw_prv gr
  have hpd := rw_prd gr
  obtain ⟨hF, hc, g3, hw, hV, ⟨wm, wm40, w8, wwd⟩, g9⟩ := gr
  exact o_279 X M K x hG ht wm wm40 w8 hc (fun v => h v M (vq_r M))

theorem rb_111 (L : ip_H) : (c_rb L).2.1 111 = L.2.1 111 := funext fun b => by
  unfold c_rb
  rw [ip_sL_I, ip_sI_I, if_neg (by decide)]
theorem rb_4 (L : ip_H) : (c_rb L).2.1 108 4 = L.2.1 108 4 := by
  unfold c_rb
  rw [ip_sL_I, ip_sI_I, if_neg (by decide)]
theorem bg_84 (M : ip_H) (i j : Nat) (w : Int32) : (c_bg M i j w).2.1 108 4 = M.2.1 108 4 := by
  unfold c_bg
  simp (decide := true) only [ip_uL_I, ip_uI_I, false_and, ↓reduceIte]
theorem dn1_84 (L : ip_H) (t : Bool) : (c_dn1 L t).2.1 108 4 = L.2.1 108 4 := by
  unfold c_dn1
  rw [c_lb_I _ _ _ _ (by omega)]
  unfold c_do
  rw [ip_sL_I, ip_sI_I, if_neg (by decide)]

set_option maxHeartbeats 40000000 in
set_option maxRecDepth 100000 in
theorem q_would (X : ip_X) (M : ip_H) (K : Option Value → ip_H → Prop) (i : Int32) (j : Int32) (w : Int32) (x : Int32) (hG : ip_G M) (g : Ri M) (h : ∀ v M1, vq M M1 → K (some (.int v)) M1) : ip_wp X 287 0 [.ref 108, .int i, .int j, .int w, .int x, .retAddr 1, .retAddr 1, .retAddr 1] [] M K := by
  have g0 := g
  obtain ⟨⟨ht, hm, ⟨f, hf, h32⟩, g4, g5, g6, g7⟩, gr, hn⟩ := g0
  have hq := rw_q3 gr
  have hpv := rw_prv gr
  have hpd := rw_prd gr
  obtain ⟨hF, hc, g3, hw, hV, ⟨wm, wm40, w8, wwd⟩, g9⟩ := gr
  refine o_287 X M K i j w x hG hq ht (h _ M (vq_r M)) ?_
  intro i' j' hi hj _ hb
  have ga : Ri (c_as M) := Ri_vis (vis_as M) rfl (as_110 M) g
  refine ⟨fun L => vis M L ∧ rw_ok (L.2.1 109) ∧ pr_ok (L.2.2.1 110) 9 ∧ ¬ L.2.1 109 3 = 0 ∧ L.2.1 126 = (c_as M).2.1 126 ∧ L.2.2.1 127 = (c_as M).2.2.1 127 ∧ L.2.1 111 = M.2.1 111 ∧ L.2.1 108 4 = M.2.1 108 4, ?_, ?_, ?_, ?_⟩
  · have gb := Ri_bg (w := w) hi hj (M := c_as M) (by rw [c_as_109]; exact hb) ga
    refine ⟨vis_t (vis_as M) (vis_bg _ _ _ _), gb.2.1, gb.2.2, ?_, ?_, ?_, bg_111 _ _ _ _, bg_84 _ _ _ _⟩
    · rw [bg_I]
      exact (by decide : ¬ (1 : Int32) = 0)
    · exact bg_126 _ _ _ _
    · exact bg_127 _ _ _ _
  · rintro L ⟨vL, l1, l2, l3, -⟩
    exact ⟨vis_G vL hG, l1.1, l1.2.1 l3⟩
  · rintro L L' v ⟨vL, l1, l2, l3, l4, l5, l6, l7⟩ s
    have e4 : L'.2.1 126 = (c_as M).2.1 126 := (funext fun b => s.2.2.1 126 b rfl).trans l4
    have e5 : L'.2.2.1 127 = (c_as M).2.2.1 127 := (funext fun b => s.2.2.2 127 b rfl).trans l5
    have vv : vis M (c_rb L') := vis_t vL (vis_t (vis_scr s) (vis_rb L'))
    refine h v _ ⟨vv, fun b hb => ?_, fun b hb => ?_, ?_, ?_⟩
    · rw [rb_row L' b hb, e4, as_126 M b hb]
    · rw [rb_110 L' b hb, e5, as_127 M b hb]
    · exact (rb_111 L').trans ((funext fun b => s.2.2.1 111 b rfl).trans l6)
    · exact (rb_4 L').trans ((s.2.2.1 108 4 rfl).trans l7)
  · rintro L L1 t ⟨vL, l1, l2, l3, l4, l5, l6, l7⟩ he s ht1
    have er := scr_row s
    have ep := scr_110 s
    have k1 : rw_ok (L1.2.1 109) := by rw [er]; exact l1
    have k2 : pr_ok (L1.2.2.1 110) 9 := by rw [ep]; exact l2
    have k3 : ¬ L1.2.1 109 3 = 0 := by rw [er]; exact l3
    have kd := rw_dn L1 t k1 k2 k3 (by rw [er]; exact he) (tried_row er.symm ep.symm ht1)
    have e4 : L1.2.1 126 = (c_as M).2.1 126 := (funext fun b => s.2.2.1 126 b rfl).trans l4
    have e5 : L1.2.2.1 127 = (c_as M).2.2.1 127 := (funext fun b => s.2.2.2 127 b rfl).trans l5
    refine ⟨vis_t vL (vis_t (vis_scr s) (vis_dn1 _ _)), kd.1, kd.2.1, by rw [kd.2.2]; exact k3, ?_, ?_, by rw [dn1_111]; exact (funext fun b => s.2.2.1 111 b rfl).trans l6, by rw [dn1_84]; exact (s.2.2.1 108 4 rfl).trans l7⟩
    · rw [dn1_126]; exact e4
    · rw [dn1_127]; exact e5

set_option maxHeartbeats 40000000 in
set_option maxRecDepth 100000 in
theorem q_count (X : ip_X) (M : ip_H) (K : Option Value → ip_H → Prop) (x : Int32) (hG : ip_G M) (g : Ri M) (h : ∀ v M1, vq M M1 → K (some (.int v)) M1) : ip_wp X 288 0 [.ref 108, .int x] [] M K := by
  have g0 := g
  obtain ⟨⟨ht, hm, ⟨f, hf, h32⟩, g4, g5, g6, g7⟩, gr, hn⟩ := g0
  have hq := rw_q3 gr
  have hpv := rw_prv gr
  have hpd := rw_prd gr
  obtain ⟨hF, hc, g3, hw, hV, ⟨wm, wm40, w8, wwd⟩, g9⟩ := gr
  exact o_288 X M K x hG hq ht hc (fun v => h v M (vq_r M)) (fun v => h v _ (vq_pm M))

set_option maxHeartbeats 40000000 in
set_option maxRecDepth 100000 in
theorem q_status (X : ip_X) (M : ip_H) (K : Option Value → ip_H → Prop)  (hG : ip_G M) (g : Ri M) (h : ∀ v M1, vq M M1 → K (some (.int v)) M1) : ip_wp X 289 0 [.ref 108] [] M K := by
  have g0 := g
  obtain ⟨⟨ht, hm, ⟨f, hf, h32⟩, g4, g5, g6, g7⟩, gr, hn⟩ := g0
  have hq := rw_q3 gr
  have hpv := rw_prv gr
  have hpd := rw_prd gr
  obtain ⟨hF, hc, g3, hw, hV, ⟨wm, wm40, w8, wwd⟩, g9⟩ := gr
  exact o_289 X M K hG ht (fun v => h v M (vq_r M))
