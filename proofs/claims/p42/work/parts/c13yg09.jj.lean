-- ALL ROWS DETERMINED
def qk (N : Nat → Int32) (P : Nat → Int64) : Prop := q_ok N P ∧ (N 3 = 0 ∧ N 5 = 0 ∨ N 3 = 1)
theorem qk_c {N N' : Nat → Int32} {P P' : Nat → Int64} (h : ∀ b, b < 821 → N' b = N b) (hP : ∀ i, i < 9 → P' i = P i) (w : rw_ok N) (g : qk N P) : qk N' P' := by
  refine ⟨q_ok_c h hP (fun q => (w.2.1 q).2.1) g.1, ?_⟩
  rw [h 3 (by decide), h 5 (by decide)]
  exact g.2
def kR (M : ip_H) : Nat → Nat → Int32 := fun i b => M.2.1 112 (821 * i + b)
def kP (M : ip_H) : Nat → Nat → Int64 := fun i b => M.2.2.1 115 (9 * i + b)
def iR (M : ip_H) : Nat → Nat → Int32 := fun i b => M.2.1 114 (821 * i + b)
def iP (M : ip_H) : Nat → Nat → Int64 := fun i b => M.2.2.1 116 (9 * i + b)
def Rq (M : ip_H) : Prop := qk (M.2.1 109) (M.2.2.1 110) ∧ (∀ m, m < (M.2.1 108 12).toNatClampNeg → qk (kR M m) (kP M m)) ∧ ∀ m, m < 2 → ¬ M.2.1 117 m = 0 → qk (iR M m) (iP M m)
def pP (n : Nat) (R : Nat → Nat → Int64) (N : Nat → Int64) : Nat → Nat → Int64 := fun i => if n = 8 then (if i = 7 then N else R (i + 1)) else (if i = n then N else R i)
theorem Ri_n {M : ip_H} (g : Ri M) : ∃ n, n ≤ 8 ∧ M.2.1 108 12 = Int32.ofNat n := m8_ex g.1.2.1
theorem Ri_kR {M : ip_H} {n : Nat} (g : Ri M) (hn : n ≤ 8) (e : M.2.1 108 12 = Int32.ofNat n) {i : Nat} (hi : i < n) : rw_ok (kR M i) := g.1.2.2.2.1 i (by rw [e, ip_nc _ (by omega)]; exact hi)
theorem Ri_iR {M : ip_H} (g : Ri M) {k : Nat} (hk : k < 2) (h : ¬ M.2.1 117 k = 0) : rw_ok (iR M k) := g.1.2.2.2.2.2.1 k hk h
theorem pn_8 {n : Nat} (h : n ≤ 8) : pn n ≤ 8 := by unfold pn; split <;> omega
theorem ks_n {M : ip_H} {w : Int32} {n : Nat} (hn : n ≤ 8) (e : M.2.1 108 12 = Int32.ofNat n) : (c_ks M w).2.1 108 12 = Int32.ofNat (pn n) := by
  unfold c_ks pn
  by_cases h8 : n = 8
  · subst h8
    rw [if_pos (e.trans (by decide)), if_pos rfl, kp_I, if_pos ⟨rfl, rfl⟩]
  · have ne : ¬ M.2.1 108 12 = 8 := by
      rw [e, show (8 : Int32) = Int32.ofNat 8 from rfl, ip_neq _ _ (by omega) (by decide)]
      exact h8
    rw [if_neg ne, if_neg h8, kp_I, if_pos ⟨rfl, rfl⟩, e, ip_nc _ (by omega)]
theorem ks_R {M : ip_H} {w : Int32} {n : Nat} (hn : n ≤ 8) (e : M.2.1 108 12 = Int32.ofNat n) {i : Nat} (hi : i < pn n) {x : Nat} (hx : x < 821) : kR (c_ks M w) i x = pR n (kR M) (M.2.1 109) i x := by
  unfold kR c_ks pR
  unfold pn at hi
  by_cases h8 : n = 8
  · subst h8
    rw [if_pos rfl] at hi
    rw [if_pos (e.trans (by decide)), if_pos rfl, kp_I, if_neg (by omega), if_neg (by omega), if_pos rfl]
    by_cases i7 : i = 7
    · subst i7
      rw [if_pos rfl, c_cp_in _ _ _ _ _ _ hx, Nat.zero_add, dn_Ia _ 109 (by decide) (by decide) (by decide)]
    · rw [if_neg i7, c_cp_out _ _ _ _ _ _ (by omega), dn_I, if_neg (by omega), if_neg (by omega), if_pos rfl]
      unfold c_cp
      rw [if_pos (by omega)]
      exact congrArg (M.2.1 112) (by omega)
  · have ne : ¬ M.2.1 108 12 = 8 := by
      rw [e, show (8 : Int32) = Int32.ofNat 8 from rfl, ip_neq _ _ (by omega) (by decide)]
      exact h8
    rw [if_neg h8] at hi
    rw [if_neg ne, if_neg h8, kp_I, if_neg (by omega), if_neg (by omega), if_pos rfl, e, ip_nc _ (by omega)]
    by_cases i7 : i = n
    · subst i7
      rw [if_pos rfl, c_cp_in _ _ _ _ _ _ hx, Nat.zero_add]
    · rw [if_neg i7, c_cp_out _ _ _ _ _ _ (by omega)]
theorem ks_P {M : ip_H} {w : Int32} {n : Nat} (hn : n ≤ 8) (e : M.2.1 108 12 = Int32.ofNat n) {i : Nat} (hi : i < pn n) {x : Nat} (hx : x < 9) : kP (c_ks M w) i x = pP n (kP M) (M.2.2.1 110) i x := by
  unfold kP c_ks pP
  unfold pn at hi
  by_cases h8 : n = 8
  · subst h8
    rw [if_pos rfl] at hi
    rw [if_pos (e.trans (by decide)), if_pos rfl, kp_L, if_pos rfl]
    by_cases i7 : i = 7
    · subst i7
      rw [if_pos rfl, c_cp_in _ _ _ _ _ _ hx, Nat.zero_add, dn_La _ 110 (by decide)]
    · rw [if_neg i7, c_cp_out _ _ _ _ _ _ (by omega), dn_L, if_pos rfl]
      unfold c_cp
      rw [if_pos (by omega)]
      exact congrArg (M.2.2.1 115) (by omega)
  · have ne : ¬ M.2.1 108 12 = 8 := by
      rw [e, show (8 : Int32) = Int32.ofNat 8 from rfl, ip_neq _ _ (by omega) (by decide)]
      exact h8
    rw [if_neg h8] at hi
    rw [if_neg ne, if_neg h8, kp_L, if_pos rfl, e, ip_nc _ (by omega)]
    by_cases i7 : i = n
    · subst i7
      rw [if_pos rfl, c_cp_in _ _ _ _ _ _ hx, Nat.zero_add]
    · rw [if_neg i7, c_cp_out _ _ _ _ _ _ (by omega)]
theorem ks_W {M : ip_H} {w : Int32} {n : Nat} (hn : n ≤ 8) (e : M.2.1 108 12 = Int32.ofNat n) {i : Nat} (hi : i < pn n) : (c_ks M w).2.1 113 i = pW n (M.2.1 113) w i := by
  unfold c_ks pW
  unfold pn at hi
  by_cases h8 : n = 8
  · subst h8
    rw [if_pos rfl] at hi
    rw [if_pos (e.trans (by decide)), if_pos rfl, kp_I, if_neg (by omega)]
    by_cases i7 : i = 7
    · subst i7
      rw [if_pos rfl, if_pos ⟨rfl, rfl⟩]
    · rw [if_neg i7, if_neg (by omega), if_neg (by omega), dn_I, if_neg (by omega), if_pos rfl]
      unfold c_cp
      rw [if_pos (by omega)]
      exact congrArg (M.2.1 113) (by omega)
  · have ne : ¬ M.2.1 108 12 = 8 := by
      rw [e, show (8 : Int32) = Int32.ofNat 8 from rfl, ip_neq _ _ (by omega) (by decide)]
      exact h8
    rw [if_neg h8] at hi
    rw [if_neg ne, if_neg h8, kp_I, if_neg (by omega), e, ip_nc _ (by omega)]
    by_cases i7 : i = n
    · subst i7
      rw [if_pos rfl, if_pos ⟨rfl, rfl⟩]
    · rw [if_neg i7, if_neg (by omega), if_neg (by omega)]
/-- the kept rows behind an act can be -/
theorem pR_ok {M : ip_H} {n : Nat} (g : Ri M) (hn : n ≤ 8) (e : M.2.1 108 12 = Int32.ofNat n) {i : Nat} (hi : i < pn n) : rw_ok (pR n (kR M) (M.2.1 109) i) := by
  unfold pR
  unfold pn at hi
  by_cases h8 : n = 8
  · subst h8
    rw [if_pos rfl] at hi ⊢
    by_cases i7 : i = 7
    · rw [if_pos i7]; exact g.2.1
    · rw [if_neg i7]; exact Ri_kR g hn e (by omega)
  · rw [if_neg h8] at hi ⊢
    by_cases i7 : i = n
    · rw [if_pos i7]; exact g.2.1
    · rw [if_neg i7]; exact Ri_kR g hn e (by omega)
theorem pR_qk {M : ip_H} {n : Nat} (g : Rq M) (hn : n ≤ 8) (e : M.2.1 108 12 = Int32.ofNat n) {i : Nat} (hi : i < pn n) : qk (pR n (kR M) (M.2.1 109) i) (pP n (kP M) (M.2.2.1 110) i) := by
  have gk : ∀ i, i < n → qk (kR M i) (kP M i) := fun i hi => g.2.1 i (by rw [e, ip_nc _ (by omega)]; exact hi)
  unfold pR pP
  unfold pn at hi
  by_cases h8 : n = 8
  · subst h8
    rw [if_pos rfl] at hi ⊢
    rw [if_pos rfl]
    by_cases i7 : i = 7
    · rw [if_pos i7, if_pos i7]; exact g.1
    · rw [if_neg i7, if_neg i7]; exact gk _ (by omega)
  · rw [if_neg h8] at hi ⊢
    rw [if_neg h8]
    by_cases i7 : i = n
    · rw [if_pos i7, if_pos i7]; exact g.1
    · rw [if_neg i7, if_neg i7]; exact gk _ (by omega)
/-- an act: all rows are determined -/
theorem rq_act {M M2 : ip_H} {w : Int32} (v : vis (c_ks M w) M2) (gi : Ri M) (g : Rq M) (h : qk (M2.2.1 109) (M2.2.2.1 110)) : Rq M2 := by
  obtain ⟨n, hn, e⟩ := Ri_n gi
  refine ⟨h, fun m hm => ?_, fun m hm hq => ?_⟩
  · rw [v.2.2.1 108 12 rfl, ks_n hn e, ip_nc _ (by have := pn_8 hn; omega)] at hm
    refine qk_c (fun b hb => ?_) (fun b hb => ?_) (pR_ok gi hn e hm) (pR_qk g hn e hm)
    · exact (v.2.2.1 112 _ rfl).trans (ks_R hn e hm hb)
    · exact (v.2.2.2 115 _ rfl).trans (ks_P hn e hm hb)
  · have e7 : M2.2.1 117 = M.2.1 117 := (vis_I v 117 (fun _ => rfl)).trans (funext fun b => c_ks_I M w 117 b (by decide) (by decide) (by omega))
    have e4 : M2.2.1 114 = M.2.1 114 := (vis_I v 114 (fun _ => rfl)).trans (funext fun b => c_ks_I M w 114 b (by decide) (by decide) (by omega))
    have e6 : M2.2.2.1 116 = M.2.2.1 116 := (vis_L v 116 (fun _ => rfl)).trans (funext fun b => c_ks_L M w 116 b (by decide))
    rw [e7] at hq
    have q := g.2.2 m hm hq
    unfold iR iP at q ⊢
    rw [e4, e6]
    exact q
/-- a refusal, what is only told: all rows are determined -/
theorem rq_vis {M M2 : ip_H} (v : vis M M2) (e1 : M2.2.1 109 = M.2.1 109) (e2 : M2.2.2.1 110 = M.2.2.1 110) (g : Rq M) : Rq M2 := by
  have e7 := vis_I v 117 (fun _ => rfl)
  have e4 := vis_I v 114 (fun _ => rfl)
  have e6 := vis_L v 116 (fun _ => rfl)
  have e112 := vis_I v 112 (fun _ => rfl)
  have e115 := vis_L v 115 (fun _ => rfl)
  unfold Rq kR kP iR iP at *
  rw [e1, e2, e7, e4, e6, e112, e115, v.2.2.1 108 12 rfl]
  exact g
-- TOGETHER
/-- class and reference hold the same -/
def JJ (M : ip_H) : Prop := ∃ n, n ≤ 8 ∧ M.2.1 108 12 = Int32.ofNat n ∧ cur M (M.2.1 109) ∧ rgC M n (kR M) (M.2.1 113) ∧ igC M (M.2.1 117) (iR M) ∧ tdC M (M.2.1 108 4) (M.2.1 111) ∧ M.2.1 0 7 = M.2.1 108 3
theorem low_I {M M1 : ip_H} (h : low M M1) (a : Nat) (ha : a < 108) : M1.2.1 a = M.2.1 a := (h a ha).1
theorem low_cur {M M1 : ip_H} {N : Nat → Int32} (h : low M M1) (c : cur M N) : cur M1 N :=
  cur_M (fun x _ => by rw [(h 1 (by decide)).1]) (fun i hi => (h (102 + i) (by omega)).2) (by rw [(h 17 (by decide)).1]) ((h 18 (by decide)).1) (by rw [(h 6 (by decide)).1]) (by rw [(h 6 (by decide)).1]) (by rw [(h 6 (by decide)).1]) (by rw [(h 6 (by decide)).1]) ((h 7 (by decide)).1) ((h 8 (by decide)).1) ((h 10 (by decide)).2) c
theorem jj_act {M M1 M2 : ip_H} {n : Nat} {w : Int32} (hg : hig M M1) (l : low M1 M2) (v : vis (c_ks M1 w) M2) (gi : Ri M) (hn : n ≤ 8) (e : M.2.1 108 12 = Int32.ofNat n) (cc : cur M1 (M2.2.1 109)) (rr : rgC M1 (pn n) (pR n (kR M) (M.2.1 109)) (pW n (M.2.1 113) w)) (ii : igC M1 (M.2.1 117) (iR M)) (tt : tdC M1 0 (M.2.1 111)) (e4 : M2.2.1 108 4 = 0) (e111 : M2.2.1 111 = M.2.1 111) (ww : M1.2.1 0 7 = M.2.1 108 3) : JJ M2 := by
  have e8 := (hg 108 (by decide) (by decide)).1
  have e9 := (hg 109 (by decide) (by decide)).1
  have e12 := (hg 112 (by decide) (by decide)).1
  have e13 := (hg 113 (by decide) (by decide)).1
  have e14 := (hg 114 (by decide) (by decide)).1
  have e17 := (hg 117 (by decide) (by decide)).1
  have en : M1.2.1 108 12 = Int32.ofNat n := by rw [e8]; exact e
  have ek : kR M1 = kR M := by unfold kR; rw [e12]
  refine ⟨pn n, pn_8 hn, (v.2.2.1 108 12 rfl).trans (ks_n hn en), low_cur l cc, ?_, ?_, ?_, ?_⟩
  · refine rgC_M (M := M1) (fun a ha => low_I l a (by omega)) (rgC_R (R := pR n (kR M) (M.2.1 109)) (W := pW n (M.2.1 113) w) (fun i hi x hx => ?_) (fun i hi => ?_) (fun i hi => wlen_40 (pR_ok gi hn e hi)) rr)
    · rw [← ek, ← e9]
      exact (v.2.2.1 112 _ rfl).trans (ks_R hn en hi hx)
    · rw [← e13]
      exact (v.2.2.1 113 i rfl).trans (ks_W hn en hi)
  · have f7 : M2.2.1 117 = M.2.1 117 := ((vis_I v 117 (fun _ => rfl)).trans (funext fun b => c_ks_I M1 w 117 b (by decide) (by decide) (by omega))).trans e17
    have f4 : M2.2.1 114 = M.2.1 114 := ((vis_I v 114 (fun _ => rfl)).trans (funext fun b => c_ks_I M1 w 114 b (by decide) (by decide) (by omega))).trans e14
    have f4' : iR M2 = iR M := by unfold iR; rw [f4]
    rw [f7, f4']
    exact igC_M (M := M1) (fun a ha => low_I l a (by omega)) ii
  · rw [e4, e111]
    exact tdC_M (M := M1) (fun a ha => low_I l a (by omega)) tt
  · rw [low_I l 0 (by decide), ww, v.2.2.1 108 3 rfl, c_ks_I M1 w 108 3 (by decide) (by decide) (by decide), e8]
/-- what only tells, or is refused -/
theorem jj_vis {M M1 M2 : ip_H} {n : Nat} (hg : hig M M1) (l : low M1 M2) (v : vis M1 M2) (hn : n ≤ 8) (e : M.2.1 108 12 = Int32.ofNat n) (e9' : M2.2.1 109 = M1.2.1 109) (cc : cur M1 (M.2.1 109)) (rr : rgC M1 n (kR M) (M.2.1 113)) (ii : igC M1 (M.2.1 117) (iR M)) (tt : tdC M1 (M2.2.1 108 4) (M2.2.1 111)) (ww : M1.2.1 0 7 = M.2.1 108 3) : JJ M2 := by
  have e8 := (hg 108 (by decide) (by decide)).1
  have e9 := (hg 109 (by decide) (by decide)).1
  have e12 := (hg 112 (by decide) (by decide)).1
  have e13 := (hg 113 (by decide) (by decide)).1
  have e14 := (hg 114 (by decide) (by decide)).1
  have e17 := (hg 117 (by decide) (by decide)).1
  have f12 : kR M2 = kR M := by unfold kR; rw [vis_I v 112 (fun _ => rfl), e12]
  have f14 : iR M2 = iR M := by unfold iR; rw [vis_I v 114 (fun _ => rfl), e14]
  refine ⟨n, hn, ?_, ?_, ?_, ?_, ?_, ?_⟩
  · rw [v.2.2.1 108 12 rfl, e8]; exact e
  · rw [e9', e9]; exact low_cur l cc
  · rw [f12, vis_I v 113 (fun _ => rfl), e13]
    exact rgC_M (M := M1) (fun a ha => low_I l a (by omega)) rr
  · rw [f14, vis_I v 117 (fun _ => rfl), e17]
    exact igC_M (M := M1) (fun a ha => low_I l a (by omega)) ii
  · exact tdC_M (M := M1) (fun a ha => low_I l a (by omega)) tt
  · rw [low_I l 0 (by decide), ww, v.2.2.1 108 3 rfl, e8]
