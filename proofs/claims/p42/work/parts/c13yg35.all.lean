-- ALL THAT STANDS BETWEEN TWO CALLS
def way01 (M : ip_H) : Prop := M.2.1 108 3 = 0 ∨ M.2.1 108 3 = 1
/-- the TAPE, alike -/
def cpt (M : ip_H) : Prop := M.2.1 19 2 = M.2.1 108 32 ∧ M.2.1 19 4 = M.2.1 108 33 ∧ ∀ f : Nat, f ≤ 200 → M.2.1 108 32 = Int32.ofNat f → tpc M M f
def Iv (M : ip_H) : Prop := ip_G M ∧ ai_inv ai_Tb M ∧ Ri M ∧ Rq M ∧ JJ M ∧ way01 M ∧ cpt M
theorem hig_way {M M1 : ip_H} (h : hig M M1) (w : way01 M) : way01 M1 := by
  unfold way01
  rw [(h 108 (by decide) (by decide)).1]
  exact w
/-- both calls leave the TAPE as it was -/
theorem cpt_2 {M M1 M2 : ip_H} (hh : hig M M1) (a2 : M1.2.1 19 2 = M.2.1 19 2) (a4 : M1.2.1 19 4 = M.2.1 19 4) (a20 : M1.2.1 20 = M.2.1 20) (l : low M1 M2) (b2 : M2.2.1 108 32 = M1.2.1 108 32) (b4 : M2.2.1 108 33 = M1.2.1 108 33) (b20 : M2.2.1 120 = M1.2.1 120) (c : cpt M) : cpt M2 := by
  have e8 := (hh 108 (by decide) (by decide)).1
  have e20 := (hh 120 (by decide) (by decide)).1
  refine ⟨?_, ?_, fun f hf e j hj => ?_⟩
  · rw [low_I l 19 (by decide), a2, b2, e8]; exact c.1
  · rw [low_I l 19 (by decide), a4, b4, e8]; exact c.2.1
  · rw [b2, e8] at e
    rw [low_I l 20 (by decide), a20, b20, e20]
    exact c.2.2 f hf e j hj
theorem Iv_act {M M1 M2 : ip_H} (hV : Iv M) (hG1 : ip_G M1) (hI1 : ai_inv ai_Tb M1) (hh : hig M M1) (a2 : M1.2.1 19 2 = M.2.1 19 2) (a4 : M1.2.1 19 4 = M.2.1 19 4) (a20 : M1.2.1 20 = M.2.1 20) (vx : vix M1 M2) (ri : Ri M2) (rq : Rq M2) (jj : JJ M2) : Iv M2 := by
  obtain ⟨-, -, -, -, -, w, c⟩ := hV
  refine ⟨vix_G vx hG1, ai_inv_low (vix_low vx) hI1, ri, rq, jj, ?_, cpt_2 hh a2 a4 a20 (vix_low vx) (vx.2.2.1 108 32 rfl) (vx.2.2.1 108 33 rfl) (funext fun b => vx.2.2.1 120 b rfl) c⟩
  have w1 := hig_way hh w
  unfold way01 at w1 ⊢
  rw [vx.2.2.1 108 3 rfl]
  exact w1
theorem Iv_tell {M M1 M2 : ip_H} (hV : Iv M) (hG1 : ip_G M1) (hI1 : ai_inv ai_Tb M1) (hh : hig M M1) (t : tlf M M1) (q : vq M1 M2) : Iv M2 := by
  have gi := Ri_hig hh hV.2.2.1
  exact Iv_act hV hG1 hI1 hh (by rw [t.1 19 (by decide)]) (by rw [t.1 19 (by decide)]) (t.1 20 (by decide)) (vix_vis q.1) (Ri_vq q gi) (Rq_vq q gi (Rq_hig hh hV.2.2.2.1)) (JJ_vq q gi (JJ_tl hh t hV.2.2.2.2.1))
/-- calls of the TAPE: all but it is as it was -/
theorem JJ_tape {M M1 : ip_H} (e : ∀ a, a < 80 → ¬ a = 19 → ¬ a = 20 → M1.2.1 a = M.2.1 a) (el : ∀ a, a < 108 → M1.2.2.1 a = M.2.2.1 a) (e8 : ∀ b, b = 3 ∨ b = 4 ∨ b = 12 → M1.2.1 108 b = M.2.1 108 b) (eR : ∀ a, a = 109 ∨ a = 111 ∨ a = 112 ∨ a = 113 ∨ a = 114 ∨ a = 117 → M1.2.1 a = M.2.1 a) (j : JJ M) : JJ M1 := by
  obtain ⟨n, hn, en, c, r, i, d, w⟩ := j
  have k : kR M1 = kR M := by unfold kR; rw [eR 112 (by omega)]
  have ir : iR M1 = iR M := by unfold iR; rw [eR 114 (by omega)]
  refine ⟨n, hn, ?_, ?_, ?_, ?_, ?_, ?_⟩
  · rw [e8 12 (by omega)]; exact en
  · rw [eR 109 (by omega)]
    exact cur_M (M := M) (fun x _ => by rw [e 1 (by omega) (by omega) (by omega)]) (fun i hi => el _ (by omega)) (by rw [e 17 (by omega) (by omega) (by omega)]) (e 18 (by omega) (by omega) (by omega)) (by rw [e 6 (by omega) (by omega) (by omega)]) (by rw [e 6 (by omega) (by omega) (by omega)]) (by rw [e 6 (by omega) (by omega) (by omega)]) (by rw [e 6 (by omega) (by omega) (by omega)]) (e 7 (by omega) (by omega) (by omega)) (e 8 (by omega) (by omega) (by omega)) (el 10 (by omega)) c
  · rw [k, eR 113 (by omega)]; exact rgC_M (M := M) (fun a ha => e a (by omega) (by omega) (by omega)) r
  · rw [eR 117 (by omega), ir]; exact igC_M (M := M) (fun a ha => e a (by omega) (by omega) (by omega)) i
  · rw [e8 4 (by omega), eR 111 (by omega)]; exact tdC_M (M := M) (fun a ha => e a (by omega) (by omega) (by omega)) d
  · rw [e 0 (by omega) (by omega) (by omega), e8 3 (by omega)]; exact w
theorem Rq_tape {M M1 : ip_H} (e8 : M1.2.1 108 12 = M.2.1 108 12) (eR : ∀ a, a = 109 ∨ a = 112 ∨ a = 114 ∨ a = 117 → M1.2.1 a = M.2.1 a) (eL : ∀ a, a = 110 ∨ a = 115 ∨ a = 116 → M1.2.2.1 a = M.2.2.1 a) (g : Rq M) : Rq M1 := by
  unfold Rq kR kP iR iP at *
  rw [e8, eR 109 (by omega), eR 112 (by omega), eR 114 (by omega), eR 117 (by omega), eL 110 (by omega), eL 115 (by omega), eL 116 (by omega)]
  exact g
