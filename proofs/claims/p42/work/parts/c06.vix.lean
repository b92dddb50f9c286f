-- WHAT A CALL LEAVES AS IT IS (reference)
def hxI (a b : Nat) : Bool := hvI a b || (a == 112 || (a == 113 || (a == 114 || (a == 117 || (a == 108 && b == 12)))))
def hxL (a b : Nat) : Bool := hvL a b || (a == 115 || a == 116)
/-- all but what only the reference's own later answers rest on -/
def vix (M M1 : ip_H) : Prop := M1.1 = M.1 ∧ M1.2.2.2 = M.2.2.2 ∧ (∀ a b, hxI a b = false → M1.2.1 a b = M.2.1 a b) ∧ ∀ a b, hxL a b = false → M1.2.2.1 a b = M.2.2.1 a b
theorem vix_r (M : ip_H) : vix M M := ⟨rfl, rfl, fun _ _ _ => rfl, fun _ _ _ => rfl⟩
theorem vix_t {M M1 M2 : ip_H} (h : vix M M1) (g : vix M1 M2) : vix M M2 := ⟨g.1.trans h.1, g.2.1.trans h.2.1, fun a b q => (g.2.2.1 a b q).trans (h.2.2.1 a b q), fun a b q => (g.2.2.2 a b q).trans (h.2.2.2 a b q)⟩
theorem vix_uI {M N : ip_H} {k j : Nat} {v : Int32} (h : vix M N) (q : hxI k j = true) : vix M (ip_uI N k j v) := by
  refine ⟨h.1, h.2.1, fun a b hab => ?_, h.2.2.2⟩
  rw [ip_uI_I, if_neg, h.2.2.1 a b hab]
  rintro ⟨rfl, rfl⟩
  rw [q] at hab
  cases hab
theorem vix_sI {M N : ip_H} {k : Nat} {f : Nat → Int32} (h : vix M N) (q : ∀ b, hxI k b = true) : vix M (ip_sI N k f) := by
  refine ⟨h.1, h.2.1, fun a b hab => ?_, h.2.2.2⟩
  rw [ip_sI_I, if_neg, h.2.2.1 a b hab]
  rintro rfl
  rw [q] at hab
  cases hab
theorem vix_sL {M N : ip_H} {k : Nat} {f : Nat → Int64} (h : vix M N) (q : ∀ b, hxL k b = true) : vix M (ip_sL N k f) := by
  refine ⟨h.1, h.2.1, h.2.2.1, fun a b hab => ?_⟩
  rw [ip_sL_L, if_neg, h.2.2.2 a b hab]
  rintro rfl
  rw [q] at hab
  cases hab
theorem hx_v {a b : Nat} (h : hxI a b = false) : hvI a b = false := by
  unfold hxI at h
  rw [Bool.or_eq_false_iff] at h
  exact h.1
theorem hx_l {a b : Nat} (h : hxL a b = false) : hvL a b = false := by
  unfold hxL at h
  rw [Bool.or_eq_false_iff] at h
  exact h.1
theorem vix_vis {M M1 : ip_H} (h : vis M M1) : vix M M1 := ⟨h.1, h.2.1, fun a b q => h.2.2.1 a b (hx_v q), fun a b q => h.2.2.2 a b (hx_l q)⟩
theorem vix_G {M M1 : ip_H} (h : vix M M1) (hG : ip_G M) : ip_G M1 := ⟨h.1.trans hG.1, fun k j a b => by rw [h.2.1]; exact hG.2 k j a b⟩
theorem vix_kp (M : ip_H) (w : Int32) (m : Nat) : vix M (c_kp M w m) := vix_uI (vix_uI (vix_sL (vix_sI (vix_r M) (fun _ => rfl)) (fun _ => rfl)) rfl) rfl
theorem vix_dn (M : ip_H) : vix M (c_dn M) := vix_uI (vix_sI (vix_sL (vix_sI (vix_r M) (fun _ => rfl)) (fun _ => rfl)) (fun _ => rfl)) rfl
theorem vix_ks (M : ip_H) (w : Int32) : vix M (c_ks M w) := by
  unfold c_ks
  split
  · exact vix_t (vix_dn M) (vix_kp _ _ _)
  · exact vix_kp _ _ _
theorem vix_bk (M : ip_H) (v : Int32) (m : Nat) : vix M (c_bk (ip_uI M 108 12 v) m) := vix_sL (vix_sI (vix_uI (vix_r M) rfl) (fun _ => rfl)) (fun _ => rfl)
theorem vix_im (M : ip_H) (m : Nat) : vix M (c_im M m) := vix_uI (vix_sL (vix_sI (vix_r M) (fun _ => rfl)) (fun _ => rfl)) rfl
theorem vix_bi (M : ip_H) (m : Nat) : vix M (c_bi M m) := vix_uI (vix_sL (vix_sI (vix_r M) (fun _ => rfl)) (fun _ => rfl)) rfl
theorem hx_lo {a b : Nat} (h : a < 108) : hxI a b = false ∧ hxL a b = false := by
  unfold hxI hxL hvI hvL
  simp only [Bool.or_eq_false_iff, Bool.and_eq_false_iff, beq_eq_false_iff_ne, ne_eq, decide_eq_false_iff_not]
  omega
/-- the class's cells -/
def low (M M1 : ip_H) : Prop := ∀ a, a < 108 → M1.2.1 a = M.2.1 a ∧ M1.2.2.1 a = M.2.2.1 a
theorem vix_low {M M1 : ip_H} (h : vix M M1) : low M M1 := fun a ha => ⟨funext fun b => h.2.2.1 a b (hx_lo ha).1, funext fun b => h.2.2.2 a b (hx_lo ha).2⟩
theorem dn1_eq {M L : ip_H} (e : L.2.1 109 = M.2.1 109) (t : Bool) : c_lb (c_do L (r_k (M.2.1 109)) t) (r_k (M.2.1 109) + 1) = c_dn1 L t := by
  unfold c_dn1
  rw [e]
theorem ks_tried {M M1 : ip_H} {w : Int32} (h : scr M M1) (ht : tried M M1) : tried (c_ks M1 w) (c_ks M1 w) := by
  have er : M.2.1 109 = (c_ks M1 w).2.1 109 := by rw [ks_row, scr_row h]
  have ep : M.2.2.1 110 = (c_ks M1 w).2.2.1 110 := by rw [ks_110, scr_110 h]
  refine tried_row er ep (tried_m ?_ ?_ ?_ ?_ ?_ ht)
  · exact c_ks_I M1 w 108 17 (by decide) (by decide) (by decide)
  · exact c_ks_I M1 w 108 18 (by decide) (by decide) (by decide)
  · exact c_ks_I M1 w 108 27 (by decide) (by decide) (by decide)
  · exact funext fun b => c_ks_L M1 w 118 b (by decide)
  · exact funext fun b => c_ks_I M1 w 119 b (by decide) (by decide) (by omega)
theorem vis_dn1 (L : ip_H) (t : Bool) : vis L (c_dn1 L t) := vis_t (vis_do _ _ _) (vis_lb _ _)
theorem Ri_dn1 {L : ip_H} {t : Bool} (g : Ri L) (h3 : ¬ L.2.1 109 3 = 0) (he : r_e (L.2.1 109) = false) (ht : tried L L) : Ri (c_dn1 L t) := by
  obtain ⟨a, b, -⟩ := rw_dn L t g.2.1 g.2.2 h3 he ht
  exact ⟨Rk_vis (vis_dn1 L t) g.1, a, b⟩
