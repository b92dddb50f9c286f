-- WAY, FEED, END, READ (reference) between two calls
def hyI (a b : Nat) : Bool := hxI a b || (a == 120 || (a == 108 && (b == 32 || b == 33)))
/-- as vix; the TAPE apart -/
def vit (M M1 : ip_H) : Prop := M1.1 = M.1 ∧ M1.2.2.2 = M.2.2.2 ∧ (∀ a b, hyI a b = false → M1.2.1 a b = M.2.1 a b) ∧ ∀ a b, hxL a b = false → M1.2.2.1 a b = M.2.2.1 a b
theorem hy_x {a b : Nat} (h : hyI a b = false) : hxI a b = false := by
  unfold hyI at h
  rw [Bool.or_eq_false_iff] at h
  exact h.1
theorem vit_r (M : ip_H) : vit M M := ⟨rfl, rfl, fun _ _ _ => rfl, fun _ _ _ => rfl⟩
theorem vit_t {M M1 M2 : ip_H} (h : vit M M1) (g : vit M1 M2) : vit M M2 := ⟨g.1.trans h.1, g.2.1.trans h.2.1, fun a b q => (g.2.2.1 a b q).trans (h.2.2.1 a b q), fun a b q => (g.2.2.2 a b q).trans (h.2.2.2 a b q)⟩
theorem vit_x {M M1 : ip_H} (h : vix M M1) : vit M M1 := ⟨h.1, h.2.1, fun a b q => h.2.2.1 a b (hy_x q), h.2.2.2⟩
theorem vit_uI {M N : ip_H} {k j : Nat} {v : Int32} (h : vit M N) (q : hyI k j = true) : vit M (ip_uI N k j v) := by
  refine ⟨h.1, h.2.1, fun a b hab => ?_, h.2.2.2⟩
  rw [ip_uI_I, if_neg, h.2.2.1 a b hab]
  rintro ⟨rfl, rfl⟩
  rw [q] at hab
  cases hab
theorem vit_G {M M1 : ip_H} (h : vit M M1) (hG : ip_G M) : ip_G M1 := ⟨h.1.trans hG.1, fun k j a b => by rw [h.2.1]; exact hG.2 k j a b⟩
theorem hy_lo {a b : Nat} (h : a < 108) : hyI a b = false := by
  unfold hyI
  rw [(hx_lo (b := b) h).1, Bool.false_or]
  simp only [Bool.or_eq_false_iff, Bool.and_eq_false_iff, beq_eq_false_iff_ne, ne_eq]
  omega
theorem vit_low {M M1 : ip_H} (h : vit M M1) : low M M1 := fun a ha => ⟨funext fun b => h.2.2.1 a b (hy_lo ha), funext fun b => h.2.2.2 a b (hx_lo ha).2⟩
theorem vit_t4 (M : ip_H) (f : Nat) (x : Int32) : vit M (c_t4 M f x) := vit_uI (vit_uI (vit_uI (vit_uI (vit_uI (vit_uI (vit_uI (vit_uI (vit_r M) rfl) rfl) rfl) rfl) rfl) rfl) rfl) rfl
/-- the TAPE's length another one -/
theorem Ri_tp {M M1 : ip_H} (h : vit M M1) (e1 : M1.2.1 109 = M.2.1 109) (e2 : M1.2.2.1 110 = M.2.2.1 110) (e3 : M1.2.1 108 12 = M.2.1 108 12) (e4 : M1.2.1 112 = M.2.1 112) (e5 : M1.2.1 114 = M.2.1 114) (e6 : M1.2.1 117 = M.2.1 117) (e7 : M1.2.2.1 115 = M.2.2.1 115) (e8 : M1.2.2.1 116 = M.2.2.1 116) (f : Nat) (hf : f ≤ 200) (e9 : M1.2.1 108 32 = Int32.ofNat f) (g : Ri M) : Ri M1 := by
  obtain ⟨⟨g1, g2, g3, g4, g5, g6, g7⟩, g8, g9⟩ := g
  unfold Ri Rk
  rw [h.2.2.1 108 0 rfl, e1, e2, e3, e4, e5, e6, e7, e8]
  exact ⟨⟨g1, g2, ⟨f, hf, e9⟩, g4, g5, g6, g7⟩, g8, g9⟩
theorem t4_I (M : ip_H) (f : Nat) (x : Int32) (a b : Nat) (h : ¬ a = 120) (h2 : ¬ (a = 108 ∧ b = 32)) : (c_t4 M f x).2.1 a b = M.2.1 a b := by
  unfold c_t4
  rw [ip_uI_I, if_neg h2, ip_uI_I, if_neg (by omega), ip_uI_I, if_neg h2, ip_uI_I, if_neg (by omega), ip_uI_I, if_neg h2, ip_uI_I, if_neg (by omega), ip_uI_I, if_neg h2, ip_uI_I, if_neg (by omega)]
theorem t4_Ia (M : ip_H) (f : Nat) (x : Int32) (a : Nat) (h : ¬ a = 120) (h2 : ¬ a = 108) : (c_t4 M f x).2.1 a = M.2.1 a := funext fun b => t4_I M f x a b h (by omega)
theorem Ri_t4 {M : ip_H} {f : Nat} {x : Int32} (hf : f + 4 ≤ 200) (g : Ri M) : Ri (c_t4 M f x) :=
  Ri_tp (vit_t4 M f x) (t4_Ia _ _ _ _ (by decide) (by decide)) rfl (t4_I _ _ _ _ _ (by decide) (by decide)) (t4_Ia _ _ _ _ (by decide) (by decide)) (t4_Ia _ _ _ _ (by decide) (by decide)) (t4_Ia _ _ _ _ (by decide) (by decide)) rfl rfl (f + 4) hf (c_t4_32 M f x) g
theorem rD_row (M : ip_H) (D : Nat → Int32) (s : rd_S) (v : Int32) (a b : Nat) (h1 : ¬ a = 108) (h2 : ¬ a = 121) : (ip_uI (c_rD (c_r0 M) D s) 108 33 v).2.1 a b = M.2.1 a b := by
  unfold c_rD c_rs c_r0
  rw [ip_uI_I, if_neg (by omega), ip_uI_I, if_neg (by omega), ip_uI_I, if_neg (by omega), ip_uI_I, if_neg (by omega), ip_uI_I, if_neg (by omega), ip_sI_I, if_neg h2, ip_uI_I, if_neg (by omega), ip_uI_I, if_neg (by omega)]
theorem rD_108 (M : ip_H) (D : Nat → Int32) (s : rd_S) (v : Int32) : (ip_uI (c_rD (c_r0 M) D s) 108 33 v).2.1 108 12 = M.2.1 108 12 ∧ (ip_uI (c_rD (c_r0 M) D s) 108 33 v).2.1 108 32 = 0 := by
  unfold c_rD c_rs c_r0
  constructor
  · rw [ip_uI_I, if_neg (by omega), ip_uI_I, if_neg (by omega), ip_uI_I, if_neg (by omega), ip_uI_I, if_neg (by omega), ip_uI_I, if_neg (by omega), ip_sI_I, if_neg (by omega), ip_uI_I, if_neg (by omega), ip_uI_I, if_neg (by omega)]
  · rw [ip_uI_I, if_neg (by omega), ip_uI_I, if_neg (by omega), ip_uI_I, if_neg (by omega), ip_uI_I, if_neg (by omega), ip_uI_I, if_neg (by omega), ip_sI_I, if_neg (by omega), ip_uI_I, if_neg (by omega), ip_uI_I, if_pos ⟨rfl, rfl⟩]
theorem vit_rD (M : ip_H) (D : Nat → Int32) (s : rd_S) (v : Int32) : vit M (ip_uI (c_rD (c_r0 M) D s) 108 33 v) := vit_uI (vit_t (vit_uI (vit_uI (vit_r M) rfl) rfl) (vit_x (vix_vis (vis_rD _ _ _)))) rfl
theorem Ri_rD {M : ip_H} {D : Nat → Int32} {s : rd_S} {v : Int32} (g : Ri M) : Ri (ip_uI (c_rD (c_r0 M) D s) 108 33 v) :=
  Ri_tp (vit_rD M D s v) (funext fun b => rD_row _ _ _ _ _ _ (by decide) (by decide)) rfl (rD_108 _ _ _ _).1 (funext fun b => rD_row _ _ _ _ _ _ (by decide) (by decide)) (funext fun b => rD_row _ _ _ _ _ _ (by decide) (by decide)) (funext fun b => rD_row _ _ _ _ _ _ (by decide) (by decide)) rfl rfl 0 (by decide) (rD_108 _ _ _ _).2 g
theorem Ri_w {M : ip_H} {v : Int32} (g : Ri M) : Ri (ip_uI M 108 3 v) := by
  obtain ⟨⟨g1, g2, g3, g4, g5, g6, g7⟩, g8, g9⟩ := g
  exact ⟨⟨g1, g2, g3, g4, g5, g6, g7⟩, g8, g9⟩
