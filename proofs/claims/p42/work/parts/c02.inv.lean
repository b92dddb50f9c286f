-- WHAT STANDS BETWEEN TWO CALLS (reference)
/-- cells that no later answer that is compared here, and no safety, rests on; the row and PRODUCT, of which is spoken apart -/
def hvI (a b : Nat) : Bool := a == 109 || (a == 119 || (a == 111 || (a == 121 || (a == 124 || (a == 125 || (a == 126 || (a == 108 && (b == 4 || (b == 17 || (b == 18 || (b == 27 || (b == 29 || (b == 34 || (b == 35 || (b == 36 || (b == 37 || b == 38))))))))))))))))
def hvL (a b : Nat) : Bool := a == 110 || (a == 118 || (a == 122 || (a == 123 || (a == 127 || (a == 108 && ((decide (13 ≤ b) && decide (b ≤ 26)) || (b == 40 || b == 41)))))))
def vis (M M1 : ip_H) : Prop := M1.1 = M.1 ∧ M1.2.2.2 = M.2.2.2 ∧ (∀ a b, hvI a b = false → M1.2.1 a b = M.2.1 a b) ∧ ∀ a b, hvL a b = false → M1.2.2.1 a b = M.2.2.1 a b
theorem vis_r (M : ip_H) : vis M M := ⟨rfl, rfl, fun _ _ _ => rfl, fun _ _ _ => rfl⟩
theorem vis_t {M M1 M2 : ip_H} (h : vis M M1) (g : vis M1 M2) : vis M M2 := ⟨g.1.trans h.1, g.2.1.trans h.2.1, fun a b q => (g.2.2.1 a b q).trans (h.2.2.1 a b q), fun a b q => (g.2.2.2 a b q).trans (h.2.2.2 a b q)⟩
theorem vis_uI {M N : ip_H} {k j : Nat} {v : Int32} (h : vis M N) (q : hvI k j = true) : vis M (ip_uI N k j v) := by
  refine ⟨h.1, h.2.1, fun a b hab => ?_, h.2.2.2⟩
  rw [ip_uI_I, if_neg, h.2.2.1 a b hab]
  rintro ⟨rfl, rfl⟩
  rw [q] at hab
  cases hab
theorem vis_uL {M N : ip_H} {k j : Nat} {v : Int64} (h : vis M N) (q : hvL k j = true) : vis M (ip_uL N k j v) := by
  refine ⟨h.1, h.2.1, h.2.2.1, fun a b hab => ?_⟩
  rw [ip_uL_L, if_neg, h.2.2.2 a b hab]
  rintro ⟨rfl, rfl⟩
  rw [q] at hab
  cases hab
theorem vis_sI {M N : ip_H} {k : Nat} {f : Nat → Int32} (h : vis M N) (q : ∀ b, hvI k b = true) : vis M (ip_sI N k f) := by
  refine ⟨h.1, h.2.1, fun a b hab => ?_, h.2.2.2⟩
  rw [ip_sI_I, if_neg, h.2.2.1 a b hab]
  rintro rfl
  rw [q] at hab
  cases hab
theorem vis_sL {M N : ip_H} {k : Nat} {f : Nat → Int64} (h : vis M N) (q : ∀ b, hvL k b = true) : vis M (ip_sL N k f) := by
  refine ⟨h.1, h.2.1, h.2.2.1, fun a b hab => ?_⟩
  rw [ip_sL_L, if_neg, h.2.2.2 a b hab]
  rintro rfl
  rw [q] at hab
  cases hab
theorem vis_G {M M1 : ip_H} (h : vis M M1) (hG : ip_G M) : ip_G M1 := ⟨h.1.trans hG.1, fun k j a b => by rw [h.2.1]; exact hG.2 k j a b⟩
theorem hv_s {a b : Nat} (h : hvI a b = false) : s_I a b = false := by
  cases e : s_I a b
  · rfl
  · exfalso
    unfold s_I at e
    unfold hvI at h
    simp only [Bool.or_eq_true, Bool.and_eq_true, beq_iff_eq, Bool.or_eq_false_iff, Bool.and_eq_false_iff, beq_eq_false_iff_ne, ne_eq] at e h
    omega
theorem hv_l {a b : Nat} (h : hvL a b = false) : s_L a b = false := by
  cases e : s_L a b
  · rfl
  · exfalso
    unfold s_L at e
    unfold hvL at h
    simp only [Bool.or_eq_true, Bool.and_eq_true, beq_iff_eq, Bool.or_eq_false_iff, Bool.and_eq_false_iff, beq_eq_false_iff_ne, ne_eq, decide_eq_true_eq, decide_eq_false_iff_not] at e h
    omega
theorem vis_scr {M M1 : ip_H} (h : scr M M1) : vis M M1 := ⟨h.1, h.2.1, fun a b q => h.2.2.1 a b (hv_s q), fun a b q => h.2.2.2 a b (hv_l q)⟩
theorem vis_no (M : ip_H) (n : Nat) (c : Int32) : vis M (c_no M n c) := vis_uI (vis_uI (vis_r M) rfl) rfl
theorem vis_ye (M : ip_H) : vis M (c_ye M) := vis_uI (vis_r M) rfl
theorem vis_x4 (M : ip_H) (z : Int × Int × Int × Int) : vis M (c_x4 M z) := vis_uL (vis_uL (vis_uL (vis_uL (vis_r M) rfl) rfl) rfl) rfl
theorem vis_cl (M : ip_H) (p q r : Int32) : vis M (c_cl M p q r) := vis_sI (vis_r M) (fun _ => rfl)
theorem vis_ly (M : ip_H) (i : Nat) (a b c d : Int32) : vis M (c_ly M i a b c d) := vis_uI (vis_uI (vis_uI (vis_uI (vis_uI (vis_r M) rfl) rfl) rfl) rfl) rfl
theorem vis_bg (M : ip_H) (i j : Nat) (w : Int32) : vis M (c_bg M i j w) := by
  unfold c_bg
  repeat (first | refine vis_uL ?_ rfl | refine vis_uI ?_ rfl)
  exact vis_r M
theorem vis_mv (M : ip_H) (i s : Nat) : vis M (c_mv M i s) := vis_uI (vis_uI (vis_uI (vis_uI (vis_r M) rfl) rfl) rfl) rfl
theorem vis_do (M : ip_H) (k : Nat) (t : Bool) : vis M (c_do M k t) := vis_sL (vis_sI (vis_r M) (fun _ => rfl)) (fun _ => rfl)
theorem vis_lb (M : ip_H) (l : Nat) : vis M (c_lb M l) := by
  unfold c_lb
  split
  · generalize lbk (M.2.1 109) l l 0 = o
    cases o with
    | none => exact vis_r M
    | some k => exact vis_uI (vis_uI (vis_r M) rfl) rfl
  · exact vis_r M
theorem vis_rN (M : ip_H) (R S : Nat → Int64) (B : Bool) : vis M (c_rN M R S B) := vis_uI (vis_sL (vis_sL (vis_r M) (fun _ => rfl)) (fun _ => rfl)) rfl
theorem vis_x4g (M : ip_H) (e f g k : Int64) : vis M (c_x4g M e f g k) := vis_uL (vis_uL (vis_uL (vis_uL (vis_r M) rfl) rfl) rfl) rfl
theorem vis_sm (M : ip_H) (W : Nat → Int64) (u d : Int64) : vis M (c_sm M W u d) := vis_uL (vis_uL (vis_sL (vis_r M) (fun _ => rfl)) rfl) rfl
theorem vis_pm (M : ip_H) : vis M (c_pm M) := vis_scr (scr_pm M)
theorem vis_ft (M : ip_H) (z : Int × Int × Int × Int) : vis M (c_ft M z) := vis_uI (vis_uI (vis_uI (vis_uI (vis_r M) rfl) rfl) rfl) rfl
theorem vis_2z (M : ip_H) (z : Int × Int × Int × Int) : vis M (c_2z M z) := vis_uI (vis_uI (vis_uI (vis_uI (vis_r M) rfl) rfl) rfl) rfl
theorem vis_vn (M : ip_H) (p q r : Int32) : vis M (v_n M p q r) := vis_uI (vis_uI (vis_uI (vis_r M) rfl) rfl) rfl
theorem vis_st (M : ip_H) (f g : Int × Int × Int × Int) : vis M (c_st M f g) := vis_uI (vis_uI (vis_uI (vis_uI (vis_uI (vis_uI (vis_uI (vis_uI (vis_r M) rfl) rfl) rfl) rfl) rfl) rfl) rfl) rfl
theorem vis_as (M : ip_H) : vis M (c_as M) := vis_sL (vis_sI (vis_r M) (fun _ => rfl)) (fun _ => rfl)
theorem vis_rb (M : ip_H) : vis M (c_rb M) := vis_sL (vis_sI (vis_r M) (fun _ => rfl)) (fun _ => rfl)
theorem vis_rD (M : ip_H) (D : Nat → Int32) (s : rd_S) : vis M (c_rD M D s) := vis_uI (vis_uI (vis_uI (vis_uI (vis_sI (vis_r M) (fun _ => rfl)) rfl) rfl) rfl) rfl
theorem vis_wd (M : ip_H) (D : Nat → Int32) (m : Nat) : vis M (c_wd M D m) := vis_sI (vis_r M) (fun _ => rfl)
-- A ROW THAT CAN BE
def rw_pd (N : Nat → Int32) : Prop := ¬ N 3 = 0 → ¬ N 6 = -1 → ∃ s l : Nat, 1 ≤ l ∧ s + l ≤ r_k N ∧ N 6 = Int32.ofNat s ∧ N 7 = Int32.ofNat l
def rw_wd (N : Nat → Int32) : Prop := ∃ m : Nat, m ≤ 40 ∧ N 8 = Int32.ofNat m ∧ ∀ k, k < m → wdk (fun j => N (33 + j)) k
/-- what stands at s isn't below 0 -/
def s_nn (N : Nat → Int32) (s : Nat) : Prop := 0 ≤ zN (N 0).toInt (N 1).toInt (N 2).toInt (N s).toInt (N (s + 1)).toInt (N (s + 2)).toInt
def rw_nn (N : Nat → Int32) : Prop := ¬ N 3 = 0 → ∀ k, k ≤ r_k N → s_nn N (153 + 8 * k) ∧ s_nn N (153 + 8 * k + 4)
def rw_ok (N : Nat → Int32) : Prop := zF (N 0).toInt (N 1).toInt (N 2).toInt = true ∧ onc N ∧ rw_pd N ∧ trn N ∧ (∀ i, i < 6 → c_vo N (9 + 4 * i)) ∧ rw_wd N ∧ rw_nn N
theorem c_vo_c {N N' : Nat → Int32} {s : Nat} (h : ∀ j, j < 4 → N' (s + j) = N (s + j)) (g : c_vo N s) : c_vo N' s := by
  unfold c_vo at *
  have h0 := h 0 (by decide)
  have h1 := h 1 (by decide)
  have h2 := h 2 (by decide)
  have h3 := h 3 (by decide)
  rw [Nat.add_zero] at h0
  rw [h0, h1, h2, h3]
  exact g
theorem wdk_c {D D' : Nat → Int32} {k : Nat} (h : ∀ j, j < 3 → D' (3 * k + j) = D (3 * k + j)) (g : wdk D k) : wdk D' k := by
  unfold wdk at *
  have h0 := h 0 (by decide)
  have h1 := h 1 (by decide)
  have h2 := h 2 (by decide)
  rw [Nat.add_zero] at h0
  rw [h0, h1, h2]
  exact g
theorem crs_c {N N' : Nat → Int32} (h : ∀ j, j < 821 → N' j = N j) (g : crs N) : crs N' := by
  have e5 : r_k N' = r_k N := by unfold r_k; rw [h 5 (by decide)]
  obtain ⟨a, b, c⟩ := g
  refine ⟨by rw [h 5 (by decide), e5]; exact a, by rw [e5]; exact b, fun k hk => ?_⟩
  rw [e5] at hk
  exact ⟨c_vo_c (fun j hj => h _ (by omega)) (c k hk).1, c_vo_c (fun j hj => h _ (by omega)) (c k hk).2⟩
theorem s_nn_c {N N' : Nat → Int32} {s : Nat} (h : ∀ j, j < 3 → N' j = N j) (h' : ∀ j, j < 3 → N' (s + j) = N (s + j)) (g : s_nn N s) : s_nn N' s := by
  unfold s_nn at *
  have h0 := h' 0 (by decide)
  have h1 := h' 1 (by decide)
  have h2 := h' 2 (by decide)
  rw [Nat.add_zero] at h0
  rw [h0, h1, h2, h 0 (by decide), h 1 (by decide), h 2 (by decide)]
  exact g
theorem rw_ok_c {N N' : Nat → Int32} (h : ∀ j, j < 821 → N' j = N j) (g : rw_ok N) : rw_ok N' := by
  obtain ⟨g1, g2, g3, g4, g5, ⟨m, g6, g7, g8⟩, g9⟩ := g
  have e5 : r_k N' = r_k N := by unfold r_k; rw [h 5 (by decide)]
  refine ⟨?_, ?_, ?_, ?_, ?_, ⟨m, g6, ?_, ?_⟩, ?_⟩
  · rw [h 0 (by decide), h 1 (by decide), h 2 (by decide)]; exact g1
  · intro h3
    rw [h 3 (by decide)] at h3
    exact crs_c h (g2 h3)
  · intro h3 h6
    rw [h 3 (by decide)] at h3
    rw [h 6 (by decide)] at h6
    obtain ⟨s, l, a, b, c, d⟩ := g3 h3 h6
    exact ⟨s, l, a, by rw [e5]; exact b, by rw [h 6 (by decide)]; exact c, by rw [h 7 (by decide)]; exact d⟩
  · intro k hk
    rw [h _ (by omega)]
    exact g4 k hk
  · intro i hi
    exact c_vo_c (fun j hj => h _ (by omega)) (g5 i hi)
  · rw [h 8 (by decide)]; exact g7
  · intro k hk
    exact wdk_c (fun j hj => h _ (by omega)) (g8 k hk)
  · intro h3 k hk
    rw [h 3 (by decide)] at h3
    rw [e5] at hk
    obtain ⟨a, b⟩ := g9 h3 k hk
    have hb := (g2 h3).2.1
    exact ⟨s_nn_c (fun j hj => h _ (by omega)) (fun j hj => h _ (by omega)) a, s_nn_c (fun j hj => h _ (by omega)) (fun j hj => h _ (by omega)) b⟩
theorem rw_prv {N : Nat → Int32} (g : rw_ok N) : prv N := by
  intro h3 h6
  have h30 : ¬ N 3 = 0 := by rw [h3]; decide
  obtain ⟨-, g2, g3, -⟩ := g
  obtain ⟨c1, c2, c3⟩ := g2 h30
  obtain ⟨s, l, a, b, c, d⟩ := g3 h30 h6
  obtain ⟨v1, v2⟩ := c3 s (by omega)
  exact ⟨s, l, by omega, by omega, c, d, v1.2.2.2, v2.2.2.2⟩
theorem rw_prd {N : Nat → Int32} (g : rw_ok N) : prd N := by
  intro h3 h6
  obtain ⟨s, l, a, b, c, d, -⟩ := rw_prv g h3 h6
  exact ⟨s, l, b, c, d⟩
theorem rw_q3 {N : Nat → Int32} (g : rw_ok N) : q3 (N 1) = true := by rw [q3_b]; exact (zF_b g.1).2.1
def pr_ok (P : Nat → Int64) (n : Nat) : Prop := ∀ j, j < n → 0 ≤ (P j).toInt
-- ALL OF IT
def Rk (M : ip_H) : Prop := M.2.1 108 0 = 0 ∧ m8 (M.2.1 108 12) = true ∧ (∃ f : Nat, f ≤ 200 ∧ M.2.1 108 32 = Int32.ofNat f) ∧ (∀ m, m < (M.2.1 108 12).toNatClampNeg → rw_ok (fun j => M.2.1 112 (821 * m + j))) ∧ pr_ok (M.2.2.1 115) 72 ∧ (∀ m, m < 2 → ¬ M.2.1 117 m = 0 → rw_ok (fun j => M.2.1 114 (821 * m + j))) ∧ pr_ok (M.2.2.1 116) 18
def Ri (M : ip_H) : Prop := Rk M ∧ rw_ok (M.2.1 109) ∧ pr_ok (M.2.2.1 110) 9
theorem vis_I {M M1 : ip_H} (h : vis M M1) (a : Nat) (q : ∀ b, hvI a b = false) : M1.2.1 a = M.2.1 a := funext fun b => h.2.2.1 a b (q b)
theorem vis_L {M M1 : ip_H} (h : vis M M1) (a : Nat) (q : ∀ b, hvL a b = false) : M1.2.2.1 a = M.2.2.1 a := funext fun b => h.2.2.2 a b (q b)
theorem Rk_vis {M M1 : ip_H} (h : vis M M1) (g : Rk M) : Rk M1 := by
  obtain ⟨g1, g2, g3, g4, g5, g6, g7⟩ := g
  unfold Rk
  rw [h.2.2.1 108 0 rfl, h.2.2.1 108 12 rfl, h.2.2.1 108 32 rfl, vis_I h 112 (fun _ => rfl), vis_I h 114 (fun _ => rfl), vis_I h 117 (fun _ => rfl), vis_L h 115 (fun _ => rfl), vis_L h 116 (fun _ => rfl)]
  exact ⟨g1, g2, g3, g4, g5, g6, g7⟩
/-- what is as it was but for what is hidden; row and PRODUCT too -/
theorem Ri_vis {M M1 : ip_H} (h : vis M M1) (e1 : M1.2.1 109 = M.2.1 109) (e2 : M1.2.2.1 110 = M.2.2.1 110) (g : Ri M) : Ri M1 := ⟨Rk_vis h g.1, by rw [e1]; exact g.2.1, by rw [e2]; exact g.2.2⟩
theorem Ri_scr {M M1 : ip_H} (h : scr M M1) (g : Ri M) : Ri M1 := Ri_vis (vis_scr h) (scr_row h) (scr_110 h) g
theorem no_row (M : ip_H) (n : Nat) (c : Int32) : (c_no M n c).2.1 109 = M.2.1 109 := funext fun b => by
  unfold c_no
  rw [ip_uI_I, if_neg (by omega), ip_uI_I, if_neg (by omega)]
theorem ye_row (M : ip_H) : (c_ye M).2.1 109 = M.2.1 109 := funext fun b => by
  unfold c_ye
  rw [ip_uI_I, if_neg (by omega)]
theorem Ri_no {M : ip_H} {n : Nat} {c : Int32} (g : Ri M) : Ri (c_no M n c) := Ri_vis (vis_no M n c) (no_row M n c) rfl g
theorem Ri_ye {M : ip_H} (g : Ri M) : Ri (c_ye M) := Ri_vis (vis_ye M) (ye_row M) rfl g
theorem Ri_x4g {M : ip_H} {e f h k : Int64} (g : Ri M) : Ri (c_x4g M e f h k) := Ri_vis (vis_x4g M e f h k) rfl (funext fun b => by
  unfold c_x4g
  rw [ip_uL_L, if_neg (by omega), ip_uL_L, if_neg (by omega), ip_uL_L, if_neg (by omega), ip_uL_L, if_neg (by omega)]) g
theorem Ri_x4 {M : ip_H} {z : Int × Int × Int × Int} (g : Ri M) : Ri (c_x4 M z) := Ri_x4g g
