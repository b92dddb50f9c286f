-- WAY, FEED, END, READ (reference) between two calls
def hyI (a b : Nat) : Bool := hxI a b || (a == 120 || (a == 108 && (b == 32 || b == 33)))
/-- as vix; the TAPE apart -/
def vit (M M1 : ip_H) : Prop := M1.1 = M.1 ∧ M1.2.2.2 = M.2.2.2 ∧ (∀ a b, hyI a b = false → M1.2.1 a b = M.2.1 a b) ∧ ∀ a b, hxL a b = false → M1.2.2.1 a b = M.2.2.1 a b
theorem hy_x {a b : Nat} (h : hyI a b = false) : hxI a b = false := by
  unfold hyI at h
  rw [Bool.or_eq_false_iff] at h
  exact h.1
theorem vit_r (M : ip_H) : vit M M := ⟨rfl, rfl, fun _ _ _ => rfl, fun _ _ _ => rfl⟩
theorem vit_t {M M1 M2 : ip_H} (h : vit M M1) (g : vit M1 M2) : vit M M2 := ⟨g.1.trans h.1, g.2.1.trans h.2.1, fun a b q => (g.2.2.1 a b q).trans (h.2.2.1 a b q), fun a b q => (g.2.2.2 a b q).trans (h.2.2.2 a b q)⟩
theorem vit_x {M M1 : ip_H} (h : vix M M1) : vit M M1 := ⟨h.1, h.2.1, fun a b q => h.2.2.1 a b (hy_x q), h.2.2.2⟩
theorem vit_uI {M N : ip_H} {k j : Nat} {v : Int32} (h : vit M N) (q : hyI k j = true) : vit M (ip_uI N k j v) := by
  refine ⟨h.1, h.2.1, fun a b hab => ?_, h.2.2.2⟩
  rw [ip_uI_I, if_neg, h.2.2.1 a b hab]
  rintro ⟨rfl, rfl⟩
  rw [q] at hab
  cases hab
theorem vit_G {M M1 : ip_H} (h : vit M M1) (hG : ip_G M) : ip_G M1 := ⟨h.1.trans hG.1, fun k j a b => by rw [h.2.1]; exact hG.2 k j a b⟩
theorem hy_lo {a b : Nat} (h : a < 108) : hyI a b = false := by
  unfold hyI
  rw [(hx_lo (b := b) h).1, Bool.false_or]
  simp only [Bool.or_eq_false_iff, Bool.and_eq_false_iff, beq_eq_false_iff_ne, ne_eq]
  omega
theorem vit_low {M M1 : ip_H} (h : vit M M1) : low M M1 := fun a ha => ⟨funext fun b => h.2.2.1 a b (hy_lo ha), funext fun b => h.2.2.2 a b (hx_lo ha).2⟩
theorem vit_t4 (M : ip_H) (f : Nat) (x : Int32) : vit M (c_t4 M f x) := vit_uI (vit_uI (vit_uI (vit_uI (vit_uI (vit_uI (vit_uI (vit_uI (vit_r M) rfl) rfl) rfl) rfl) rfl) rfl) rfl) rfl
/-- the TAPE's length another one -/
theorem Ri_tp {M M1 : ip_H} (h : vit M M1) (e1 : M1.2.1 109 = M.2.1 109) (e2 : M1.2.2.1 110 = M.2.2.1 110) (e3 : M1.2.1 108 12 = M.2.1 108 12) (e4 : M1.2.1 112 = M.2.1 112) (e5 : M1.2.1 114 = M.2.1 114) (e6 : M1.2.1 117 = M.2.1 117) (e7 : M1.2.2.1 115 = M.2.2.1 115) (e8 : M1.2.2.1 116 = M.2.2.1 116) (f : Nat) (hf : f ≤ 200) (e9 : M1.2.1 108 32 = Int32.ofNat f) (g : Ri M) : Ri M1 := by
  obtain ⟨⟨g1, g2, g3, g4, g5, g6, g7⟩, g8, g9⟩ := g
  unfold Ri Rk
  rw [h.2.2.1 108 0 rfl, e1, e2, e3, e4, e5, e6, e7, e8]
  exact ⟨⟨g1, g2, ⟨f, hf, e9⟩, g4, g5, g6, g7⟩, g8, g9⟩
theorem t4_I (M : ip_H) (f : Nat) (x : Int32) (a b : Nat) (h : ¬ a = 120) (h2 : ¬ (a = 108 ∧ b = 32)) : (c_t4 M f x).2.1 a b = M.2.1 a b := by
  unfold c_t4
  rw [ip_uI_I, if_neg h2, ip_uI_I, if_neg (by omega), ip_uI_I, if_neg h2, ip_uI_I, if_neg (by omega), ip_uI_I, if_neg h2, ip_uI_I, if_neg (by omega), ip_uI_I, if_neg h2, ip_uI_I, if_neg (by omega)]
theorem t4_Ia (M : ip_H) (f : Nat) (x : Int32) (a : Nat) (h : ¬ a = 120) (h2 : ¬ a = 108) : (c_t4 M f x).2.1 a = M.2.1 a := funext fun b => t4_I M f x a b h (by omega)
theorem Ri_t4 {M : ip_H} {f : Nat} {x : Int32} (hf : f + 4 ≤ 200) (g : Ri M) : Ri (c_t4 M f x) :=
  Ri_tp (vit_t4 M f x) (t4_Ia _ _ _ _ (by decide) (by decide)) rfl (t4_I _ _ _ _ _ (by decide) (by decide)) (t4_Ia _ _ _ _ (by decide) (by decide)) (t4_Ia _ _ _ _ (by decide) (by decide)) (t4_Ia _ _ _ _ (by decide) (by decide)) rfl rfl (f + 4) hf (c_t4_32 M f x) g
theorem f_feed (X : ip_X) (M : ip_H) (K : Option Value → ip_H → Prop) (a b c d e : Int32) (hG : ip_G M) (g : Ri M) (f : Nat) (hf : f ≤ 200) (h32 : M.2.1 108 32 = Int32.ofNat f) (h0 : ¬ f + 20 ≤ 200 → K (some (.int (-1))) M) (h1 : f + 20 ≤ 200 → ∀ M1, vit M M1 → Ri M1 → M1.2.1 108 32 = Int32.ofNat (f + 20) → K (some (.int (Int32.ofNat (f + 20)))) M1) : ip_wp X 227 0 [.ref 108, .int a, .int b, .int c, .int d, .int e] [] M K := by
  refine o_227 X M K a b c d e f hf h32 hG g.1.1 h0 (fun hle => h1 hle _ ?_ ?_ ?_)
  · exact vit_t (vit_t4 _ _ _) (vit_t (vit_t4 _ _ _) (vit_t (vit_t4 _ _ _) (vit_t (vit_t4 _ _ _) (vit_t4 _ _ _))))
  · exact Ri_t4 (by omega) (Ri_t4 (by omega) (Ri_t4 (by omega) (Ri_t4 (by omega) (Ri_t4 (by omega) g))))
  · exact c_t4_32 _ _ _
theorem f_end (X : ip_X) (M : ip_H) (K : Option Value → ip_H → Prop) (i : Int32) (hG : ip_G M) (g : Ri M) (f : Nat) (hf : f ≤ 200) (h32 : M.2.1 108 32 = Int32.ofNat f) (h0 : i_in i 0 (Int32.ofNat f) = false → K (some (.int (-1))) M) (h1 : i_in i 0 (Int32.ofNat f) = true → ∀ M1, vit M M1 → Ri M1 → M1.2.1 108 32 = i → K (some (.int i)) M1) : ip_wp X 228 0 [.ref 108, .int i] [] M K := by
  refine o_228 X M K i hG g.1.1 (fun h => h0 (by rw [← h32]; exact h)) (fun h => ?_)
  rw [h32] at h
  obtain ⟨n, -, hn, rfl⟩ : ∃ n : Nat, 0 ≤ n ∧ n ≤ f ∧ i = Int32.ofNat n := by
    rw [i_in_z] at h
    have e0 : (0 : Int32).toInt = 0 := rfl
    have e5 : (Int32.ofNat f).toInt = f := Int32.toInt_ofNat_of_lt (by omega)
    have hx := ip_nat i (by omega)
    have e : i.toNatClampNeg = i.toInt.toNat := rfl
    exact ⟨i.toNatClampNeg, by omega, by omega, hx⟩
  have v : vit M (ip_uI M 108 32 (Int32.ofNat n)) := vit_uI (vit_r M) rfl
  exact h1 h _ v (Ri_tp v rfl rfl rfl rfl rfl rfl rfl rfl n (by omega) rfl g) rfl
theorem rD_row (M : ip_H) (D : Nat → Int32) (s : rd_S) (v : Int32) (a b : Nat) (h1 : ¬ a = 108) (h2 : ¬ a = 121) : (ip_uI (c_rD (c_r0 M) D s) 108 33 v).2.1 a b = M.2.1 a b := by
  unfold c_rD c_rs c_r0
  rw [ip_uI_I, if_neg (by omega), ip_uI_I, if_neg (by omega), ip_uI_I, if_neg (by omega), ip_uI_I, if_neg (by omega), ip_uI_I, if_neg (by omega), ip_sI_I, if_neg h2, ip_uI_I, if_neg (by omega), ip_uI_I, if_neg (by omega)]
theorem rD_108 (M : ip_H) (D : Nat → Int32) (s : rd_S) (v : Int32) : (ip_uI (c_rD (c_r0 M) D s) 108 33 v).2.1 108 12 = M.2.1 108 12 ∧ (ip_uI (c_rD (c_r0 M) D s) 108 33 v).2.1 108 32 = 0 := by
  unfold c_rD c_rs c_r0
  constructor
  · rw [ip_uI_I, if_neg (by omega), ip_uI_I, if_neg (by omega), ip_uI_I, if_neg (by omega), ip_uI_I, if_neg (by omega), ip_uI_I, if_neg (by omega), ip_sI_I, if_neg (by omega), ip_uI_I, if_neg (by omega), ip_uI_I, if_neg (by omega)]
  · rw [ip_uI_I, if_neg (by omega), ip_uI_I, if_neg (by omega), ip_uI_I, if_neg (by omega), ip_uI_I, if_neg (by omega), ip_uI_I, if_neg (by omega), ip_sI_I, if_neg (by omega), ip_uI_I, if_neg (by omega), ip_uI_I, if_pos ⟨rfl, rfl⟩]
theorem vit_rD (M : ip_H) (D : Nat → Int32) (s : rd_S) (v : Int32) : vit M (ip_uI (c_rD (c_r0 M) D s) 108 33 v) := vit_uI (vit_t (vit_uI (vit_uI (vit_r M) rfl) rfl) (vit_x (vix_vis (vis_rD _ _ _)))) rfl
theorem Ri_rD {M : ip_H} {D : Nat → Int32} {s : rd_S} {v : Int32} (g : Ri M) : Ri (ip_uI (c_rD (c_r0 M) D s) 108 33 v) :=
  Ri_tp (vit_rD M D s v) (funext fun b => rD_row _ _ _ _ _ _ (by decide) (by decide)) rfl (rD_108 _ _ _ _).1 (funext fun b => rD_row _ _ _ _ _ _ (by decide) (by decide)) (funext fun b => rD_row _ _ _ _ _ _ (by decide) (by decide)) (funext fun b => rD_row _ _ _ _ _ _ (by decide) (by decide)) rfl rfl 0 (by decide) (rD_108 _ _ _ _).2 g
theorem f_read (X : ip_X) (M : ip_H) (K : Option Value → ip_H → Prop) (hG : ip_G M) (g : Ri M) (h : ∀ v M1, vit M M1 → Ri M1 → M1.2.1 108 32 = 0 → K (some (.int v)) M1) : ip_wp X 234 0 [.ref 108, .retAddr 1, .retAddr 1] [] M K := by
  have g0 := g
  obtain ⟨⟨ht, hm, ⟨f, hf, h32⟩, -⟩, gr, -⟩ := g0
  refine o_234 X M K hG (rw_q3 gr) hm ht f hf h32 (fun b0 q _ => ⟨fun _ => ?_, fun _ h40 hw => ?_⟩)
  · refine h _ _ (vit_t (vit_rD M _ _ _) (vit_x (vix_vis (vis_no _ _ _)))) (Ri_no (Ri_rD g)) ?_
    unfold c_no
    rw [ip_uI_I, if_neg (by omega), ip_uI_I, if_neg (by omega)]
    exact (rD_108 _ _ _ _).2
  · refine h _ _ (vit_t (vit_rD M _ _ _) (vit_x (vix_t (vix_ks _ 8) (vix_vis (vis_t (vis_wd _ _ _) (vis_ye _)))))) (Ri_ye (Ri_wd h40 hw (Ri_ks (Ri_rD g)))) ?_
    have e := c_ks_I (ip_uI (c_rD (c_r0 M) q.2.1 q.2.2) 108 33 (-1)) 8 108 32 (by decide) (by decide) (by decide)
    unfold c_ye c_wd
    rw [ip_uI_I, if_neg (by omega), ip_sI_I, if_neg (by omega), e]
    exact (rD_108 _ _ _ _).2
theorem Ri_w {M : ip_H} {v : Int32} (g : Ri M) : Ri (ip_uI M 108 3 v) := by
  obtain ⟨⟨g1, g2, g3, g4, g5, g6, g7⟩, g8, g9⟩ := g
  exact ⟨⟨g1, g2, g3, g4, g5, g6, g7⟩, g8, g9⟩
