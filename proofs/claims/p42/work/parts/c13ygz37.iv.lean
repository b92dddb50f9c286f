-- WHAT STANDS BEHIND way, read, feed, end
theorem ofn_i' {a b : Nat} (ha : a < 2147483648) (hb : b < 2147483648) (h : Int32.ofNat a = Int32.ofNat b) : a = b := by
  rw [ip_neq a b ha hb] at h
  exact h
theorem Iv_way {M M1 M2 : ip_H} (hV : Iv M) (hG1 : ip_G M1) (hI1 : ai_inv ai_Tb M1) (hh : hig M M1) (a2 : M1.2.1 19 2 = M.2.1 19 2) (a4 : M1.2.1 19 4 = M.2.1 19 4) (a20 : M1.2.1 20 = M.2.1 20) (vx : viw M1 M2) (ri : Ri M2) (rq : Rq M2) (jj : JJ M2) (hw : M2.2.1 108 3 = M.2.1 108 3 ∨ M2.2.1 108 3 = 0 ∨ M2.2.1 108 3 = 1) : Iv M2 := by
  obtain ⟨-, -, -, -, -, w, c⟩ := hV
  refine ⟨viw_G vx hG1, ai_inv_low (viw_low vx) hI1, ri, rq, jj, ?_, cpt_2 hh a2 a4 a20 (viw_low vx) (vx.2.2.1 108 32 rfl (by omega)) (vx.2.2.1 108 33 rfl (by omega)) (funext fun b => vx.2.2.1 120 b rfl (by omega)) c⟩
  unfold way01 at w ⊢
  rcases hw with q | q
  · rw [q]
    exact w
  · exact q
theorem Iv_read {M M1 M2 : ip_H} (hV : Iv M) (hG1 : ip_G M1) (hI1 : ai_inv ai_Tb M1) (hh : hig M M1) (vt : vit M1 M2) (ri : Ri M2) (rq : Rq M2) (jj : JJ M2) (e2 : M1.2.1 19 2 = M2.2.1 108 32) (e4 : M1.2.1 19 4 = M2.2.1 108 33) (z : M2.2.1 108 32 = 0) : Iv M2 := by
  obtain ⟨-, -, -, -, -, w, c⟩ := hV
  have l := vit_low vt
  have w1 := hig_way hh w
  refine ⟨vit_G vt hG1, ai_inv_low l hI1, ri, rq, jj, ?_, ?_, ?_, fun f hf e j hj => ?_⟩
  · unfold way01 at w1 ⊢
    rw [vt.2.2.1 108 3 rfl]
    exact w1
  · rw [low_I l 19 (by decide)]; exact e2
  · rw [low_I l 19 (by decide)]; exact e4
  · have q : 0 = f := ofn_i' (by decide) (by omega) (z.symm.trans e)
    omega
theorem c_t4_o (M : ip_H) (f : Nat) (x : Int32) (a b : Nat) (h : ¬ a = 120) (h2 : ¬ (a = 108 ∧ b = 32)) : (c_t4 M f x).2.1 a b = M.2.1 a b := by
  unfold c_t4
  rw [ip_uI_I, if_neg (by omega), ip_uI_I, if_neg (by omega), ip_uI_I, if_neg (by omega), ip_uI_I, if_neg (by omega), ip_uI_I, if_neg (by omega), ip_uI_I, if_neg (by omega), ip_uI_I, if_neg (by omega), ip_uI_I, if_neg (by omega)]
theorem tf5_o (M : ip_H) (f : Nat) (a b c d e : Int32) (x y : Nat) (h1 : ¬ x = 20) (h2 : ¬ (x = 19 ∧ y = 2)) (h3 : ¬ x = 120) (h4 : ¬ (x = 108 ∧ y = 32)) : (tf5c (tf5k M f a b c d e) f a b c d e).2.1 x y = M.2.1 x y := by
  unfold tf5c
  rw [c_t4_o _ _ _ _ _ h3 h4, c_t4_o _ _ _ _ _ h3 h4, c_t4_o _ _ _ _ _ h3 h4, c_t4_o _ _ _ _ _ h3 h4, c_t4_o _ _ _ _ _ h3 h4]
  unfold tf5k
  rw [k_t4_o _ _ _ _ _ h1 h2, k_t4_o _ _ _ _ _ h1 h2, k_t4_o _ _ _ _ _ h1 h2, k_t4_o _ _ _ _ _ h1 h2, k_t4_o _ _ _ _ _ h1 h2]
theorem Iv_feed {M : ip_H} {f : Nat} {a b c d e : Int32} (hV : Iv M) (hf : f + 20 ≤ 200) (h32 : M.2.1 108 32 = Int32.ofNat f) (hG1 : ip_G (tf5k M f a b c d e)) (hI1 : ai_inv ai_Tb (tf5k M f a b c d e)) (hh : hig M (tf5k M f a b c d e)) (vx : vit (tf5k M f a b c d e) (tf5c (tf5k M f a b c d e) f a b c d e)) (r2 : Ri (tf5c (tf5k M f a b c d e) f a b c d e)) : Iv (tf5c (tf5k M f a b c d e) f a b c d e) := by
  obtain ⟨-, -, -, gq, gj, w, cc⟩ := hV
  have l := vit_low vx
  have e2 : (tf5k M f a b c d e).2.1 19 2 = Int32.ofNat (f + 20) := k_t4_32 _ _ _
  have e3 : (tf5c (tf5k M f a b c d e) f a b c d e).2.1 108 32 = Int32.ofNat (f + 20) := c_t4_32 _ _ _
  have o := tf5_o M f a b c d e
  refine ⟨vit_G vx hG1, ai_inv_low l hI1, r2, ?_, ?_, ?_, ?_, ?_, ?_⟩
  · exact Rq_tape (M := M) (o 108 12 (by omega) (by omega) (by omega) (by omega)) (fun x hx => funext fun y => o x y (by omega) (by omega) (by omega) (by omega)) (fun _ _ => rfl) gq
  · exact JJ_tape (M := M) (fun x hx h19 h20 => funext fun y => o x y (by omega) (by omega) (by omega) (by omega)) (fun _ _ => rfl) (fun y hy => o 108 y (by omega) (by omega) (by omega) (by omega)) (fun x hx => funext fun y => o x y (by omega) (by omega) (by omega) (by omega)) gj
  · unfold way01 at w ⊢
    rw [o 108 3 (by omega) (by omega) (by omega) (by omega)]
    exact w
  · rw [low_I l 19 (by decide), e2, e3]
  · rw [o 19 4 (by omega) (by omega) (by omega) (by omega), o 108 33 (by omega) (by omega) (by omega) (by omega)]
    exact cc.2.1
  · intro g hg ee j hj
    have eg : f + 20 = g := ofn_i' (by omega) (by omega) (e3.symm.trans ee)
    rw [low_I l 20 (by decide)]
    subst eg
    have q := tpc_5 (M := M) (N := tf5k M f a b c d e) (f := f) a b c d e (fun j hj => by
      rw [(hh 120 (by decide) (by decide)).1]
      exact cc.2.2 f (by omega) h32 j hj)
    exact q j hj
theorem Iv_end {M : ip_H} {f : Nat} {i : Int32} (hV : Iv M) (hf : f ≤ 200) (h32 : M.2.1 108 32 = Int32.ofNat f) (hi : i_in i 0 (Int32.ofNat f) = true) (hG1 : ip_G (ip_uI M 19 2 i)) (hI1 : ai_inv ai_Tb (ip_uI M 19 2 i)) (hh : hig M (ip_uI M 19 2 i)) (vx : vit (ip_uI M 19 2 i) (ip_uI (ip_uI M 19 2 i) 108 32 i)) (r2 : Ri (ip_uI (ip_uI M 19 2 i) 108 32 i)) : Iv (ip_uI (ip_uI M 19 2 i) 108 32 i) := by
  obtain ⟨-, -, -, gq, gj, w, cc⟩ := hV
  have l := vit_low vx
  have ei : ∀ a, ¬ a = 19 → ¬ a = 108 → (ip_uI (ip_uI M 19 2 i) 108 32 i).2.1 a = M.2.1 a := fun a h1 h2 => by rw [uI_o _ _ _ _ _ h2, uI_o _ _ _ _ _ h1]
  have e8 : ∀ b, ¬ b = 32 → (ip_uI (ip_uI M 19 2 i) 108 32 i).2.1 108 b = M.2.1 108 b := fun b hb => by rw [ip_uI_I, if_neg (by omega), ip_uI_I, if_neg (by omega)]
  refine ⟨vit_G vx hG1, ai_inv_low l hI1, r2, ?_, ?_, ?_, ?_, ?_, ?_⟩
  · exact Rq_tape (M := M) (e8 12 (by decide)) (fun x hx => ei x (by omega) (by omega)) (fun _ _ => rfl) gq
  · exact JJ_tape (M := M) (fun x hx h19 h20 => ei x h19 (by omega)) (fun _ _ => rfl) (fun y hy => e8 y (by omega)) (fun x hx => ei x (by omega) (by omega)) gj
  · unfold way01 at w ⊢
    rw [e8 3 (by decide)]
    exact w
  · rfl
  · exact cc.2.1
  · intro g hg ee j hj
    have e1 : i = Int32.ofNat g := ee
    have hgf : g ≤ f := by
      rw [i_in_z, e1] at hi
      have h5 : (Int32.ofNat f).toInt = f := Int32.toInt_ofNat_of_lt (by omega)
      have h6 : (Int32.ofNat g).toInt = g := Int32.toInt_ofNat_of_lt (by omega)
      rw [h5, h6] at hi
      omega
    exact cc.2.2 f hf h32 j (by omega)
