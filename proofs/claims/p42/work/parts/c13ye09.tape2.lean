-- THE TAPE'S BYTES, of class and reference
theorem by255 (x : Int32) : x.toInt8.toInt32 &&& 255 = x &&& 255 := by
  apply Int32.toBitVec_inj.mp
  rw [Int32.toBitVec_and, Int32.toBitVec_and, Int8.toBitVec_toInt32, Int32.toBitVec_toInt8]
  apply BitVec.eq_of_getLsbD_eq
  intro i hi
  rw [BitVec.getLsbD_and, BitVec.getLsbD_and]
  by_cases h : i < 8
  · rw [BitVec.getLsbD_signExtend, BitVec.getLsbD_signExtend]
    simp only [h, hi, decide_true, Bool.true_and, ↓reduceIte]
  · have e : ((255 : Int32).toBitVec).getLsbD i = false := by
      have : ∀ j : Fin 32, ¬ j.val < 8 → ((255 : Int32).toBitVec).getLsbD j.val = false := by decide +kernel
      exact this ⟨i, hi⟩ h
    rw [e, Bool.and_false, Bool.and_false]
/-- the TAPE of one is that of the other, up to f -/
def tpc (M N : ip_H) (f : Nat) : Prop := ∀ j, j < f → M.2.1 20 j &&& 255 = N.2.1 120 j
theorem tpc_4 {M N : ip_H} {f : Nat} (x : Int32) (h : tpc M N f) : tpc (k_t4 M f x) (c_t4 N f x) (f + 4) := by
  intro j hj
  have e1 : (k_t4 M f x).2.1 20 j = if j = f + 3 then k_by x 0 else if j = f + 2 then k_by x 8 else if j = f + 1 then k_by x 16 else if j = f then k_by x 24 else M.2.1 20 j := by
    unfold k_t4
    simp (decide := true) only [ip_uI_I, true_and, false_and, ↓reduceIte]
  have e2 : (c_t4 N f x).2.1 120 j = if j = f + 3 then c_by x 0 else if j = f + 2 then c_by x 8 else if j = f + 1 then c_by x 16 else if j = f then c_by x 24 else N.2.1 120 j := by
    unfold c_t4
    simp (decide := true) only [ip_uI_I, true_and, false_and, ↓reduceIte]
  have eb : ∀ s, k_by x s &&& 255 = c_by x s := fun s => by
    unfold k_by c_by
    exact by255 _
  rw [e1, e2]
  split
  · exact eb 0
  split
  · exact eb 8
  split
  · exact eb 16
  split
  · exact eb 24
  exact h j (by omega)
def tf5k (M : ip_H) (f : Nat) (a b c d e : Int32) : ip_H := k_t4 (k_t4 (k_t4 (k_t4 (k_t4 M f a) (f + 4) b) (f + 8) c) (f + 12) d) (f + 16) e
def tf5c (M : ip_H) (f : Nat) (a b c d e : Int32) : ip_H := c_t4 (c_t4 (c_t4 (c_t4 (c_t4 M f a) (f + 4) b) (f + 8) c) (f + 12) d) (f + 16) e
theorem tpc_5 {M N : ip_H} {f : Nat} (a b c d e : Int32) (h : tpc M N f) : tpc (tf5k M f a b c d e) (tf5c N f a b c d e) (f + 20) :=
  tpc_4 e (tpc_4 d (tpc_4 c (tpc_4 b (tpc_4 a h))))
theorem k_t4_o (M : ip_H) (f : Nat) (x : Int32) (a b : Nat) (h : ¬ a = 20) (h2 : ¬ (a = 19 ∧ b = 2)) : (k_t4 M f x).2.1 a b = M.2.1 a b := by
  unfold k_t4
  rw [ip_uI_I, if_neg h2, ip_uI_I, if_neg (by omega), ip_uI_I, if_neg h2, ip_uI_I, if_neg (by omega), ip_uI_I, if_neg h2, ip_uI_I, if_neg (by omega), ip_uI_I, if_neg h2, ip_uI_I, if_neg (by omega)]
-- the class
theorem xt_feed (X : ip_X) (M : ip_H) (K : Option Value → ip_H → Prop) (a b c d e : Int32) (f : Nat) (hf : f ≤ 200) (h2 : M.2.1 19 2 = Int32.ofNat f) (hG : ip_G M) (hI : ai_inv ai_Tb M) (h : ∀ v M1, ip_G M1 → ai_inv ai_Tb M1 → hig M M1 → M1.2.1 0 7 = M.2.1 0 7 → (¬ f + 20 ≤ 200 ∧ v = -1 ∧ M1 = M) ∨ (f + 20 ≤ 200 ∧ v = Int32.ofNat (f + 20) ∧ M1 = tf5k M f a b c d e) → K (some (.int v)) M1) : ip_wp X 119 0 [.ref 0, .int a, .int b, .int c, .int d, .int e] [] M K := by
  refine ip_wp_and (K1 := fun r M1 => ∃ v : Int32, r = some (.int v) ∧ ip_G M1 ∧ ai_inv ai_Tb M1 ∧ hig M M1 ∧ M1.2.1 0 7 = M.2.1 0 7) (K2 := fun r M1 => (¬ f + 20 ≤ 200 ∧ r = some (.int (-1)) ∧ M1 = M) ∨ (f + 20 ≤ 200 ∧ r = some (.int (Int32.ofNat (f + 20))) ∧ M1 = tf5k M f a b c d e)) (g_feed X M _ a b c d e hG hI (fun v M1 a1 a2 a3 a4 => ⟨v, rfl, a1, a2, a3, a4⟩)) (o_119 X M _ a b c d e f hf h2 hG (fun q => Or.inl ⟨q, rfl, rfl⟩) (fun q => Or.inr ⟨q, rfl, rfl⟩)) ?_
  rintro r M1 ⟨v, rfl, a1, a2, a3, a4⟩ k2
  refine h v M1 a1 a2 a3 a4 ?_
  rcases k2 with ⟨q, e1, e2⟩ | ⟨q, e1, e2⟩
  · cases e1
    exact Or.inl ⟨q, rfl, e2⟩
  · cases e1
    exact Or.inr ⟨q, rfl, e2⟩
theorem xt_end (X : ip_X) (M : ip_H) (K : Option Value → ip_H → Prop) (i : Int32) (hG : ip_G M) (hI : ai_inv ai_Tb M) (h : ∀ v M1, ip_G M1 → ai_inv ai_Tb M1 → hig M M1 → M1.2.1 0 7 = M.2.1 0 7 → (i_in i 0 (M.2.1 19 2) = false ∧ v = -1 ∧ M1 = M) ∨ (i_in i 0 (M.2.1 19 2) = true ∧ v = i ∧ M1 = ip_uI M 19 2 i) → K (some (.int v)) M1) : ip_wp X 120 0 [.ref 0, .int i] [] M K := by
  refine ip_wp_and (K1 := fun r M1 => ∃ v : Int32, r = some (.int v) ∧ ip_G M1 ∧ ai_inv ai_Tb M1 ∧ hig M M1 ∧ M1.2.1 0 7 = M.2.1 0 7) (K2 := fun r M1 => (i_in i 0 (M.2.1 19 2) = false ∧ r = some (.int (-1)) ∧ M1 = M) ∨ (i_in i 0 (M.2.1 19 2) = true ∧ r = some (.int i) ∧ M1 = ip_uI M 19 2 i)) (g_end X M _ i hG hI (fun v M1 a1 a2 a3 a4 => ⟨v, rfl, a1, a2, a3, a4⟩)) (o_120 X M _ i hG (fun q => Or.inl ⟨q, rfl, rfl⟩) (fun q => Or.inr ⟨q, rfl, rfl⟩)) ?_
  rintro r M1 ⟨v, rfl, a1, a2, a3, a4⟩ k2
  refine h v M1 a1 a2 a3 a4 ?_
  rcases k2 with ⟨q, e1, e2⟩ | ⟨q, e1, e2⟩
  · cases e1
    exact Or.inl ⟨q, rfl, e2⟩
  · cases e1
    exact Or.inr ⟨q, rfl, e2⟩
/-- what read answers, and the FAULT behind it -/
def z_rd (T : Nat → Int32) (f : Nat) : Nat × (Nat → Int32) × rd_S := rd_all T f 40 0 (fun _ => 0) (rd T f (0, 0, 0, 0))
def z_rdf (T : Nat → Int32) (f : Nat) : Int32 := if (z_rd T f).1 = 0 then Int32.ofNat (z_rd T f).2.2.2.1 else -1
theorem z_rd_D (T : Nat → Int32) (f : Nat) (D : Nat → Int32) (b0 : Nat) (t u : Int32) : (rd_all T f 40 0 D (rd T f (0, b0, t, u))).1 = (z_rd T f).1 ∧ (rd_all T f 40 0 D (rd T f (0, b0, t, u))).2.2 = (z_rd T f).2.2 := rd_all_D T f 40 0 D (fun _ => 0) (rd T f (0, 0, 0, 0))
theorem z_rd_T {T S : Nat → Int32} {f : Nat} (h : ∀ j, j < f → T j = S j) : z_rd T f = z_rd S f := by
  unfold z_rd
  rw [rd_T h, rd_all_T h]
theorem xt_fault (X : ip_X) (M : ip_H) (K : Option Value → ip_H → Prop) (hG : ip_G M) (h : K (some (.int (M.2.1 19 4))) M) : ip_wp X 123 0 [.ref 0] [] M K := Eq.mpr (o_123 X M K hG) h
-- the reference
theorem yt_feed (X : ip_X) (M : ip_H) (K : Option Value → ip_H → Prop) (a b c d e : Int32) (hG : ip_G M) (g : Ri M) (f : Nat) (hf : f ≤ 200) (h32 : M.2.1 108 32 = Int32.ofNat f) (h0 : ¬ f + 20 ≤ 200 → K (some (.int (-1))) M) (h1 : f + 20 ≤ 200 → vit M (tf5c M f a b c d e) → Ri (tf5c M f a b c d e) → K (some (.int (Int32.ofNat (f + 20)))) (tf5c M f a b c d e)) : ip_wp X 227 0 [.ref 108, .int a, .int b, .int c, .int d, .int e] [] M K := by
  refine o_227 X M K a b c d e f hf h32 hG g.1.1 h0 (fun hle => h1 hle ?_ ?_)
  · exact vit_t (vit_t4 _ _ _) (vit_t (vit_t4 _ _ _) (vit_t (vit_t4 _ _ _) (vit_t (vit_t4 _ _ _) (vit_t4 _ _ _))))
  · exact Ri_t4 (by omega) (Ri_t4 (by omega) (Ri_t4 (by omega) (Ri_t4 (by omega) (Ri_t4 (by omega) g))))
theorem yt_end (X : ip_X) (M : ip_H) (K : Option Value → ip_H → Prop) (i : Int32) (hG : ip_G M) (g : Ri M) (f : Nat) (hf : f ≤ 200) (h32 : M.2.1 108 32 = Int32.ofNat f) (h0 : i_in i 0 (Int32.ofNat f) = false → K (some (.int (-1))) M) (h1 : i_in i 0 (Int32.ofNat f) = true → vit M (ip_uI M 108 32 i) → Ri (ip_uI M 108 32 i) → K (some (.int i)) (ip_uI M 108 32 i)) : ip_wp X 228 0 [.ref 108, .int i] [] M K := by
  refine o_228 X M K i hG g.1.1 (fun h => h0 (by rw [← h32]; exact h)) (fun h => ?_)
  rw [h32] at h
  have h' := h
  obtain ⟨n, -, hn, rfl⟩ : ∃ n : Nat, 0 ≤ n ∧ n ≤ f ∧ i = Int32.ofNat n := by
    rw [i_in_z] at h
    have e0 : (0 : Int32).toInt = 0 := rfl
    have e5 : (Int32.ofNat f).toInt = f := Int32.toInt_ofNat_of_lt (by omega)
    have hx := ip_nat i (by omega)
    have e : i.toNatClampNeg = i.toInt.toNat := rfl
    exact ⟨i.toNatClampNeg, by omega, by omega, hx⟩
  have v : vit M (ip_uI M 108 32 (Int32.ofNat n)) := vit_uI (vit_r M) rfl
  exact h1 h' v (Ri_tp v rfl rfl rfl rfl rfl rfl rfl rfl n (by omega) rfl g)
theorem yt_fault (X : ip_X) (M : ip_H) (K : Option Value → ip_H → Prop) (hG : ip_G M) (g : Ri M) (h : K (some (.int (M.2.1 108 33))) M) : ip_wp X 235 0 [.ref 108] [] M K := o_235 X M K hG g.1.1 h
