theorem txv_state (X : ip_X) (M : ip_H) (K : Option Value → ip_H → Prop) (k : Int32) (w : Int32) (j : Int32) (hG : ip_G M) (hI : ai_inv ai_Tb M) (gi : Ri M) (gq : Rq M) (gj : JJ M) (hw : way01 M) (ct : cpt M) (h : ∀ M1, ip_G M1 → ai_inv ai_Tb M1 → hig M M1 → tlf M M1 → K (some (.int (a_sta (M.2.1 109) k w j))) M1) : ip_wp X 131 0 [.ref 0, .int k, .int w, .int j] [] M K :=
  ip_wp_and (K1 := fun _ M1 => ip_G M1 ∧ ai_inv ai_Tb M1 ∧ hig M M1 ∧ tlf M M1) (K2 := fun rr _ => rr = some (.int (a_sta (M.2.1 109) k w j))) (tx_state X M _ k w j hG hI (fun _ M1 a b c d => ⟨a, b, c, d⟩)) (Eq.mpr (x0_state X M _ hG gi gq gj k w j) rfl) (fun rr M1 k1 k2 => by
    rw [k2]
    exact h M1 k1.1 k1.2.1 k1.2.2.1 k1.2.2.2)

theorem qv_state (X : ip_X) (M : ip_H) (K : Option Value → ip_H → Prop) (k : Int32) (w : Int32) (j : Int32) (hG : ip_G M) (gi : Ri M) (gq : Rq M) (h : ∀ M2, vq M M2 → K (some (.int (a_sta (M.2.1 109) k w j))) M2) : ip_wp X 240 0 [.ref 108, .int k, .int w, .int j, .retAddr 1] [] M K :=
  ip_wp_and (K1 := fun _ M2 => vq M M2) (K2 := fun rr _ => rr = some (.int (a_sta (M.2.1 109) k w j))) (q_state X M _ k w j hG gi (fun _ M2 v => v)) (r_240 X M _ k w j hG (rw_q3 gi.2.1) gi.1.1 gi.2.1.2.1 (fun v e => congrArg (fun x => some (Value.int x)) e)) (fun rr M2 k1 k2 => by
    rw [k2]
    exact h M2 k1)
