theorem txv_would (X : ip_X) (M : ip_H) (K : Option Value → ip_H → Prop) (i : Int32) (j : Int32) (w : Int32) (x : Int32) (hG : ip_G M) (hI : ai_inv ai_Tb M) (gi : Ri M) (gq : Rq M) (gj : JJ M) (hw : way01 M) (ct : cpt M) (h : ∀ M1, ip_G M1 → ai_inv ai_Tb M1 → hig M M1 → tlf M M1 → K (some (.int (a_wld (M.2.1 109) i j w x))) M1) : ip_wp X 150 0 [.ref 0, .int i, .int j, .int w, .int x, .retAddr 1] [] M K :=
  ip_wp_and (K1 := fun _ M1 => ip_G M1 ∧ ai_inv ai_Tb M1 ∧ hig M M1 ∧ tlf M M1) (K2 := fun rr _ => rr = some (.int (a_wld (M.2.1 109) i j w x))) (tx_would X M _ i j w x hG hI (fun _ M1 a b c d => ⟨a, b, c, d⟩)) (av_would X M hG gi gq gj i j w x) (fun rr M1 k1 k2 => by
    rw [k2]
    exact h M1 k1.1 k1.2.1 k1.2.2.1 k1.2.2.2)

theorem qv_would (X : ip_X) (M : ip_H) (K : Option Value → ip_H → Prop) (i : Int32) (j : Int32) (w : Int32) (x : Int32) (hG : ip_G M) (gi : Ri M) (gq : Rq M) (h : ∀ M2, vq M M2 → K (some (.int (a_wld (M.2.1 109) i j w x))) M2) : ip_wp X 287 0 [.ref 108, .int i, .int j, .int w, .int x, .retAddr 1, .retAddr 1, .retAddr 1] [] M K :=
  ip_wp_and (K1 := fun _ M2 => vq M M2) (K2 := fun rr _ => rr = some (.int (a_wld (M.2.1 109) i j w x))) (q_would X M _ i j w x hG gi (fun _ M2 v => v)) (r_287 X M _ i j w x hG gi gq (fun v _ e => congrArg (fun x => some (Value.int x)) e)) (fun rr M2 k1 k2 => by
    rw [k2]
    exact h M2 k1)
