-- EACH METHOD OF THE REFERENCE between two calls
theorem vn_out (M : ip_H) (p q r : Int32) (b : Nat) (h0 : ¬ b = 0) (h1 : ¬ b = 1) (h2 : ¬ b = 2) : (v_n M p q r).2.1 109 b = M.2.1 109 b := by
  unfold v_n
  rw [ip_uI_I, if_neg (by omega), ip_uI_I, if_neg (by omega), ip_uI_I, if_neg (by omega)]
theorem vn_back {M N : ip_H} (h : ∀ b, ¬ b = 0 → ¬ b = 1 → ¬ b = 2 → N.2.1 109 b = M.2.1 109 b) : (v_n N (M.2.1 109 0) (M.2.1 109 1) (M.2.1 109 2)).2.1 109 = M.2.1 109 := by
  funext b
  by_cases h2 : b = 2
  · subst h2; rfl
  by_cases h1 : b = 1
  · subst h1; rfl
  by_cases h0 : b = 0
  · subst h0; rfl
  rw [vn_out _ _ _ _ _ h0 h1 h2, h b h0 h1 h2]
theorem ft_row (M : ip_H) (z : Int × Int × Int × Int) (b : Nat) : (c_ft M z).2.1 109 b = M.2.1 109 b := by
  unfold c_ft
  rw [ip_uI_I, if_neg (by omega), ip_uI_I, if_neg (by omega), ip_uI_I, if_neg (by omega), ip_uI_I, if_neg (by omega)]
theorem z2_row (M : ip_H) (z : Int × Int × Int × Int) (b : Nat) : (c_2z M z).2.1 109 b = M.2.1 109 b := by
  unfold c_2z c_2nd
  rw [ip_uI_I, if_neg (by omega), ip_uI_I, if_neg (by omega), ip_uI_I, if_neg (by omega), ip_uI_I, if_neg (by omega)]
theorem rN_110 (M : ip_H) (R S : Nat → Int64) (B : Bool) : (c_rN M R S B).2.2.1 110 = M.2.2.1 110 := funext fun b => by rw [c_rN_L, if_neg (by decide), if_neg (by decide)]
theorem x4_110 {M : ip_H} (N : ip_H) (z : Int × Int × Int × Int) (h : N.2.2.1 110 = M.2.2.1 110) : (c_x4 N z).2.2.1 110 = M.2.2.1 110 := by
  rw [← h]
  funext b
  unfold c_x4 ip_x4
  rw [ip_uL_L, if_neg (by omega), ip_uL_L, if_neg (by omega), ip_uL_L, if_neg (by omega), ip_uL_L, if_neg (by omega)]
theorem vn_110 {M : ip_H} (N : ip_H) (p q r : Int32) (h : N.2.2.1 110 = M.2.2.1 110) : (v_n N p q r).2.2.1 110 = M.2.2.1 110 := h
theorem st_I (M : ip_H) (f g : Int × Int × Int × Int) (b : Nat) : (c_st M f g).2.1 109 b = if b = 16 then Int32.ofInt g.2.2.2 else if b = 12 then Int32.ofInt f.2.2.2 else if b = 15 then Int32.ofInt g.2.2.1 else if b = 11 then Int32.ofInt f.2.2.1 else if b = 14 then Int32.ofInt g.2.1 else if b = 10 then Int32.ofInt f.2.1 else if b = 13 then Int32.ofInt g.1 else if b = 9 then Int32.ofInt f.1 else M.2.1 109 b := by
  unfold c_st
  simp only [ip_uI_I, true_and]
theorem Ri_st2 {M : ip_H} {f g : Int × Int × Int × Int} (hf : c_v4 f) (hg : c_v4 g) (h : Ri M) : Ri (c_st M f g) := by
  have out : ∀ b, (b < 9 ∨ 17 ≤ b) → (c_st M f g).2.1 109 b = M.2.1 109 b := fun b hb => by
    rw [st_I, if_neg (by omega), if_neg (by omega), if_neg (by omega), if_neg (by omega), if_neg (by omega), if_neg (by omega), if_neg (by omega), if_neg (by omega)]
  refine ⟨Rk_vis (vis_st M f g) h.1, rw_st (fun j hj h9 => out j (by omega)) (fun k hk => ?_) h.2.1, h.2.2⟩
  by_cases e0 : k = 0
  · subst e0
    exact c_vo_put (s := 9) (by rw [st_I]; rfl) (by rw [st_I]; rfl) (by rw [st_I]; rfl) (by rw [st_I]; rfl) hf
  by_cases e1 : k = 1
  · subst e1
    exact c_vo_put (s := 13) (by rw [st_I]; rfl) (by rw [st_I]; rfl) (by rw [st_I]; rfl) (by rw [st_I]; rfl) hg
  exact c_vo_c (fun j hj => out _ (by omega)) (h.2.1.2.2.2.2.1 k hk)
theorem as_110 (M : ip_H) : (c_as M).2.2.1 110 = M.2.2.1 110 := funext fun b => by
  unfold c_as
  rw [ip_sL_L, if_neg (by decide), ip_sI_L]
theorem as_126 (M : ip_H) (b : Nat) (hb : b < 821) : (c_as M).2.1 126 b = M.2.1 109 b := by
  unfold c_as
  rw [ip_sL_I, ip_sI_I, if_pos rfl]
  unfold c_cp
  rw [if_pos (by omega)]
  exact congrArg (M.2.1 109) (by omega)
theorem as_127 (M : ip_H) (b : Nat) (hb : b < 9) : (c_as M).2.2.1 127 b = M.2.2.1 110 b := by
  unfold c_as
  rw [ip_sL_L, if_pos rfl]
  unfold c_cp
  rw [if_pos (by omega)]
  exact congrArg (M.2.2.1 110) (by omega)
theorem rb_row (M : ip_H) (b : Nat) (hb : b < 821) : (c_rb M).2.1 109 b = M.2.1 126 b := by
  unfold c_rb
  rw [ip_sL_I, ip_sI_I, if_pos rfl]
  unfold c_cp
  rw [if_pos (by omega)]
  exact congrArg (M.2.1 126) (by omega)
theorem rb_110 (M : ip_H) (b : Nat) (hb : b < 9) : (c_rb M).2.2.1 110 b = M.2.2.1 127 b := by
  unfold c_rb
  rw [ip_sL_L, if_pos rfl]
  unfold c_cp
  rw [if_pos (by omega)]
  exact congrArg (M.2.2.1 127) (by omega)
theorem bg_126 (M : ip_H) (i j : Nat) (w : Int32) : (c_bg M i j w).2.1 126 = M.2.1 126 := funext fun b => by
  unfold c_bg
  simp (decide := true) only [ip_uL_I, ip_uI_I, false_and, ↓reduceIte]
theorem bg_127 (M : ip_H) (i j : Nat) (w : Int32) : (c_bg M i j w).2.2.1 127 = M.2.2.1 127 := funext fun b => by
  unfold c_bg
  simp (decide := true) only [ip_uL_L, ip_uI_L, false_and, ↓reduceIte]
theorem dn1_126 (L : ip_H) (t : Bool) : (c_dn1 L t).2.1 126 = L.2.1 126 := funext fun b => by
  unfold c_dn1
  rw [c_lb_I _ _ _ _ (by omega)]
  unfold c_do
  rw [ip_sL_I, ip_sI_I, if_neg (by decide)]
theorem dn1_127 (L : ip_H) (t : Bool) : (c_dn1 L t).2.2.1 127 = L.2.2.1 127 := funext fun b => by
  unfold c_dn1
  rw [c_lb_L]
  unfold c_do
  rw [ip_sL_L, if_neg (by decide), ip_sI_L]

theorem f_field (X : ip_X) (M : ip_H) (K : Option Value → ip_H → Prop) (p : Int32) (q : Int32) (r : Int32) (hG : ip_G M) (g : Ri M) (h : ∀ v M1, vix M M1 → Ri M1 → K (some (.int v)) M1) : ip_wp X 201 0 [.ref 108, .int p, .int q, .int r] [] M K := by
  have g0 := g
  obtain ⟨⟨ht, hm, ⟨f, hf, h32⟩, g4, g5, g6, g7⟩, gr, hn⟩ := g0
  have hq := rw_q3 gr
  have hpv := rw_prv gr
  have hpd := rw_prd gr
  obtain ⟨hF, hc, g3, hw, hV, ⟨wm, wm40, w8, wwd⟩, g9⟩ := gr
  exact o_201 X M K p q r hG hq hm ht (fun _ => h _ _ (vix_vis (vis_no M _ _)) (Ri_no g)) (fun _ _ _ _ => h _ _ (vix_vis (vis_no M _ _)) (Ri_no g)) (fun _ _ _ e => h _ _ (vix_t (vix_ks M 0) (vix_vis (vis_t (vis_cl _ _ _ _) (vis_ye _)))) (Ri_ye (Ri_cl e (Ri_ks g))))

theorem f_set (X : ip_X) (M : ip_H) (K : Option Value → ip_H → Prop) (i : Int32) (a : Int32) (b : Int32) (c : Int32) (d : Int32) (hG : ip_G M) (g : Ri M) (h : ∀ v M1, vix M M1 → Ri M1 → K (some (.int v)) M1) : ip_wp X 203 0 [.ref 108, .int i, .int a, .int b, .int c, .int d] [] M K := by
  have g0 := g
  obtain ⟨⟨ht, hm, ⟨f, hf, h32⟩, g4, g5, g6, g7⟩, gr, hn⟩ := g0
  have hq := rw_q3 gr
  have hpv := rw_prv gr
  have hpd := rw_prd gr
  obtain ⟨hF, hc, g3, hw, hV, ⟨wm, wm40, w8, wwd⟩, g9⟩ := gr
  refine o_203 X M K i a b c d hG hq hm ht (fun _ => h _ _ (vix_vis (vis_no M _ _)) (Ri_no g)) (fun _ => h _ _ (vix_vis (vis_no M _ _)) (Ri_no g)) ?_
  intro k hk _ h1 h2 h3 h4 h5
  obtain ⟨z1, z2, z3, z4⟩ := zl_b (z := (a.toInt, b.toInt, c.toInt, d.toInt)) h1 h2 h3 h4
  have z5 : 1 ≤ (zl (a.toInt, b.toInt, c.toInt, d.toInt)).2.2.2 := zg_d h5
  exact h _ _ (vix_t (vix_ks M 1) (vix_vis (vis_t (vis_x4 _ _) (vis_ly _ _ _ _ _ _)))) (Ri_l4 hk ⟨z1, z2, z3, z5, z4.2⟩ (Ri_x4 (Ri_ks g)))

theorem f_measure (X : ip_X) (M : ip_H) (K : Option Value → ip_H → Prop) (i : Int32) (l : Int64) (hG : ip_G M) (g : Ri M) (h : ∀ v M1, vix M M1 → Ri M1 → K (some (.int v)) M1) : ip_wp X 204 0 [.ref 108, .int i, .long l, .retAddr 1, .retAddr 1, .retAddr 1, .retAddr 1, .retAddr 1, .retAddr 1, .retAddr 1, .retAddr 1, .retAddr 1, .retAddr 1] [] M K := by
  have g0 := g
  obtain ⟨⟨ht, hm, ⟨f, hf, h32⟩, g4, g5, g6, g7⟩, gr, hn⟩ := g0
  have hq := rw_q3 gr
  have hpv := rw_prv gr
  have hpd := rw_prd gr
  obtain ⟨hF, hc, g3, hw, hV, ⟨wm, wm40, w8, wwd⟩, g9⟩ := gr
  refine o_204 X M K i l hG hq hm ht (fun _ => h _ _ (vix_vis (vis_no M _ _)) (Ri_no g)) (fun _ => h _ _ (vix_vis (vis_no M _ _)) (Ri_no g)) ?_
  intro k hk _ U Lo _ z _ hz
  exact h _ _ (vix_t (vix_ks M 2) (vix_vis (vis_t (vis_x4 _ _) (vis_ly _ _ _ _ _ _)))) (Ri_l4 hk hz (Ri_x4 (Ri_ks g)))

theorem f_combine (X : ip_X) (M : ip_H) (K : Option Value → ip_H → Prop) (h' : Int32) (i : Int32) (j : Int32) (k : Int32) (hG : ip_G M) (g : Ri M) (h : ∀ v M1, vix M M1 → Ri M1 → K (some (.int v)) M1) : ip_wp X 207 0 [.ref 108, .int h', .int i, .int j, .int k] [] M K := by
  have g0 := g
  obtain ⟨⟨ht, hm, ⟨f, hf, h32⟩, g4, g5, g6, g7⟩, gr, hn⟩ := g0
  have hq := rw_q3 gr
  have hpv := rw_prv gr
  have hpd := rw_prd gr
  obtain ⟨hF, hc, g3, hw, hV, ⟨wm, wm40, w8, wwd⟩, g9⟩ := gr
  refine o_207 X M K h' i j k hG hq hm ht hF hV (fun _ => h _ _ (vix_vis (vis_no M _ _)) (Ri_no g)) (fun _ => h _ _ (vix_vis (vis_no M _ _)) (Ri_no g)) (h _ _ (vix_vis (vis_no M _ _)) (Ri_no g)) (fun z => h _ _ (vix_vis (vis_t (vis_x4 M z) (vis_no _ _ _))) (Ri_no (Ri_x4 g))) ?_
  intro n i' j' k' hn' hi hj hk _ _ _ _ _ z _ hz
  exact h _ _ (vix_t (vix_vis (vis_x4 M z)) (vix_t (vix_ks _ 3) (vix_vis (vis_ly _ _ _ _ _ _)))) (Ri_l4 hk hz (Ri_ks (Ri_x4 g)))

theorem f_begin (X : ip_X) (M : ip_H) (K : Option Value → ip_H → Prop) (i : Int32) (j : Int32) (hG : ip_G M) (g : Ri M) (h : ∀ v M1, vix M M1 → Ri M1 → K (some (.int v)) M1) : ip_wp X 212 0 [.ref 108, .int i, .int j] [] M K := by
  have g0 := g
  obtain ⟨⟨ht, hm, ⟨f, hf, h32⟩, g4, g5, g6, g7⟩, gr, hn⟩ := g0
  have hq := rw_q3 gr
  have hpv := rw_prv gr
  have hpd := rw_prd gr
  obtain ⟨hF, hc, g3, hw, hV, ⟨wm, wm40, w8, wwd⟩, g9⟩ := gr
  refine o_212 X M K i j hG hq hm ht (fun _ => h _ _ (vix_vis (vis_no M _ _)) (Ri_no g)) (h _ _ (vix_vis (vis_no M _ _)) (Ri_no g)) ?_
  intro i' j' hi hj _ _ hb r
  have er : (c_ks M 4).2.1 109 = M.2.1 109 := ks_row M 4
  exact h _ _ (vix_t (vix_ks M 4) (vix_vis (vis_t (vis_bg _ _ _ _) (vis_ye _)))) (Ri_ye (Ri_bg hi hj (by rw [er]; exact hb) (Ri_ks g)))

theorem f_step (X : ip_X) (M : ip_H) (K : Option Value → ip_H → Prop)  (hG : ip_G M) (g : Ri M) (h : ∀ v M1, vix M M1 → Ri M1 → K (some (.int v)) M1) : ip_wp X 223 0 [.ref 108] [] M K := by
  have g0 := g
  obtain ⟨⟨ht, hm, ⟨f, hf, h32⟩, g4, g5, g6, g7⟩, gr, hn⟩ := g0
  have hq := rw_q3 gr
  have hpv := rw_prv gr
  have hpd := rw_prd gr
  obtain ⟨hF, hc, g3, hw, hV, ⟨wm, wm40, w8, wwd⟩, g9⟩ := gr
  refine o_223 X M K hG hq hm ht hF hc (fun M1 s => h _ _ (vix_vis (vis_t (vis_scr s) (vis_no _ _ _))) (Ri_no (Ri_scr s g))) (fun M1 s => h _ _ (vix_vis (vis_t (vis_scr s) (vis_no _ _ _))) (Ri_no (Ri_scr s g))) ?_
  intro h3 he M1 s ht1
  have er : (c_ks M1 5).2.1 109 = M.2.1 109 := by rw [ks_row, scr_row s]
  rw [dn1_eq er]
  exact h _ _ (vix_t (vix_scr s) (vix_t (vix_ks M1 5) (vix_vis (vis_t (vis_dn1 _ _) (vis_ye _))))) (Ri_ye (Ri_dn1 (Ri_ks (Ri_scr s g)) (by rw [er]; exact h3) (by rw [er]; exact he) (ks_tried s ht1)))

theorem f_go (X : ip_X) (M : ip_H) (K : Option Value → ip_H → Prop) (n : Int32) (hG : ip_G M) (g : Ri M) (h : ∀ v M1, vix M M1 → Ri M1 → K (some (.int v)) M1) : ip_wp X 224 0 [.ref 108, .int n, .retAddr 1, .retAddr 1, .retAddr 1] [] M K := by
  have g0 := g
  obtain ⟨⟨ht, hm, ⟨f, hf, h32⟩, g4, g5, g6, g7⟩, gr, hn⟩ := g0
  have hq := rw_q3 gr
  have hpv := rw_prv gr
  have hpd := rw_prd gr
  obtain ⟨hF, hc, g3, hw, hV, ⟨wm, wm40, w8, wwd⟩, g9⟩ := gr
  refine o_224 X M K n hG hq hm ht hF hc (h _ _ (vix_vis (vis_no M _ _)) (Ri_no g)) (fun M1 s => h _ _ (vix_vis (vis_t (vis_scr s) (vis_no _ _ _))) (Ri_no (Ri_scr s g))) (fun M1 s => h _ _ (vix_vis (vis_t (vis_scr s) (vis_no _ _ _))) (Ri_no (Ri_scr s g))) ?_
  intro h3 he k hk1 hk60 _ M1 s ht1
  have er : (c_ks M1 6).2.1 109 = M.2.1 109 := by rw [ks_row, scr_row s]
  refine ⟨fun _ L => Ri L ∧ vix M L ∧ ¬ L.2.1 109 3 = 0 ∧ r_e (L.2.1 109) = false ∧ tried L L, ?_, ?_, ?_⟩
  · exact ⟨Ri_ks (Ri_scr s g), vix_t (vix_scr s) (vix_ks M1 6), by rw [er]; exact h3, by rw [er]; exact he, ks_tried s ht1⟩
  · rintro m L ⟨gL, vL, l3, le, lt⟩
    have lc := gL.2.1.2.1 l3
    have l60 := lc.2.1
    have n60 := lt.1
    obtain ⟨-, -, u, v, -, -, -, -, -, -, e27, -⟩ := lt
    exact ⟨vix_G vL hG, ⟨_, e27⟩, lc.1, by omega⟩
  · rintro m L t ⟨gL, vL, l3, le, lt⟩ _ _
    have gD : Ri (c_dn1 L t) := Ri_dn1 gL l3 le lt
    have vD : vix M (c_dn1 L t) := vix_t vL (vix_vis (vis_dn1 L t))
    have d3 : ¬ (c_dn1 L t).2.1 109 3 = 0 := by rw [(rw_dn L t gL.2.1 gL.2.2 l3 le lt).2.2]; exact l3
    refine ⟨⟨gD.2.1.1, gD.2.1.2.1 d3⟩, fun D' s' => h _ _ (vix_t vD (vix_t (vix_scr s') (vix_vis (vis_ye _)))) (Ri_ye (Ri_scr s' gD)), ?_⟩
    intro _ _ de L' s' ht'
    have eL := scr_row s'
    exact ⟨Ri_scr s' gD, vix_t vD (vix_scr s'), by rw [eL]; exact d3, by rw [eL]; exact de, tried_row eL.symm (scr_110 s').symm ht'⟩

theorem f_keep (X : ip_X) (M : ip_H) (K : Option Value → ip_H → Prop) (i : Int32) (j : Int32) (hG : ip_G M) (g : Ri M) (h : ∀ v M1, vix M M1 → Ri M1 → K (some (.int v)) M1) : ip_wp X 225 0 [.ref 108, .int i, .int j, .retAddr 1, .retAddr 1] [] M K := by
  have g0 := g
  obtain ⟨⟨ht, hm, ⟨f, hf, h32⟩, g4, g5, g6, g7⟩, gr, hn⟩ := g0
  have hq := rw_q3 gr
  have hpv := rw_prv gr
  have hpd := rw_prd gr
  obtain ⟨hF, hc, g3, hw, hV, ⟨wm, wm40, w8, wwd⟩, g9⟩ := gr
  refine o_225 X M K i j hG hq hm ht hF hc (fun _ => h _ _ (vix_vis (vis_no M _ _)) (Ri_no g)) (fun _ => h _ _ (vix_vis (vis_no M _ _)) (Ri_no g)) ?_
  intro h3 i' j' hi hj _ _
  have er : (c_ks M 7).2.1 109 = M.2.1 109 := ks_row M 7
  obtain ⟨v1, v2⟩ := (hc h3).2.2 _ (Nat.le_refl _)
  refine h _ _ (vix_t (vix_ks M 7) (vix_vis (vis_t (vis_mv _ _ _) (vis_t (vis_mv _ _ _) (vis_ye _))))) (Ri_ye (Ri_mv hj ?_ (Ri_mv hi (by rw [er]; exact v1) (Ri_ks g))))
  refine c_vo_c (fun b hb => ?_) v2
  rw [mv_out _ _ _ _ (by omega), er]

theorem f_solve (X : ip_X) (M : ip_H) (K : Option Value → ip_H → Prop)  (hG : ip_G M) (g : Ri M) (h : ∀ v M1, vix M M1 → Ri M1 → K (some (.int v)) M1) : ip_wp X 284 0 [.ref 108, .retAddr 1, .retAddr 1, .retAddr 1, .retAddr 1, .retAddr 1, .retAddr 1, .retAddr 1, .retAddr 1] [] M K := by
  have g0 := g
  obtain ⟨⟨ht, hm, ⟨f, hf, h32⟩, g4, g5, g6, g7⟩, gr, hn⟩ := g0
  have hq := rw_q3 gr
  have hpv := rw_prv gr
  have hpd := rw_prd gr
  obtain ⟨hF, hc, g3, hw, hV, ⟨wm, wm40, w8, wwd⟩, g9⟩ := gr
  refine o_284 X M K hG hm ht wm wm40 w8 wwd (fun _ => h _ _ (vix_vis (vis_no M _ _)) (Ri_no g)) (fun R S B => h _ _ (vix_vis (vis_t (vis_rN M R S B) (vis_no _ _ _))) (Ri_no (Ri_rN g))) ?_ ?_ ?_
  · intro R S B P Q e z
    have v : vis M (v_n (c_x4 (v_n (c_rN M R S B) P (-Q) e) z) (M.2.1 109 0) (M.2.1 109 1) (M.2.1 109 2)) := vis_t (vis_rN M R S B) (vis_t (vis_vn _ _ _ _) (vis_t (vis_x4 _ _) (vis_vn _ _ _ _)))
    refine h _ _ (vix_vis (vis_t v (vis_no _ _ _))) (Ri_no (Ri_vis v (vn_back ?_) ?_ g))
    · intro b h0 h1 h2
      show (v_n (c_rN M R S B) P (-Q) e).2.1 109 b = _
      rw [vn_out _ _ _ _ _ h0 h1 h2, c_rN_109]
    · exact x4_110 _ _ (vn_110 _ _ _ _ (rN_110 M R S B))
  · intro R S B P Q e z z2
    have v : vis M (v_n (c_x4 (c_ft (c_x4 (v_n (c_rN M R S B) P (-Q) e) z) z) z2) (M.2.1 109 0) (M.2.1 109 1) (M.2.1 109 2)) := vis_t (vis_rN M R S B) (vis_t (vis_vn _ _ _ _) (vis_t (vis_x4 _ _) (vis_t (vis_ft _ _) (vis_t (vis_x4 _ _) (vis_vn _ _ _ _)))))
    refine h _ _ (vix_vis (vis_t v (vis_no _ _ _))) (Ri_no (Ri_vis v (vn_back ?_) ?_ g))
    · intro b h0 h1 h2
      show (c_ft (c_x4 (v_n (c_rN M R S B) P (-Q) e) z) z).2.1 109 b = _
      rw [ft_row]
      show (v_n (c_rN M R S B) P (-Q) e).2.1 109 b = _
      rw [vn_out _ _ _ _ _ h0 h1 h2, c_rN_109]
    · exact x4_110 _ _ (x4_110 _ _ (vn_110 _ _ _ _ (rN_110 M R S B)))
  · intro R S B P Q e z z2 hz hv1 hv2
    have v : vis M (v_n (c_2z (c_x4 (c_ft (c_x4 (v_n (c_rN M R S B) P (-Q) e) z) z) z2) z2) (M.2.1 109 0) (M.2.1 109 1) (M.2.1 109 2)) := vis_t (vis_rN M R S B) (vis_t (vis_vn _ _ _ _) (vis_t (vis_x4 _ _) (vis_t (vis_ft _ _) (vis_t (vis_x4 _ _) (vis_t (vis_2z _ _) (vis_vn _ _ _ _))))))
    have gB : Ri (v_n (c_2z (c_x4 (c_ft (c_x4 (v_n (c_rN M R S B) P (-Q) e) z) z) z2) z2) (M.2.1 109 0) (M.2.1 109 1) (M.2.1 109 2)) := by
      refine Ri_vis v (vn_back ?_) ?_ g
      · intro b h0 h1 h2
        rw [z2_row]
        show (c_ft (c_x4 (v_n (c_rN M R S B) P (-Q) e) z) z).2.1 109 b = _
        rw [ft_row]
        show (v_n (c_rN M R S B) P (-Q) e).2.1 109 b = _
        rw [vn_out _ _ _ _ _ h0 h1 h2, c_rN_109]
      · exact x4_110 _ _ (x4_110 _ _ (vn_110 _ _ _ _ (rN_110 M R S B)))
    exact h _ _ (vix_t (vix_vis v) (vix_t (vix_ks _ 9) (vix_vis (vis_t (vis_cl _ _ _ _) (vis_t (vis_st _ _ _) (vis_ye _)))))) (Ri_ye (Ri_st2 hv1 hv2 (Ri_cl hz (Ri_ks gB))))

theorem f_fault (X : ip_X) (M : ip_H) (K : Option Value → ip_H → Prop)  (hG : ip_G M) (g : Ri M) (h : ∀ v M1, vix M M1 → Ri M1 → K (some (.int v)) M1) : ip_wp X 235 0 [.ref 108] [] M K := by
  have g0 := g
  obtain ⟨⟨ht, hm, ⟨f, hf, h32⟩, g4, g5, g6, g7⟩, gr, hn⟩ := g0
  have hq := rw_q3 gr
  have hpv := rw_prv gr
  have hpd := rw_prd gr
  obtain ⟨hF, hc, g3, hw, hV, ⟨wm, wm40, w8, wwd⟩, g9⟩ := gr
  exact o_235 X M K hG ht (h _ M (vix_r M) g)

theorem f_undo (X : ip_X) (M : ip_H) (K : Option Value → ip_H → Prop)  (hG : ip_G M) (g : Ri M) (h : ∀ v M1, vix M M1 → Ri M1 → K (some (.int v)) M1) : ip_wp X 172 0 [.ref 108] [] M K := by
  have g0 := g
  obtain ⟨⟨ht, hm, ⟨f, hf, h32⟩, g4, g5, g6, g7⟩, gr, hn⟩ := g0
  have hq := rw_q3 gr
  have hpv := rw_prv gr
  have hpd := rw_prd gr
  obtain ⟨hF, hc, g3, hw, hV, ⟨wm, wm40, w8, wwd⟩, g9⟩ := gr
  refine o_172 X M K hG hm ht (fun _ => h _ _ (vix_vis (vis_no M _ _)) (Ri_no g)) ?_
  intro m hm7 e
  exact h _ _ (vix_t (vix_bk M _ m) (vix_vis (vis_ye _))) (Ri_ye (Ri_bk hm7 e g))

theorem f_image (X : ip_X) (M : ip_H) (K : Option Value → ip_H → Prop) (k : Int32) (hG : ip_G M) (g : Ri M) (h : ∀ v M1, vix M M1 → Ri M1 → K (some (.int v)) M1) : ip_wp X 174 0 [.ref 108, .int k, .retAddr 1] [] M K := by
  have g0 := g
  obtain ⟨⟨ht, hm, ⟨f, hf, h32⟩, g4, g5, g6, g7⟩, gr, hn⟩ := g0
  have hq := rw_q3 gr
  have hpv := rw_prv gr
  have hpd := rw_prd gr
  obtain ⟨hF, hc, g3, hw, hV, ⟨wm, wm40, w8, wwd⟩, g9⟩ := gr
  refine o_174 X M K k hG ht (fun _ => h _ _ (vix_vis (vis_no M _ _)) (Ri_no g)) ?_
  intro m hm1 _
  exact h _ _ (vix_t (vix_im M m) (vix_vis (vis_ye _))) (Ri_ye (Ri_im hm1 g))

theorem f_back (X : ip_X) (M : ip_H) (K : Option Value → ip_H → Prop) (k : Int32) (hG : ip_G M) (g : Ri M) (h : ∀ v M1, vix M M1 → Ri M1 → K (some (.int v)) M1) : ip_wp X 175 0 [.ref 108, .int k, .retAddr 1] [] M K := by
  have g0 := g
  obtain ⟨⟨ht, hm, ⟨f, hf, h32⟩, g4, g5, g6, g7⟩, gr, hn⟩ := g0
  have hq := rw_q3 gr
  have hpv := rw_prv gr
  have hpd := rw_prd gr
  obtain ⟨hF, hc, g3, hw, hV, ⟨wm, wm40, w8, wwd⟩, g9⟩ := gr
  refine o_175 X M K k hG ht (fun _ => h _ _ (vix_vis (vis_no M _ _)) (Ri_no g)) (fun _ _ _ _ => h _ _ (vix_vis (vis_no M _ _)) (Ri_no g)) ?_
  intro m hm1 _ hne
  exact h _ _ (vix_t (vix_bi M m) (vix_vis (vis_ye _))) (Ri_ye (Ri_bi hm1 hne g))

theorem f_value (X : ip_X) (M : ip_H) (K : Option Value → ip_H → Prop) (i : Int32) (j : Int32) (hG : ip_G M) (g : Ri M) (h : ∀ v M1, vix M M1 → Ri M1 → K (some (.int v)) M1) : ip_wp X 236 0 [.ref 108, .int i, .int j] [] M K := by
  have g0 := g
  obtain ⟨⟨ht, hm, ⟨f, hf, h32⟩, g4, g5, g6, g7⟩, gr, hn⟩ := g0
  have hq := rw_q3 gr
  have hpv := rw_prv gr
  have hpd := rw_prd gr
  obtain ⟨hF, hc, g3, hw, hV, ⟨wm, wm40, w8, wwd⟩, g9⟩ := gr
  exact o_236 X M K i j hG hq ht (fun v => h v M (vix_r M) g)

theorem f_matrix (X : ip_X) (M : ip_H) (K : Option Value → ip_H → Prop) (i : Int32) (j : Int32) (k : Int32) (hG : ip_G M) (g : Ri M) (h : ∀ v M1, vix M M1 → Ri M1 → K (some (.long v)) M1) : ip_wp X 237 0 [.ref 108, .int i, .int j, .int k, .retAddr 1, .retAddr 1, .retAddr 1, .retAddr 1, .retAddr 1, .retAddr 1, .retAddr 1, .retAddr 1, .retAddr 1, .retAddr 1, .retAddr 1] [] M K := by
  have g0 := g
  obtain ⟨⟨ht, hm, ⟨f, hf, h32⟩, g4, g5, g6, g7⟩, gr, hn⟩ := g0
  have hq := rw_q3 gr
  have hpv := rw_prv gr
  have hpd := rw_prd gr
  obtain ⟨hF, hc, g3, hw, hV, ⟨wm, wm40, w8, wwd⟩, g9⟩ := gr
  exact o_237 X M K i j k hG ht (fun v => h v M (vix_r M) g)

theorem f_norm (X : ip_X) (M : ip_H) (K : Option Value → ip_H → Prop) (i : Int32) (j : Int32) (k : Int32) (hG : ip_G M) (g : Ri M) (h : ∀ v M1, vix M M1 → Ri M1 → K (some (.long v)) M1) : ip_wp X 238 0 [.ref 108, .int i, .int j, .int k, .retAddr 1, .retAddr 1, .retAddr 1, .retAddr 1, .retAddr 1, .retAddr 1, .retAddr 1, .retAddr 1, .retAddr 1, .retAddr 1, .retAddr 1, .retAddr 1, .retAddr 1, .retAddr 1] [] M K := by
  have g0 := g
  obtain ⟨⟨ht, hm, ⟨f, hf, h32⟩, g4, g5, g6, g7⟩, gr, hn⟩ := g0
  have hq := rw_q3 gr
  have hpv := rw_prv gr
  have hpd := rw_prd gr
  obtain ⟨hF, hc, g3, hw, hV, ⟨wm, wm40, w8, wwd⟩, g9⟩ := gr
  exact o_238 X M K i j k hG hq ht (fun i hi => (hV i hi).2.2.2) (fun v => h v M (vix_r M) g)

theorem f_compare (X : ip_X) (M : ip_H) (K : Option Value → ip_H → Prop) (i : Int32) (j : Int32) (hG : ip_G M) (g : Ri M) (h : ∀ v M1, vix M M1 → Ri M1 → K (some (.int v)) M1) : ip_wp X 239 0 [.ref 108, .int i, .int j, .retAddr 1, .retAddr 1, .retAddr 1, .retAddr 1] [] M K := by
  have g0 := g
  obtain ⟨⟨ht, hm, ⟨f, hf, h32⟩, g4, g5, g6, g7⟩, gr, hn⟩ := g0
  have hq := rw_q3 gr
  have hpv := rw_prv gr
  have hpd := rw_prd gr
  obtain ⟨hF, hc, g3, hw, hV, ⟨wm, wm40, w8, wwd⟩, g9⟩ := gr
  exact o_239 X M K i j hG hq ht (fun v => h v M (vix_r M) g)

theorem f_state (X : ip_X) (M : ip_H) (K : Option Value → ip_H → Prop) (k : Int32) (w : Int32) (j : Int32) (hG : ip_G M) (g : Ri M) (h : ∀ v M1, vix M M1 → Ri M1 → K (some (.int v)) M1) : ip_wp X 240 0 [.ref 108, .int k, .int w, .int j, .retAddr 1] [] M K := by
  have g0 := g
  obtain ⟨⟨ht, hm, ⟨f, hf, h32⟩, g4, g5, g6, g7⟩, gr, hn⟩ := g0
  have hq := rw_q3 gr
  have hpv := rw_prv gr
  have hpd := rw_prd gr
  obtain ⟨hF, hc, g3, hw, hV, ⟨wm, wm40, w8, wwd⟩, g9⟩ := gr
  exact o_240 X M K k w j hG hq ht hc (fun v => h v M (vix_r M) g)

theorem f_digit (X : ip_X) (M : ip_H) (K : Option Value → ip_H → Prop) (i : Int32) (j : Int32) (hG : ip_G M) (g : Ri M) (h : ∀ v M1, vix M M1 → Ri M1 → K (some (.int v)) M1) : ip_wp X 241 0 [.ref 108, .int i, .int j] [] M K := by
  have g0 := g
  obtain ⟨⟨ht, hm, ⟨f, hf, h32⟩, g4, g5, g6, g7⟩, gr, hn⟩ := g0
  have hq := rw_q3 gr
  have hpv := rw_prv gr
  have hpd := rw_prd gr
  obtain ⟨hF, hc, g3, hw, hV, ⟨wm, wm40, w8, wwd⟩, g9⟩ := gr
  exact o_241 X M K i j hG ht hc (fun v => h v M (vix_r M) g)

theorem f_product (X : ip_X) (M : ip_H) (K : Option Value → ip_H → Prop) (i : Int32) (j : Int32) (hG : ip_G M) (g : Ri M) (h : ∀ v M1, vix M M1 → Ri M1 → K (some (.long v)) M1) : ip_wp X 242 0 [.ref 108, .int i, .int j] [] M K := by
  have g0 := g
  obtain ⟨⟨ht, hm, ⟨f, hf, h32⟩, g4, g5, g6, g7⟩, gr, hn⟩ := g0
  have hq := rw_q3 gr
  have hpv := rw_prv gr
  have hpd := rw_prd gr
  obtain ⟨hF, hc, g3, hw, hV, ⟨wm, wm40, w8, wwd⟩, g9⟩ := gr
  exact o_242 X M K i j hG ht (fun v => h v M (vix_r M) g)

theorem f_determinant (X : ip_X) (M : ip_H) (K : Option Value → ip_H → Prop)  (hG : ip_G M) (g : Ri M) (h : ∀ v M1, vix M M1 → Ri M1 → K (some (.int v)) M1) : ip_wp X 245 0 [.ref 108] [] M K := by
  have g0 := g
  obtain ⟨⟨ht, hm, ⟨f, hf, h32⟩, g4, g5, g6, g7⟩, gr, hn⟩ := g0
  have hq := rw_q3 gr
  have hpv := rw_prv gr
  have hpd := rw_prd gr
  obtain ⟨hF, hc, g3, hw, hV, ⟨wm, wm40, w8, wwd⟩, g9⟩ := gr
  exact o_245 X M K hG ht hc (fun v => h v M (vix_r M) g)

theorem f_bounds (X : ip_X) (M : ip_H) (K : Option Value → ip_H → Prop) (w : Int32) (x : Int32) (hG : ip_G M) (g : Ri M) (h : ∀ v M1, vix M M1 → Ri M1 → K (some (.long v)) M1) : ip_wp X 249 0 [.ref 108, .int w, .int x, .retAddr 1, .retAddr 1, .retAddr 1, .retAddr 1] [] M K := by
  have g0 := g
  obtain ⟨⟨ht, hm, ⟨f, hf, h32⟩, g4, g5, g6, g7⟩, gr, hn⟩ := g0
  have hq := rw_q3 gr
  have hpv := rw_prv gr
  have hpd := rw_prd gr
  obtain ⟨hF, hc, g3, hw, hV, ⟨wm, wm40, w8, wwd⟩, g9⟩ := gr
  exact o_249 X M K w x hG ht hn (fun v => h v M (vix_r M) g)

theorem f_outer (X : ip_X) (M : ip_H) (K : Option Value → ip_H → Prop) (w : Int32) (x : Int32) (hG : ip_G M) (g : Ri M) (h : ∀ v M1, vix M M1 → Ri M1 → K (some (.int v)) M1) : ip_wp X 250 0 [.ref 108, .int w, .int x] [] M K := by
  have g0 := g
  obtain ⟨⟨ht, hm, ⟨f, hf, h32⟩, g4, g5, g6, g7⟩, gr, hn⟩ := g0
  have hq := rw_q3 gr
  have hpv := rw_prv gr
  have hpd := rw_prd gr
  obtain ⟨hF, hc, g3, hw, hV, ⟨wm, wm40, w8, wwd⟩, g9⟩ := gr
  exact o_250 X M K w x hG ht hn (fun v => h v M (vix_r M) g)

theorem f_inverse (X : ip_X) (M : ip_H) (K : Option Value → ip_H → Prop) (i : Int32) (j : Int32) (hG : ip_G M) (g : Ri M) (h : ∀ v M1, vix M M1 → Ri M1 → K (some (.long v)) M1) : ip_wp X 253 0 [.ref 108, .int i, .int j] [] M K := by
  have g0 := g
  obtain ⟨⟨ht, hm, ⟨f, hf, h32⟩, g4, g5, g6, g7⟩, gr, hn⟩ := g0
  have hq := rw_q3 gr
  have hpv := rw_prv gr
  have hpd := rw_prd gr
  obtain ⟨hF, hc, g3, hw, hV, ⟨wm, wm40, w8, wwd⟩, g9⟩ := gr
  exact o_253 X M K i j hG ht hc (fun v => h v M (vix_r M) g)

theorem f_side (X : ip_X) (M : ip_H) (K : Option Value → ip_H → Prop) (w : Int32) (i : Int32) (j : Int32) (hG : ip_G M) (g : Ri M) (h : ∀ v M1, vix M M1 → Ri M1 → K (some (.int v)) M1) : ip_wp X 254 0 [.ref 108, .int w, .int i, .int j, .retAddr 1] [] M K := by
  have g0 := g
  obtain ⟨⟨ht, hm, ⟨f, hf, h32⟩, g4, g5, g6, g7⟩, gr, hn⟩ := g0
  have hq := rw_q3 gr
  have hpv := rw_prv gr
  have hpd := rw_prd gr
  obtain ⟨hF, hc, g3, hw, hV, ⟨wm, wm40, w8, wwd⟩, g9⟩ := gr
  exact o_254 X M K w i j hG hq ht (fun v => h v M (vix_r M) g)

theorem f_simplest (X : ip_X) (M : ip_H) (K : Option Value → ip_H → Prop) (w : Int32) (x : Int32) (hG : ip_G M) (g : Ri M) (h : ∀ v M1, vix M M1 → Ri M1 → K (some (.long v)) M1) : ip_wp X 256 0 [.ref 108, .int w, .int x] [] M K := by
  have g0 := g
  obtain ⟨⟨ht, hm, ⟨f, hf, h32⟩, g4, g5, g6, g7⟩, gr, hn⟩ := g0
  have hq := rw_q3 gr
  have hpv := rw_prv gr
  have hpd := rw_prd gr
  obtain ⟨hF, hc, g3, hw, hV, ⟨wm, wm40, w8, wwd⟩, g9⟩ := gr
  exact o_256 X M K w x hG ht hn (h _ M (vix_r M) g) (fun F u d v => h v _ (vix_vis (vis_sm M F u d)) (Ri_sm g))

theorem f_shared (X : ip_X) (M : ip_H) (K : Option Value → ip_H → Prop) (x : Int32) (hG : ip_G M) (g : Ri M) (h : ∀ v M1, vix M M1 → Ri M1 → K (some (.long v)) M1) : ip_wp X 259 0 [.ref 108, .int x, .retAddr 1, .retAddr 1, .retAddr 1, .retAddr 1, .retAddr 1, .retAddr 1] [] M K := by
  have g0 := g
  obtain ⟨⟨ht, hm, ⟨f, hf, h32⟩, g4, g5, g6, g7⟩, gr, hn⟩ := g0
  have hq := rw_q3 gr
  have hpv := rw_prv gr
  have hpd := rw_prd gr
  obtain ⟨hF, hc, g3, hw, hV, ⟨wm, wm40, w8, wwd⟩, g9⟩ := gr
  exact o_259 X M K x hG ht hn (fun v => h v M (vix_r M) g)

theorem f_period (X : ip_X) (M : ip_H) (K : Option Value → ip_H → Prop) (i : Int32) (hG : ip_G M) (g : Ri M) (h : ∀ v M1, vix M M1 → Ri M1 → K (some (.int v)) M1) : ip_wp X 261 0 [.ref 108, .int i] [] M K := by
  have g0 := g
  obtain ⟨⟨ht, hm, ⟨f, hf, h32⟩, g4, g5, g6, g7⟩, gr, hn⟩ := g0
  have hq := rw_q3 gr
  have hpv := rw_prv gr
  have hpd := rw_prd gr
  obtain ⟨hF, hc, g3, hw, hV, ⟨wm, wm40, w8, wwd⟩, g9⟩ := gr
  exact o_261 X M K i hG ht (fun v => h v M (vix_r M) g)

theorem f_round (X : ip_X) (M : ip_H) (K : Option Value → ip_H → Prop) (i : Int32) (j : Int32) (hG : ip_G M) (g : Ri M) (h : ∀ v M1, vix M M1 → Ri M1 → K (some (.long v)) M1) : ip_wp X 265 0 [.ref 108, .int i, .int j] [] M K := by
  have g0 := g
  obtain ⟨⟨ht, hm, ⟨f, hf, h32⟩, g4, g5, g6, g7⟩, gr, hn⟩ := g0
  have hq := rw_q3 gr
  have hpv := rw_prv gr
  have hpd := rw_prd gr
  obtain ⟨hF, hc, g3, hw, hV, ⟨wm, wm40, w8, wwd⟩, g9⟩ := gr
  exact o_265 X M K i j hG ht hpd hw (fun v => h v M (vix_r M) g) (fun R S B v => h v _ (vix_vis (vis_rN M R S B)) (Ri_rN g))

theorem f_unit (X : ip_X) (M : ip_H) (K : Option Value → ip_H → Prop) (i : Int32) (hG : ip_G M) (g : Ri M) (h : ∀ v M1, vix M M1 → Ri M1 → K (some (.int v)) M1) : ip_wp X 268 0 [.ref 108, .int i] [] M K := by
  have g0 := g
  obtain ⟨⟨ht, hm, ⟨f, hf, h32⟩, g4, g5, g6, g7⟩, gr, hn⟩ := g0
  have hq := rw_q3 gr
  have hpv := rw_prv gr
  have hpd := rw_prd gr
  obtain ⟨hF, hc, g3, hw, hV, ⟨wm, wm40, w8, wwd⟩, g9⟩ := gr
  exact o_268 X M K i hG ht hpv hw (fun v => h v M (vix_r M) g) (fun R S B v => h v _ (vix_vis (vis_rN M R S B)) (Ri_rN g)) (fun R S B e f g1 k v => h v _ (vix_vis (vis_t (vis_rN M R S B) (vis_x4g _ _ _ _ _))) (Ri_x4g (Ri_rN g)))

theorem f_equation (X : ip_X) (M : ip_H) (K : Option Value → ip_H → Prop) (i : Int32) (hG : ip_G M) (g : Ri M) (h : ∀ v M1, vix M M1 → Ri M1 → K (some (.long v)) M1) : ip_wp X 270 0 [.ref 108, .int i, .retAddr 1] [] M K := by
  have g0 := g
  obtain ⟨⟨ht, hm, ⟨f, hf, h32⟩, g4, g5, g6, g7⟩, gr, hn⟩ := g0
  have hq := rw_q3 gr
  have hpv := rw_prv gr
  have hpd := rw_prd gr
  obtain ⟨hF, hc, g3, hw, hV, ⟨wm, wm40, w8, wwd⟩, g9⟩ := gr
  exact o_270 X M K i hG ht hpd hw (fun v => h v M (vix_r M) g) (fun R S B v => h v _ (vix_vis (vis_rN M R S B)) (Ri_rN g))

theorem f_isRelation (X : ip_X) (M : ip_H) (K : Option Value → ip_H → Prop) (k : Int32) (l : Int32) (m : Int32) (hG : ip_G M) (g : Ri M) (h : ∀ v M1, vix M M1 → Ri M1 → K (some (.int v)) M1) : ip_wp X 272 0 [.ref 108, .int k, .int l, .int m] [] M K := by
  have g0 := g
  obtain ⟨⟨ht, hm, ⟨f, hf, h32⟩, g4, g5, g6, g7⟩, gr, hn⟩ := g0
  have hq := rw_q3 gr
  have hpv := rw_prv gr
  have hpd := rw_prd gr
  obtain ⟨hF, hc, g3, hw, hV, ⟨wm, wm40, w8, wwd⟩, g9⟩ := gr
  exact o_272 X M K k l m hG ht (fun v => h (ip_b v) M (vix_r M) g)

theorem f_relation (X : ip_X) (M : ip_H) (K : Option Value → ip_H → Prop) (n : Int32) (x : Int32) (hG : ip_G M) (g : Ri M) (h : ∀ v M1, vix M M1 → Ri M1 → K (some (.int v)) M1) : ip_wp X 274 0 [.ref 108, .int n, .int x, .retAddr 1, .retAddr 1, .retAddr 1, .retAddr 1, .retAddr 1, .retAddr 1] [] M K := by
  have g0 := g
  obtain ⟨⟨ht, hm, ⟨f, hf, h32⟩, g4, g5, g6, g7⟩, gr, hn⟩ := g0
  have hq := rw_q3 gr
  have hpv := rw_prv gr
  have hpd := rw_prd gr
  obtain ⟨hF, hc, g3, hw, hV, ⟨wm, wm40, w8, wwd⟩, g9⟩ := gr
  exact o_274 X M K n x hG ht (fun v => h v M (vix_r M) g)

theorem f_word (X : ip_X) (M : ip_H) (K : Option Value → ip_H → Prop) (i : Int32) (j : Int32) (hG : ip_G M) (g : Ri M) (h : ∀ v M1, vix M M1 → Ri M1 → K (some (.int v)) M1) : ip_wp X 275 0 [.ref 108, .int i, .int j] [] M K := by
  have g0 := g
  obtain ⟨⟨ht, hm, ⟨f, hf, h32⟩, g4, g5, g6, g7⟩, gr, hn⟩ := g0
  have hq := rw_q3 gr
  have hpv := rw_prv gr
  have hpd := rw_prd gr
  obtain ⟨hF, hc, g3, hw, hV, ⟨wm, wm40, w8, wwd⟩, g9⟩ := gr
  exact o_275 X M K i j hG ht wm wm40 w8 (fun v => h v M (vix_r M) g)

theorem f_spelt (X : ip_X) (M : ip_H) (K : Option Value → ip_H → Prop) (i : Int32) (j : Int32) (hG : ip_G M) (g : Ri M) (h : ∀ v M1, vix M M1 → Ri M1 → K (some (.long v)) M1) : ip_wp X 276 0 [.ref 108, .int i, .int j, .retAddr 1] [] M K := by
  have g0 := g
  obtain ⟨⟨ht, hm, ⟨f, hf, h32⟩, g4, g5, g6, g7⟩, gr, hn⟩ := g0
  have hq := rw_q3 gr
  have hpv := rw_prv gr
  have hpd := rw_prd gr
  obtain ⟨hF, hc, g3, hw, hV, ⟨wm, wm40, w8, wwd⟩, g9⟩ := gr
  exact o_276 X M K i j hG ht wm wm40 w8 wwd (fun v => h v M (vix_r M) g) (fun R S B v => h v _ (vix_vis (vis_rN M R S B)) (Ri_rN g))

theorem f_asks (X : ip_X) (M : ip_H) (K : Option Value → ip_H → Prop) (x : Int32) (hG : ip_G M) (g : Ri M) (h : ∀ v M1, vix M M1 → Ri M1 → K (some (.int v)) M1) : ip_wp X 279 0 [.ref 108, .int x, .retAddr 1] [] M K := by
  have g0 := g
  obtain ⟨⟨ht, hm, ⟨f, hf, h32⟩, g4, g5, g6, g7⟩, gr, hn⟩ := g0
  have hq := rw_q3 gr
  have hpv := rw_prv gr
  have hpd := rw_prd gr
  obtain ⟨hF, hc, g3, hw, hV, ⟨wm, wm40, w8, wwd⟩, g9⟩ := gr
  exact o_279 X M K x hG ht wm wm40 w8 hc (fun v => h v M (vix_r M) g)

theorem f_would (X : ip_X) (M : ip_H) (K : Option Value → ip_H → Prop) (i : Int32) (j : Int32) (w : Int32) (x : Int32) (hG : ip_G M) (g : Ri M) (h : ∀ v M1, vix M M1 → Ri M1 → K (some (.int v)) M1) : ip_wp X 287 0 [.ref 108, .int i, .int j, .int w, .int x, .retAddr 1, .retAddr 1, .retAddr 1] [] M K := by
  have g0 := g
  obtain ⟨⟨ht, hm, ⟨f, hf, h32⟩, g4, g5, g6, g7⟩, gr, hn⟩ := g0
  have hq := rw_q3 gr
  have hpv := rw_prv gr
  have hpd := rw_prd gr
  obtain ⟨hF, hc, g3, hw, hV, ⟨wm, wm40, w8, wwd⟩, g9⟩ := gr
  refine o_287 X M K i j w x hG hq ht (h _ M (vix_r M) g) ?_
  intro i' j' hi hj _ hb
  have ga : Ri (c_as M) := Ri_vis (vis_as M) rfl (as_110 M) g
  refine ⟨fun L => vis M L ∧ rw_ok (L.2.1 109) ∧ pr_ok (L.2.2.1 110) 9 ∧ ¬ L.2.1 109 3 = 0 ∧ L.2.1 126 = (c_as M).2.1 126 ∧ L.2.2.1 127 = (c_as M).2.2.1 127, ?_, ?_, ?_, ?_⟩
  · have gb := Ri_bg (w := w) hi hj (M := c_as M) (by rw [c_as_109]; exact hb) ga
    refine ⟨vis_t (vis_as M) (vis_bg _ _ _ _), gb.2.1, gb.2.2, ?_, ?_, ?_⟩
    · rw [bg_I]
      exact (by decide : ¬ (1 : Int32) = 0)
    · exact bg_126 _ _ _ _
    · exact bg_127 _ _ _ _
  · rintro L ⟨vL, l1, l2, l3, -⟩
    exact ⟨vis_G vL hG, l1.1, l1.2.1 l3⟩
  · rintro L L' v ⟨vL, l1, l2, l3, l4, l5⟩ s
    have e4 : L'.2.1 126 = (c_as M).2.1 126 := (funext fun b => s.2.2.1 126 b rfl).trans l4
    have e5 : L'.2.2.1 127 = (c_as M).2.2.1 127 := (funext fun b => s.2.2.2 127 b rfl).trans l5
    have vv : vis M (c_rb L') := vis_t vL (vis_t (vis_scr s) (vis_rb L'))
    refine h v _ (vix_vis vv) ⟨Rk_vis vv g.1, ?_, ?_⟩
    · refine rw_ok_c (fun b hb => ?_) g.2.1
      rw [rb_row L' b hb, e4, as_126 M b hb]
    · intro b hb
      rw [rb_110 L' b hb, e5, as_127 M b hb]
      exact hn b hb
  · rintro L L1 t ⟨vL, l1, l2, l3, l4, l5⟩ he s ht1
    have er := scr_row s
    have ep := scr_110 s
    have k1 : rw_ok (L1.2.1 109) := by rw [er]; exact l1
    have k2 : pr_ok (L1.2.2.1 110) 9 := by rw [ep]; exact l2
    have k3 : ¬ L1.2.1 109 3 = 0 := by rw [er]; exact l3
    have kd := rw_dn L1 t k1 k2 k3 (by rw [er]; exact he) (tried_row er.symm ep.symm ht1)
    have e4 : L1.2.1 126 = (c_as M).2.1 126 := (funext fun b => s.2.2.1 126 b rfl).trans l4
    have e5 : L1.2.2.1 127 = (c_as M).2.2.1 127 := (funext fun b => s.2.2.2 127 b rfl).trans l5
    refine ⟨vis_t vL (vis_t (vis_scr s) (vis_dn1 _ _)), kd.1, kd.2.1, by rw [kd.2.2]; exact k3, ?_, ?_⟩
    · rw [dn1_126]; exact e4
    · rw [dn1_127]; exact e5

theorem f_count (X : ip_X) (M : ip_H) (K : Option Value → ip_H → Prop) (x : Int32) (hG : ip_G M) (g : Ri M) (h : ∀ v M1, vix M M1 → Ri M1 → K (some (.int v)) M1) : ip_wp X 288 0 [.ref 108, .int x] [] M K := by
  have g0 := g
  obtain ⟨⟨ht, hm, ⟨f, hf, h32⟩, g4, g5, g6, g7⟩, gr, hn⟩ := g0
  have hq := rw_q3 gr
  have hpv := rw_prv gr
  have hpd := rw_prd gr
  obtain ⟨hF, hc, g3, hw, hV, ⟨wm, wm40, w8, wwd⟩, g9⟩ := gr
  exact o_288 X M K x hG hq ht hc (fun v => h v M (vix_r M) g) (fun v => h v _ (vix_vis (vis_pm M)) (Ri_pm g))

theorem f_status (X : ip_X) (M : ip_H) (K : Option Value → ip_H → Prop)  (hG : ip_G M) (g : Ri M) (h : ∀ v M1, vix M M1 → Ri M1 → K (some (.int v)) M1) : ip_wp X 289 0 [.ref 108] [] M K := by
  have g0 := g
  obtain ⟨⟨ht, hm, ⟨f, hf, h32⟩, g4, g5, g6, g7⟩, gr, hn⟩ := g0
  have hq := rw_q3 gr
  have hpv := rw_prv gr
  have hpd := rw_prd gr
  obtain ⟨hF, hc, g3, hw, hV, ⟨wm, wm40, w8, wwd⟩, g9⟩ := gr
  exact o_289 X M K hG ht (fun v => h v M (vix_r M) g)
