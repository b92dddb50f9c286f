-- WAY, UNDO, IMAGE, BACK: THE REFERENCE
def viw (M M1 : ip_H) : Prop := M1.1 = M.1 ∧ M1.2.2.2 = M.2.2.2 ∧ (∀ a b, hxI a b = false → ¬ (a = 108 ∧ b = 3) → M1.2.1 a b = M.2.1 a b) ∧ ∀ a b, hxL a b = false → M1.2.2.1 a b = M.2.2.1 a b
theorem viw_vix {M M1 : ip_H} (h : vix M M1) : viw M M1 := ⟨h.1, h.2.1, fun a b q _ => h.2.2.1 a b q, h.2.2.2⟩
theorem viw_G {M M1 : ip_H} (h : viw M M1) (hG : ip_G M) : ip_G M1 := ⟨h.1.trans hG.1, fun k j a b => by rw [h.2.1]; exact hG.2 k j a b⟩
theorem viw_low {M M1 : ip_H} (h : viw M M1) : low M M1 := fun a ha => ⟨funext fun b => h.2.2.1 a b (by
    unfold hxI hvI
    simp only [beq_eq_false_iff_ne.mpr (show a ≠ 109 by omega), beq_eq_false_iff_ne.mpr (show a ≠ 119 by omega), beq_eq_false_iff_ne.mpr (show a ≠ 111 by omega), beq_eq_false_iff_ne.mpr (show a ≠ 121 by omega), beq_eq_false_iff_ne.mpr (show a ≠ 124 by omega), beq_eq_false_iff_ne.mpr (show a ≠ 125 by omega), beq_eq_false_iff_ne.mpr (show a ≠ 126 by omega), beq_eq_false_iff_ne.mpr (show a ≠ 108 by omega), beq_eq_false_iff_ne.mpr (show a ≠ 112 by omega), beq_eq_false_iff_ne.mpr (show a ≠ 113 by omega), beq_eq_false_iff_ne.mpr (show a ≠ 114 by omega), beq_eq_false_iff_ne.mpr (show a ≠ 117 by omega), Bool.false_and, Bool.or_self]) (by omega), funext fun b => h.2.2.2 a b (by
    unfold hxL hvL
    simp only [beq_eq_false_iff_ne.mpr (show a ≠ 110 by omega), beq_eq_false_iff_ne.mpr (show a ≠ 118 by omega), beq_eq_false_iff_ne.mpr (show a ≠ 122 by omega), beq_eq_false_iff_ne.mpr (show a ≠ 123 by omega), beq_eq_false_iff_ne.mpr (show a ≠ 127 by omega), beq_eq_false_iff_ne.mpr (show a ≠ 108 by omega), beq_eq_false_iff_ne.mpr (show a ≠ 115 by omega), beq_eq_false_iff_ne.mpr (show a ≠ 116 by omega), Bool.false_and, Bool.or_self])⟩
theorem Rq_of {M M2 : ip_H} (e9 : M2.2.1 109 = M.2.1 109) (e10 : M2.2.2.1 110 = M.2.2.1 110) (e12 : M2.2.1 108 12 = M.2.1 108 12) (e112 : M2.2.1 112 = M.2.1 112) (e115 : M2.2.2.1 115 = M.2.2.1 115) (e117 : M2.2.1 117 = M.2.1 117) (e114 : M2.2.1 114 = M.2.1 114) (e116 : M2.2.2.1 116 = M.2.2.1 116) (g : Rq M) : Rq M2 := by
  unfold Rq kR kP iR iP at *
  rw [e9, e10, e12, e112, e115, e117, e114, e116]
  exact g
theorem cp_in {α : Type} {f g : Nat → α} {t s n j : Nat} (h : t ≤ j ∧ j < t + n) : c_cp f g t s n j = g (j - t + s) := if_pos h
theorem cp_out {α : Type} {f g : Nat → α} {t s n j : Nat} (h : ¬ (t ≤ j ∧ j < t + n)) : c_cp f g t s n j = f j := if_neg h
theorem ye_I' (M : ip_H) (a : Nat) (h : ¬ a = 108) : (c_ye M).2.1 a = M.2.1 a := uI_o _ _ _ _ _ h
theorem ye_8 (M : ip_H) (b : Nat) (h : ¬ b = 4) : (c_ye M).2.1 108 b = M.2.1 108 b := by
  unfold c_ye
  rw [ip_uI_I, if_neg (by omega)]
/-- a row taken back -/
theorem bk_I (M : ip_H) (m a b : Nat) : (c_bk M m).2.1 a b = if a = 109 then c_cp (M.2.1 109) (M.2.1 112) 0 (821 * m) 821 b else M.2.1 a b := by
  unfold c_bk
  rw [ip_sL_I, ip_sI_I]
theorem bk_L (M : ip_H) (m a b : Nat) : (c_bk M m).2.2.1 a b = if a = 110 then c_cp (M.2.2.1 110) (M.2.2.1 115) 0 (9 * m) 9 b else M.2.2.1 a b := by
  unfold c_bk
  rw [ip_sL_L, ip_sI_L]
theorem bi_I (M : ip_H) (m a b : Nat) : (c_bi M m).2.1 a b = if a = 108 ∧ b = 12 then 0 else if a = 109 then c_cp (M.2.1 109) (M.2.1 114) 0 (821 * m) 821 b else M.2.1 a b := by
  unfold c_bi
  rw [ip_uI_I, ip_sL_I, ip_sI_I]
theorem bi_L (M : ip_H) (m a b : Nat) : (c_bi M m).2.2.1 a b = if a = 110 then c_cp (M.2.2.1 110) (M.2.2.1 116) 0 (9 * m) 9 b else M.2.2.1 a b := by
  unfold c_bi
  rw [ip_uI_L, ip_sL_L, ip_sI_L]

theorem yy_way (X : ip_X) (M M1 : ip_H) (K : Option Value → ip_H → Prop) (hg : hig M M1) (hG : ip_G M1) (gi : Ri M) (gq : Rq M) (v : Int32) (i : Int32) (hx : (i_in i 0 1 = false ∧ v = -1 ∧ refd M M1 (-1) 1) ∨ (i_in i 0 1 = true ∧ v = M.2.1 108 3 ∧ wayd M M1 i)) (h : ∀ M2, viw M1 M2 → Ri M2 → Rq M2 → JJ M2 → (M2.2.1 108 3 = M.2.1 108 3 ∨ M2.2.1 108 3 = 0 ∨ M2.2.1 108 3 = 1) → K (some (.int v)) M2) : ip_wp X 202 0 [.ref 108, .int i, .retAddr 1] [] M1 K := by
  have g1 : Ri M1 := Ri_hig hg gi
  have g0 := g1
  obtain ⟨⟨ht, hm, ⟨f, hf, h32⟩, g4, g5, g6, g7⟩, gr, hn⟩ := g0
  have hq := rw_q3 gr
  have hpv := rw_prv gr
  have hpd := rw_prd gr
  obtain ⟨hF, hc, g3, hw, hV, ⟨wm, wm40, w8, wwd⟩, g9⟩ := gr
  have e8 := (hg 108 (by decide) (by decide)).1
  have e9 := (hg 109 (by decide) (by decide)).1
  have e10 := (hg 110 (by decide) (by decide)).2
  have e11 := (hg 111 (by decide) (by decide)).1
  have e12 := (hg 112 (by decide) (by decide)).1
  have e13 := (hg 113 (by decide) (by decide)).1
  have e14 := (hg 114 (by decide) (by decide)).1
  have e15 := (hg 115 (by decide) (by decide)).2
  have e16 := (hg 116 (by decide) (by decide)).2
  have e17 := (hg 117 (by decide) (by decide)).1
  refine o_202 X M1 K i hG ht (fun e => ?_) (fun e => ?_)
  · rcases hx with ⟨-, rfl, rd⟩ | ⟨c, -⟩
    · obtain ⟨f1, f2, f3, f4⟩ := fin_no (k := 1) hg gi gq rd (vis_r M1) rfl rfl rfl
      exact h _ (viw_vix f1) f2 f3 f4 (Or.inl ((f1.2.2.1 108 3 rfl).trans (by rw [e8])))
    · rw [e] at c
      exact absurd c (by decide)
  · rcases hx with ⟨c, -⟩ | ⟨-, rfl, wd⟩
    · rw [e] at c
      exact absurd c (by decide)
    · obtain ⟨n, hn, en, hc, hh⟩ := wd
      rw [show M1.2.1 108 3 = M.2.1 108 3 by rw [e8]]
      have vw : viw M1 (c_ye (ip_uI M1 108 3 i)) := ⟨rfl, rfl, fun a b q q3 => by
        have q4 : ¬ (a = 108 ∧ b = 4) := by
          rintro ⟨rfl, rfl⟩
          exact absurd q (by decide)
        unfold c_ye
        rw [ip_uI_I, if_neg q4, ip_uI_I, if_neg q3], fun _ _ _ => rfl⟩
      have oI : ∀ a, ¬ a = 108 → (c_ye (ip_uI M1 108 3 i)).2.1 a = M1.2.1 a := fun a ha => (ye_I' _ a ha).trans (uI_o _ _ _ _ _ ha)
      have o8 : (c_ye (ip_uI M1 108 3 i)).2.1 108 12 = M.2.1 108 12 := by rw [ye_8 _ _ (by decide), ip_uI_I, if_neg (by omega), e8]
      have o3 : (c_ye (ip_uI M1 108 3 i)).2.1 108 3 = i := by rw [ye_8 _ _ (by decide), ip_uI_I, if_pos ⟨rfl, rfl⟩]
      have eL : (c_ye (ip_uI M1 108 3 i)).2.2.1 = M1.2.2.1 := rfl
      have kk : kR (c_ye (ip_uI M1 108 3 i)) = kR M := by unfold kR; rw [oI 112 (by decide), e12]
      have ii : iR (c_ye (ip_uI M1 108 3 i)) = iR M := by unfold iR; rw [oI 114 (by decide), e14]
      refine h _ vw (Ri_ye (Ri_w g1)) (Rq_of (M := M) ((oI 109 (by decide)).trans e9) (by rw [eL]; exact e10) o8 ((oI 112 (by decide)).trans e12) (by rw [eL]; exact e15) ((oI 117 (by decide)).trans e17) ((oI 114 (by decide)).trans e14) (by rw [eL]; exact e16) gq) (jj_of (viw_low vw) hn (o8.trans en) ?_ ?_ ?_ ?_ ?_) (Or.inr ?_)
      · rw [oI 109 (by decide), e9]
        exact hc
      · rw [kk, oI 113 (by decide), e13]
        exact hh.1
      · rw [ii, oI 117 (by decide), e17]
        exact hh.2.1
      · rw [ye_4, oI 111 (by decide), e11]
        exact hh.2.2.1
      · rw [o3]
        exact hh.2.2.2
      · rw [o3]
        exact j01 e

theorem yy_undo (X : ip_X) (M M1 : ip_H) (K : Option Value → ip_H → Prop) (hg : hig M M1) (hG : ip_G M1) (gi : Ri M) (gq : Rq M) (v : Int32) (hx : (M.2.1 108 12 = 0 ∧ v = -4 ∧ refd M M1 (-4) 4) ∨ (∃ n : Nat, n ≤ 7 ∧ M.2.1 108 12 = Int32.ofNat (n + 1) ∧ v = M.2.1 113 n ∧ undn M M1 n)) (h : ∀ M2, vix M1 M2 → Ri M2 → Rq M2 → JJ M2 → K (some (.int v)) M2) : ip_wp X 172 0 [.ref 108] [] M1 K := by
  have g1 : Ri M1 := Ri_hig hg gi
  have g0 := g1
  obtain ⟨⟨ht, hm, ⟨f, hf, h32⟩, g4, g5, g6, g7⟩, gr, hn⟩ := g0
  have hq := rw_q3 gr
  have hpv := rw_prv gr
  have hpd := rw_prd gr
  obtain ⟨hF, hc, g3, hw, hV, ⟨wm, wm40, w8, wwd⟩, g9⟩ := gr
  have e8 := (hg 108 (by decide) (by decide)).1
  have e9 := (hg 109 (by decide) (by decide)).1
  have e10 := (hg 110 (by decide) (by decide)).2
  have e11 := (hg 111 (by decide) (by decide)).1
  have e12 := (hg 112 (by decide) (by decide)).1
  have e13 := (hg 113 (by decide) (by decide)).1
  have e14 := (hg 114 (by decide) (by decide)).1
  have e15 := (hg 115 (by decide) (by decide)).2
  have e16 := (hg 116 (by decide) (by decide)).2
  have e17 := (hg 117 (by decide) (by decide)).1
  have inj : ∀ a : Nat, a ≤ 7 → ¬ Int32.ofNat (a + 1) = 0 := fun a ha e => by
    have e2 := congrArg Int32.toInt e
    rw [ip_nt _ (by omega)] at e2
    have e3 : ((a + 1 : Nat) : Int) = 0 := e2
    omega
  refine o_172 X M1 K hG hm ht (fun e => ?_) (fun m hm7 e => ?_)
  · rcases hx with ⟨-, rfl, rd⟩ | ⟨n, hn, en, -⟩
    · obtain ⟨f1, f2, f3, f4⟩ := fin_no (k := 4) hg gi gq rd (vis_r M1) rfl rfl rfl
      exact h _ f1 f2 f3 f4
    · rw [e8, en] at e
      exact absurd e (inj n hn)
  · have e0 := e
    rw [e8] at e
    rcases hx with ⟨c, -⟩ | ⟨n, hn, en, rfl, hc, hh⟩
    · rw [c] at e
      exact absurd e.symm (inj m hm7)
    · have emn : m = n := by
        have q := e.symm.trans en
        rw [ip_neq _ _ (by omega) (by omega)] at q
        omega
      subst emn
      rw [show M1.2.1 113 m = M.2.1 113 m by rw [e13]]
      have w := Ri_kR gi (show m + 1 ≤ 8 by omega) e (Nat.lt_succ_self m)
      have vv : vix M1 (c_ye (c_bk (ip_uI M1 108 12 (Int32.ofNat m)) m)) := vix_t (vix_bk M1 _ m) (vix_vis (vis_ye _))
      have oI : ∀ a, ¬ a = 108 → ¬ a = 109 → (c_ye (c_bk (ip_uI M1 108 12 (Int32.ofNat m)) m)).2.1 a = M1.2.1 a := fun a h8 h9 => (ye_I' _ a h8).trans (funext fun b => by rw [bk_I, if_neg h9, uI_o _ _ _ _ _ h8])
      have oL : ∀ a, ¬ a = 110 → (c_ye (c_bk (ip_uI M1 108 12 (Int32.ofNat m)) m)).2.2.1 a = M1.2.2.1 a := fun a ha => funext fun b => by
        rw [ye_L0, bk_L, if_neg ha]
        rfl
      have o8 : (c_ye (c_bk (ip_uI M1 108 12 (Int32.ofNat m)) m)).2.1 108 12 = Int32.ofNat m := by rw [ye_8 _ _ (by decide), bk_I, if_neg (by decide), ip_uI_I, if_pos ⟨rfl, rfl⟩]
      have o3 : (c_ye (c_bk (ip_uI M1 108 12 (Int32.ofNat m)) m)).2.1 108 3 = M.2.1 108 3 := by rw [ye_8 _ _ (by decide), bk_I, if_neg (by decide), ip_uI_I, if_neg (by omega), e8]
      have r9 : ∀ x, x < 821 → (c_ye (c_bk (ip_uI M1 108 12 (Int32.ofNat m)) m)).2.1 109 x = kR M m x := fun x hx => by
        rw [ye_I' _ 109 (by decide), bk_I, if_pos rfl, cp_in (by omega), uI_o _ _ _ _ _ (by decide), e12]
        exact congrArg (M.2.1 112) (by omega)
      have p10 : ∀ x, x < 9 → (c_ye (c_bk (ip_uI M1 108 12 (Int32.ofNat m)) m)).2.2.1 110 x = kP M m x := fun x hx => by
        rw [ye_L0, bk_L, if_pos rfl, cp_in (by omega)]
        show M1.2.2.1 115 _ = _
        rw [e15]
        exact congrArg (M.2.2.1 115) (by omega)
      have kk : kR (c_ye (c_bk (ip_uI M1 108 12 (Int32.ofNat m)) m)) = kR M := by unfold kR; rw [oI 112 (by decide) (by decide), e12]
      have kp : kP (c_ye (c_bk (ip_uI M1 108 12 (Int32.ofNat m)) m)) = kP M := by unfold kP; rw [oL 115 (by decide), e15]
      have ii : iR (c_ye (c_bk (ip_uI M1 108 12 (Int32.ofNat m)) m)) = iR M := by unfold iR; rw [oI 114 (by decide) (by decide), e14]
      have ip : iP (c_ye (c_bk (ip_uI M1 108 12 (Int32.ofNat m)) m)) = iP M := by unfold iP; rw [oL 116 (by decide), e16]
      have c8 : (Int32.ofNat (m + 1)).toNatClampNeg = m + 1 := ip_nc _ (by omega)
      have q0 := gq.2.1 m (by rw [e, c8]; exact Nat.lt_succ_self m)
      refine h _ vv (Ri_ye (Ri_bk hm7 e0 g1)) ⟨qk_c r9 p10 w q0, fun m' hm' => ?_, fun m' hm' hz => ?_⟩ (jj_of (vix_low vv) (n := m) (by omega) o8 (cur_N r9 w hc) ?_ ?_ ?_ ?_)
      · rw [o8, ip_nc _ (by omega)] at hm'
        rw [kk, kp]
        exact gq.2.1 m' (by rw [e, c8]; omega)
      · rw [oI 117 (by decide) (by decide), e17] at hz
        rw [ii, ip]
        exact gq.2.2 m' hm' hz
      · rw [kk, oI 113 (by decide) (by decide), e13]
        exact hh.1
      · rw [ii, oI 117 (by decide) (by decide), e17]
        exact hh.2.1
      · rw [ye_4, oI 111 (by decide) (by decide), e11]
        exact hh.2.2.1
      · rw [o3]
        exact hh.2.2.2

theorem yy_image (X : ip_X) (M M1 : ip_H) (K : Option Value → ip_H → Prop) (hg : hig M M1) (hG : ip_G M1) (gi : Ri M) (gq : Rq M) (v : Int32) (k : Int32) (hx : (i_in k 0 1 = false ∧ v = -1 ∧ refd M M1 (-1) 1) ∨ (∃ n : Nat, n ≤ 1 ∧ k = Int32.ofNat n ∧ v = c_sn (M.2.1 109) ∧ imgd M M1 n)) (h : ∀ M2, vix M1 M2 → Ri M2 → Rq M2 → JJ M2 → K (some (.int v)) M2) : ip_wp X 174 0 [.ref 108, .int k, .retAddr 1] [] M1 K := by
  have g1 : Ri M1 := Ri_hig hg gi
  have g0 := g1
  obtain ⟨⟨ht, hm, ⟨f, hf, h32⟩, g4, g5, g6, g7⟩, gr, hn⟩ := g0
  have hq := rw_q3 gr
  have hpv := rw_prv gr
  have hpd := rw_prd gr
  obtain ⟨hF, hc, g3, hw, hV, ⟨wm, wm40, w8, wwd⟩, g9⟩ := gr
  have e8 := (hg 108 (by decide) (by decide)).1
  have e9 := (hg 109 (by decide) (by decide)).1
  have e10 := (hg 110 (by decide) (by decide)).2
  have e11 := (hg 111 (by decide) (by decide)).1
  have e12 := (hg 112 (by decide) (by decide)).1
  have e13 := (hg 113 (by decide) (by decide)).1
  have e14 := (hg 114 (by decide) (by decide)).1
  have e15 := (hg 115 (by decide) (by decide)).2
  have e16 := (hg 116 (by decide) (by decide)).2
  have e17 := (hg 117 (by decide) (by decide)).1
  have k01 : ∀ n : Nat, n ≤ 1 → i_in (Int32.ofNat n) 0 1 = true := fun n hn => by
    have hc : n = 0 ∨ n = 1 := by omega
    rcases hc with rfl | rfl <;> decide
  refine o_174 X M1 K k hG ht (fun e => ?_) (fun m hm1 e => ?_)
  · rcases hx with ⟨-, rfl, rd⟩ | ⟨n, hn, en, -⟩
    · obtain ⟨f1, f2, f3, f4⟩ := fin_no (k := 1) hg gi gq rd (vis_r M1) rfl rfl rfl
      exact h _ f1 f2 f3 f4
    · rw [en, k01 n hn] at e
      exact absurd e (by decide)
  · rcases hx with ⟨c, -⟩ | ⟨n, hn, en, rfl, nn, hnn, enn, hc, hh⟩
    · rw [e, k01 m hm1] at c
      exact absurd c (by decide)
    · have emn : m = n := by
        have q := e.symm.trans en
        rw [ip_neq _ _ (by omega) (by omega)] at q
        exact q
      subst emn
      have vv : vix M1 (c_ye (c_im M1 m)) := vix_t (vix_im M1 m) (vix_vis (vis_ye _))
      have oI : ∀ a, ¬ a = 108 → ¬ a = 117 → ¬ a = 114 → (c_ye (c_im M1 m)).2.1 a = M1.2.1 a := fun a h8 h7 h4 => (ye_I' _ a h8).trans (im_Ia M1 m a h7 h4)
      have oL : ∀ a, ¬ a = 116 → (c_ye (c_im M1 m)).2.2.1 a = M1.2.2.1 a := fun a ha => im_La M1 m a ha
      have o8 : ∀ b, ¬ b = 4 → (c_ye (c_im M1 m)).2.1 108 b = M.2.1 108 b := fun b hb => by rw [ye_8 _ _ hb, im_Ia M1 m 108 (by decide) (by decide), e8]
      have o7 : ∀ j, (c_ye (c_im M1 m)).2.1 117 j = if j = m then 1 else M.2.1 117 j := fun j => by
        rw [ye_I' _ 117 (by decide), im_I, e17]
        by_cases q : j = m
        · rw [if_pos ⟨rfl, q⟩, if_pos q]
        · rw [if_neg (by omega), if_neg (by decide), if_neg q]
      have eR : ∀ i x, x < 821 → iR (c_ye (c_im M1 m)) i x = if i = m then M.2.1 109 x else iR M i x := fun i x hx => by
        show (c_ye (c_im M1 m)).2.1 114 (821 * i + x) = _
        rw [ye_I' _ 114 (by decide), im_I, if_neg (by omega), if_pos rfl, e14, e9]
        by_cases q : i = m
        · subst q
          rw [if_pos rfl, cp_in (by omega)]
          exact congrArg (M.2.1 109) (by omega)
        · rw [if_neg q, cp_out (by omega)]
          rfl
      have eP : ∀ i x, x < 9 → iP (c_ye (c_im M1 m)) i x = if i = m then M.2.2.1 110 x else iP M i x := fun i x hx => by
        show (c_im M1 m).2.2.1 116 (9 * i + x) = _
        rw [im_L, if_pos rfl, e16, e10]
        by_cases q : i = m
        · subst q
          rw [if_pos rfl, cp_in (by omega)]
          exact congrArg (M.2.2.1 110) (by omega)
        · rw [if_neg q, cp_out (by omega)]
          rfl
      have kk : kR (c_ye (c_im M1 m)) = kR M := by unfold kR; rw [oI 112 (by decide) (by decide) (by decide), e12]
      have kp : kP (c_ye (c_im M1 m)) = kP M := by unfold kP; rw [oL 115 (by decide), e15]
      have r9 : (c_im M1 m).2.1 109 = M.2.1 109 := (im_Ia M1 m 109 (by decide) (by decide)).trans e9
      have hh' := h (c_ye (c_im M1 m)) vv (Ri_ye (Ri_im hm1 g1)) ⟨by rw [oI 109 (by decide) (by decide) (by decide), oL 110 (by decide), e9, e10]; exact gq.1, fun m' hm' => by
          rw [o8 12 (by decide)] at hm'
          rw [kk, kp]
          exact gq.2.1 m' hm', fun m' hm' hz => by
          rw [o7] at hz
          by_cases q : m' = m
          · exact qk_c (N := M.2.1 109) (P := M.2.2.1 110) (fun x hx => by rw [eR _ _ hx, if_pos q]) (fun x hx => by rw [eP _ _ hx, if_pos q]) gi.2.1 gq.1
          · rw [if_neg q] at hz
            exact qk_c (N := iR M m') (P := iP M m') (fun x hx => by rw [eR _ _ hx, if_neg q]) (fun x hx => by rw [eP _ _ hx, if_neg q]) (Ri_iR gi hm' hz) (gq.2.2 m' hm' hz)⟩ (jj_of (vix_low vv) hnn ((o8 12 (by decide)).trans enn) (by rw [oI 109 (by decide) (by decide) (by decide), e9]; exact hc) (by rw [kk, oI 113 (by decide) (by decide) (by decide), e13]; exact hh.1) (igC_R (fun k hk => o7 k) (fun k hk hz x hx => by
            rw [eR _ _ hx]
            by_cases q : k = m
            · rw [if_pos q, if_pos q]
            · rw [if_neg q, if_neg q]) (fun k hk hz => by
            by_cases q : k = m
            · rw [if_pos q]
              exact wlen_40 gi.2.1
            · rw [if_neg q] at hz ⊢
              exact wlen_40 (Ri_iR gi hk hz)) hh.2.1) (by rw [ye_4, oI 111 (by decide) (by decide) (by decide), e11]; exact hh.2.2.1) (by rw [o8 3 (by decide)]; exact hh.2.2.2))
      rw [r9]
      exact hh'

theorem sn_c {N N' : Nat → Int32} (h : ∀ x, x < 821 → N' x = N x) : c_sn N' = c_sn N := by
  unfold c_sn
  rw [h 3 (by decide), h 5 (by decide)]
theorem yy_back (X : ip_X) (M M1 : ip_H) (K : Option Value → ip_H → Prop) (hg : hig M M1) (hG : ip_G M1) (gi : Ri M) (gq : Rq M) (v : Int32) (k : Int32) (hx : (i_in k 0 1 = false ∧ v = -1 ∧ refd M M1 (-1) 1) ∨ (∃ n : Nat, n ≤ 1 ∧ k = Int32.ofNat n ∧ M.2.1 117 n = 0 ∧ v = -2 ∧ refd M M1 (-2) 2) ∨ (∃ n : Nat, n ≤ 1 ∧ k = Int32.ofNat n ∧ ¬ M.2.1 117 n = 0 ∧ v = c_sn (iR M n) ∧ bakd M M1 n)) (h : ∀ M2, vix M1 M2 → Ri M2 → Rq M2 → JJ M2 → K (some (.int v)) M2) : ip_wp X 175 0 [.ref 108, .int k, .retAddr 1] [] M1 K := by
  have g1 : Ri M1 := Ri_hig hg gi
  have g0 := g1
  obtain ⟨⟨ht, hm, ⟨f, hf, h32⟩, g4, g5, g6, g7⟩, gr, hn⟩ := g0
  have hq := rw_q3 gr
  have hpv := rw_prv gr
  have hpd := rw_prd gr
  obtain ⟨hF, hc, g3, hw, hV, ⟨wm, wm40, w8, wwd⟩, g9⟩ := gr
  have e8 := (hg 108 (by decide) (by decide)).1
  have e9 := (hg 109 (by decide) (by decide)).1
  have e10 := (hg 110 (by decide) (by decide)).2
  have e11 := (hg 111 (by decide) (by decide)).1
  have e12 := (hg 112 (by decide) (by decide)).1
  have e13 := (hg 113 (by decide) (by decide)).1
  have e14 := (hg 114 (by decide) (by decide)).1
  have e15 := (hg 115 (by decide) (by decide)).2
  have e16 := (hg 116 (by decide) (by decide)).2
  have e17 := (hg 117 (by decide) (by decide)).1
  have k01 : ∀ n : Nat, n ≤ 1 → i_in (Int32.ofNat n) 0 1 = true := fun n hn => by
    have hc : n = 0 ∨ n = 1 := by omega
    rcases hc with rfl | rfl <;> decide
  have inj : ∀ a b : Nat, a ≤ 1 → b ≤ 1 → Int32.ofNat a = Int32.ofNat b → a = b := fun a b ha hb e => by
    rw [ip_neq _ _ (by omega) (by omega)] at e
    exact e
  refine o_175 X M1 K k hG ht (fun e => ?_) (fun m hm1 e hz => ?_) (fun m hm1 e hz => ?_)
  · rcases hx with ⟨-, rfl, rd⟩ | ⟨n, hn, en, -⟩ | ⟨n, hn, en, -⟩
    · obtain ⟨f1, f2, f3, f4⟩ := fin_no (k := 1) hg gi gq rd (vis_r M1) rfl rfl rfl
      exact h _ f1 f2 f3 f4
    · rw [en, k01 n hn] at e
      exact absurd e (by decide)
    · rw [en, k01 n hn] at e
      exact absurd e (by decide)
  · rw [e17] at hz
    rcases hx with ⟨c, -⟩ | ⟨n, hn, en, -, rfl, rd⟩ | ⟨n, hn, en, c, -⟩
    · rw [e, k01 m hm1] at c
      exact absurd c (by decide)
    · obtain ⟨f1, f2, f3, f4⟩ := fin_no (k := 2) hg gi gq rd (vis_r M1) rfl rfl rfl
      exact h _ f1 f2 f3 f4
    · have a := inj m n hm1 hn (e.symm.trans en)
      subst a
      exact absurd hz c
  · have hz0 := hz
    rw [e17] at hz
    rcases hx with ⟨c, -⟩ | ⟨n, hn, en, c, -⟩ | ⟨n, hn, en, -, rfl, hc, hh⟩
    · rw [e, k01 m hm1] at c
      exact absurd c (by decide)
    · have a := inj m n hm1 hn (e.symm.trans en)
      subst a
      exact absurd c hz
    · have emn := inj m n hm1 hn (e.symm.trans en)
      subst emn
      have w := Ri_iR gi (show m < 2 by omega) hz
      have vv : vix M1 (c_ye (c_bi M1 m)) := vix_t (vix_bi M1 m) (vix_vis (vis_ye _))
      have oI : ∀ a, ¬ a = 108 → ¬ a = 109 → (c_ye (c_bi M1 m)).2.1 a = M1.2.1 a := fun a h8 h9 => (ye_I' _ a h8).trans (funext fun b => by rw [bi_I, if_neg (by omega), if_neg h9])
      have oL : ∀ a, ¬ a = 110 → (c_ye (c_bi M1 m)).2.2.1 a = M1.2.2.1 a := fun a ha => funext fun b => by rw [ye_L0, bi_L, if_neg ha]
      have o8 : (c_ye (c_bi M1 m)).2.1 108 12 = Int32.ofNat 0 := by
        rw [ye_8 _ _ (by decide), bi_I, if_pos ⟨rfl, rfl⟩]
        rfl
      have o3 : (c_ye (c_bi M1 m)).2.1 108 3 = M.2.1 108 3 := by rw [ye_8 _ _ (by decide), bi_I, if_neg (by omega), if_neg (by decide), e8]
      have r9 : ∀ x, x < 821 → (c_bi M1 m).2.1 109 x = iR M m x := fun x hx => by
        rw [bi_I, if_neg (by omega), if_pos rfl, cp_in (by omega), e14]
        exact congrArg (M.2.1 114) (by omega)
      have r9' : ∀ x, x < 821 → (c_ye (c_bi M1 m)).2.1 109 x = iR M m x := fun x hx => (congrFun (ye_I' _ 109 (by decide)) x).trans (r9 x hx)
      have p10 : ∀ x, x < 9 → (c_ye (c_bi M1 m)).2.2.1 110 x = iP M m x := fun x hx => by
        rw [ye_L0, bi_L, if_pos rfl, cp_in (by omega), e16]
        exact congrArg (M.2.2.1 116) (by omega)
      have kk : kR (c_ye (c_bi M1 m)) = kR M := by unfold kR; rw [oI 112 (by decide) (by decide), e12]
      have ii : iR (c_ye (c_bi M1 m)) = iR M := by unfold iR; rw [oI 114 (by decide) (by decide), e14]
      have ip : iP (c_ye (c_bi M1 m)) = iP M := by unfold iP; rw [oL 116 (by decide), e16]
      rw [sn_c r9]
      refine h _ vv (Ri_ye (Ri_bi hm1 hz0 g1)) ⟨qk_c r9' p10 w (gq.2.2 m (by omega) hz), fun m' hm' => ?_, fun m' hm' hz => ?_⟩ (jj_of (vix_low vv) (n := 0) (by omega) o8 (cur_N r9' w hc) ?_ ?_ ?_ ?_)
      · rw [o8, ip_nc 0 (by omega)] at hm'
        exact absurd hm' (by omega)
      · rw [oI 117 (by decide) (by decide), e17] at hz
        rw [ii, ip]
        exact gq.2.2 m' hm' hz
      · rw [kk, oI 113 (by decide) (by decide), e13]
        exact hh.1
      · rw [ii, oI 117 (by decide) (by decide), e17]
        exact hh.2.1
      · rw [ye_4, oI 111 (by decide) (by decide), e11]
        exact hh.2.2.1
      · rw [o3]
        exact hh.2.2.2
