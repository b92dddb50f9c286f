-- A RUN THAT IS CHECKED, and the contexts
section Main
variable {T : ai_T} {D : List ai_C} {c : ai_C} {q0 : Option ai_Q3} {X : ip_X} {M0 : ip_H} {K0 : Option Value → ip_H → Prop} {z0 : Int × Int × Int}
theorem ai_run_ok (hTK : ai_TK T = true) (hD : ∀ d ∈ D, ai_valid T d)
    (hcut : ∀ k ∈ c.2.2.1, ∀ (vls : List Value) (M : ip_H), ai_two2 ai_sat k.2.1 vls → ai_satF k.2.2.1 M → ip_G M → ai_inv T M → ai_fr c.2.2.2.2 M0 M → ai_z3 (ai_rv3 vls k.2.2.2) → (q0.isSome = true → ai_ms (ai_rv3 vls k.2.2.2) < ai_ms z0) → ip_wp X c.1 k.1 vls [] M K0)
    (hexit : ∀ r M1, ai_ret c.2.2.2.1 r → ip_G M1 → ai_inv T M1 → ai_fr c.2.2.2.2 M0 M1 → K0 r M1) (hz0 : ai_z3 z0) :
    ∀ (n : Nat) (first : Bool) (fr : List ai_Fr) (y pc : Nat) (ls st : List ai_A) (E : ai_V) (F : ai_F), ai_run T D c q0 n first fr y pc ls st E F = true →
    ∀ (ρ : List Int) (vls vst : List Value) (M : ip_H) (K : Option Value → ip_H → Prop), ai_frs X ρ K0 fr K → ai_okL ρ ls vls → ai_okL ρ st vst → ai_okV ρ E → ai_okF ρ F M → ip_G M → ai_inv T M → ai_fr c.2.2.2.2 M0 M → (∀ q, q0 = some q → ai_qv3 ρ q z0) → ip_wp X y pc vls vst M K := by
  intro n
  induction n with
  | zero => intro first fr y pc ls st E F h; cases h
  | succ n ih =>
    intro first fr y pc ls st E F h ρ vls vst M K hK hls hst hE hF hG hI hfr hq
    rw [ai_run] at h
    split at h
    · -- a cut point
      rename_i k hk
      split at hk
      · cases hk
      · have hk1 := List.find?_some hk
        have hk2 := List.mem_of_find?_eq_some hk
        simp only [Bool.and_eq_true, List.isEmpty_iff, ai_bt] at hk1 h
        obtain ⟨e1, e2, e3⟩ := hk1
        obtain ⟨h1, h2, h3, h4⟩ := h
        subst e1
        have hK : K = K0 := hK
        subst hK
        subst h1
        cases vst with
        | cons v vst => exact hst.elim
        | nil =>
          split at h4
          · cases h4
          · rename_i q hq3
            rw [Bool.and_eq_true] at h4
            have hv := ai_rq3_ok hls hq3
            have hz := ai_q3in_ok hE hv h4.1
            rw [e2, ← e3]
            refine hcut k hk2 vls M (ai_leL_ok hE hls h2) (ai_leF_ok hE hF hI h3) hG hI hfr hz ?_
            intro hs
            cases hq0 : q0 with
            | none => rw [hq0] at hs; cases hs
            | some p =>
              have h5 := h4.2
              rw [hq0] at h5
              exact ai_q3lt_ok hE hv (hq p hq0) hz hz0 h5
    · split at h
      · cases h
      · rename_i e he
        rw [ai_at_eq] at he
        split at h
        · -- a call
          rename_i hic
          simp only [Bool.and_eq_true, decide_eq_true_eq] at h
          obtain ⟨h1, h2, h3, h4⟩ := h
          split at h4
          · cases h4
          · rename_i l1 hl1
            have hargs : ai_okL ρ (st.take e.2.2.2.1).reverse (vst.take e.2.2.2.1).reverse := ai_two2_rev (ai_two2_take _ hst)
            have hent := ai_ent_ok hargs hl1
            have hlen := ai_two2_len hst
            have hdrop : ai_okL ρ (st.drop e.2.2.2.1) (vst.drop e.2.2.2.1) := ai_two2_drop _ hst
            have hdw := ai_cw_ok hdrop
            rw [wp_call he hic (by omega) (by omega) (ai_rci_ok (l := l1) hG hargs hent.2 h3)]
            split at h4
            · -- by what it is known to do
              rename_i d hd
              have hd1 := List.find?_some hd
              have hd2 := List.mem_of_find?_eq_some hd
              simp only [Bool.and_eq_true, ai_bt] at hd1 h4
              obtain ⟨h5, h6⟩ := h4
              rw [← hd1.1]
              refine hD d hd2 X M _ _ (ai_leL_ok hE hargs hd1.2) hG hI ?_
              intro r M1 hr hG1 hI1 hf1
              have hqt : ∀ t, ∀ q, q0 = some q → ai_qv3 (ρ ++ t) q z0 := fun t q e => ⟨ai_qv_app t (hq q e).1, ai_qv_app t (hq q e).2.1, ai_qv_app t (hq q e).2.2⟩
              split at h6
              · rename_i hn
                rw [hn] at hr
                cases r with
                | some v => exact hr.elim
                | none => exact ih false fr y e.2.1 ls _ E _ h6 ρ vls _ M1 K hK hls hdrop hE (ai_flt_ok hF hf1) hG1 hI1 (ai_fr_t hfr (ai_leW_ok h5 hf1)) hq
              · rename_i ps hn
                rw [hn] at hr
                cases r with
                | none => exact hr.elim
                | some v =>
                  obtain ⟨p, hp, hpv⟩ := hr
                  have h7 := List.all_eq_true.mp h6 p hp
                  split at h7
                  · cases h7
                  · rename_i g hg
                    obtain ⟨t, k1, k2⟩ := ai_give_ok hE hpv hg
                    exact ih false fr y e.2.1 ls _ g.2 _ h7 (ρ ++ t) vls _ M1 K (ai_frs_app t hK) (ai_okL_app t hls) (ai_two2_app k2 (ai_okL_app t hdrop)) k1 (ai_flt_ok (ai_okF_app t hF) hf1) hG1 hI1 (ai_fr_t hfr (ai_leW_ok h5 hf1)) (hqt t)
            · -- in line
              exact ih false _ e.2.2.1 0 l1 [] E F h4 ρ _ [] M _ ⟨K, vls, vst.drop e.2.2.2.1, hK, hls, hdrop, rfl⟩ hent.1 trivial hE hF hG hI hfr hq
        · rename_i hic
          have hic : ip_ic e = false := by simpa using hic
          split at h
          · -- a return
            rename_i a ha
            obtain ⟨r, hr, hra⟩ := ai_rvl_ok hE hst ha
            rw [wp_ret he hic hr]
            split at h
            · have hK : K = K0 := hK
              subst hK
              refine hexit r M ?_ hG hI hfr
              split at h
              · rename_i h5 h6
                cases r with
                | none => rw [h6]; trivial
                | some v => exact hra.elim
              · rename_i a2 ps h5 h6
                cases r with
                | none => exact hra.elim
                | some v =>
                  rw [h6]
                  obtain ⟨p, hp, hpl⟩ := List.any_eq_true.mp h
                  exact ⟨p, hp, ai_leP_ok hE hra.1 hpl⟩
              · cases h
            · rename_i f fs _
              obtain ⟨K1, vl1, vs1, k1, k2, k3, k4⟩ := hK
              rw [k4]
              exact ih false fs f.1 f.2.1 f.2.2.1 _ E F h ρ vl1 _ M K1 k1 k2 (ai_two2_app hra k3) hE hF hG hI hfr hq
          · split at h
            · cases h
            · rename_i hn L hL
              obtain ⟨z, hz, s, hs, t, k1, k2, k3, k4, k5, k6, k7, k8⟩ := ai_step_ok X y hTK hL hls hst hE hF hG hI
              rw [wp_step he hic (ai_step_rv hL vst) hz, ← k1]
              exact ih false fr y s.1 s.2.1 s.2.2.1 s.2.2.2.1 s.2.2.2.2 (List.all_eq_true.mp h s hs) (ρ ++ t) _ _ _ K (ai_frs_app t hK) k2 k3 k4 k5 k6 k7 (ai_fr_t hfr k8) (fun q e => ⟨ai_qv_app t (hq q e).1, ai_qv_app t (hq q e).2.1, ai_qv_app t (hq q e).2.2⟩)
end Main
theorem ai_chk_ok {T : ai_T} {D : List ai_C} {c : ai_C} {n : Nat} (hTK : ai_TK T = true) (hD : ∀ d ∈ D, ai_valid T d) (h : ai_chk T D c n = true) : ai_valid T c := by
  unfold ai_chk at h
  rw [Bool.and_eq_true] at h
  obtain ⟨h1, h2⟩ := h
  intro X M vs K hvs hG hI hK
  have z3 : ai_z3 (0, 0, 0) := ⟨⟨by decide, by decide⟩, ⟨by decide, by decide⟩, ⟨by decide, by decide⟩⟩
  have cuts : ∀ (N : Nat) (k : ai_K), k ∈ c.2.2.1 → ∀ (vls : List Value) (M1 : ip_H), ai_two2 ai_sat k.2.1 vls → ai_satF k.2.2.1 M1 → ip_G M1 → ai_inv T M1 → ai_fr c.2.2.2.2 M M1 → ai_z3 (ai_rv3 vls k.2.2.2) → ai_ms (ai_rv3 vls k.2.2.2) < N → ip_wp X c.1 k.1 vls [] M1 K := by
    intro N
    induction N with
    | zero => intro k hk vls M1 _ _ _ _ _ a b; have := ai_z3_ms a; omega
    | succ N ih =>
      intro k hk vls M1 b1 b2 b3 b4 b5 b6 b7
      have h3 := List.all_eq_true.mp h2 k hk
      unfold ai_from at h3
      obtain ⟨t, k1, k2⟩ := ai_mk_ok k.2.1 [] [] vls trivial b1
      rw [List.nil_append] at k1 k2
      obtain ⟨t2, k3, k4⟩ := ai_mkF_ok k.2.2.1 _ t M1 k1 b2
      split at h3
      · cases h3
      · rename_i q hq
        have hqv := ai_rq3_ok k2 hq
        refine ai_run_ok (z0 := ai_rv3 vls k.2.2.2) (M0 := M) hTK hD ?_ hK b6 n true [] c.1 k.1 _ [] _ _ h3 (t ++ t2) vls [] M1 K rfl (ai_okL_app t2 k2) trivial k3 k4 b3 b4 b5 ?_
        · intro k' hk' vls' M' g1 g2 g3 g4 g5 g6 g7
          have := g7 rfl
          exact ih k' hk' vls' M' g1 g2 g3 g4 g5 g6 (by omega)
        · intro p hp
          cases hp
          exact ⟨ai_qv_app t2 hqv.1, ai_qv_app t2 hqv.2.1, ai_qv_app t2 hqv.2.2⟩
  split at h1
  · cases h1
  · rename_i l hl
    obtain ⟨t, k1, k2⟩ := ai_mk_ok c.2.1 [] [] vs trivial hvs
    rw [List.nil_append] at k1 k2
    have hent := ai_ent_ok k2 hl
    refine ai_run_ok (z0 := (0, 0, 0)) (M0 := M) hTK hD ?_ hK z3 n true [] c.1 0 _ [] _ _ h1 t _ [] M K rfl hent.1 trivial k1 (fun f hf => by cases hf) hG hI (ai_fr_r _ _) (fun q e => by cases e)
    intro k hk vls M1 g1 g2 g3 g4 g5 g6 _
    exact cuts ((ai_ms (ai_rv3 vls k.2.2.2)).toNat + 1) k hk vls M1 g1 g2 g3 g4 g5 g6 (by omega)
