-- BEHIND THE TWO CONSTRUCTORS: the invariant
theorem ip_st_g (M : ip_H) (l : List (Nat × Nat × Int32)) (h : (l.all fun q => decide (M.2.1 q.1 q.2.1 = q.2.2)) = true) {k j : Nat} {v : Int32} (hm : (k, j, v) ∈ l) : M.2.1 k j = v := of_decide_eq_true (List.all_eq_true.mp h _ hm)
theorem ip_st_a (M : ip_H) (l : List (Nat × Nat)) (h : (l.all fun q => (List.range q.2).all fun j => decide (M.2.1 q.1 j = 0)) = true) {k n : Nat} (hm : (k, n) ∈ l) {j : Nat} (hj : j < n) : M.2.1 k j = 0 := of_decide_eq_true (List.all_eq_true.mp (List.all_eq_true.mp h _ hm) j (List.mem_range.mpr hj))
theorem ip_st_l (M : ip_H) (l : List (Nat × Nat)) (h : (l.all fun q => (List.range q.2).all fun j => decide (M.2.2.1 q.1 j = 0)) = true) {k n : Nat} (hm : (k, n) ∈ l) {j : Nat} (hj : j < n) : M.2.2.1 k j = 0 := of_decide_eq_true (List.all_eq_true.mp (List.all_eq_true.mp h _ hm) j (List.mem_range.mpr hj))
theorem ip_st {k j : Nat} {v : Int32} (h : (k, j, v) ∈ ip_sI0) : ip_M2.2.1 k j = v := ip_st_g ip_M2 ip_sI0 ip_sI0_ok h
theorem ip_pr110 : pr_ok (ip_M2.2.2.1 110) 9 := fun j hj => by
  rw [ip_st_l ip_M2 _ ip_sLA (k := 110) (n := 9) (by decide) hj]
  decide
theorem ip_pr115 : pr_ok (ip_M2.2.2.1 115) 72 := fun j hj => by
  rw [ip_st_l ip_M2 _ ip_sLA (k := 115) (n := 72) (by decide) hj]
  decide
theorem ip_pr116 : pr_ok (ip_M2.2.2.1 116) 18 := fun j hj => by
  rw [ip_st_l ip_M2 _ ip_sLA (k := 116) (n := 18) (by decide) hj]
  decide
theorem ip_z8 (j : Nat) : ip_M2.2.1 8 j = 0 := by
  by_cases hj : j < 61
  · exact ip_st_a ip_M2 _ ip_sAA1 (k := 8) (n := 61) (by decide) hj
  · have e : ip_sh ip_M2 8 = (1, 2, 61) := by unfold ip_sh; rw [ip_M2_SH]; rfl
    exact ip_M2_Zb 8 j (by rw [e]) (by rw [e]; dsimp only; omega)
theorem ip_z18 (j : Nat) : ip_M2.2.1 18 j = 0 := by
  by_cases hj : j < 120
  · exact ip_st_a ip_M2 _ ip_sAA1 (k := 18) (n := 120) (by decide) hj
  · have e : ip_sh ip_M2 18 = (1, 2, 120) := by unfold ip_sh; rw [ip_M2_SH]; rfl
    exact ip_M2_Zb 18 j (by rw [e]) (by rw [e]; dsimp only; omega)
theorem ip_z20 (j : Nat) : ip_M2.2.1 20 j = 0 := by
  by_cases hj : j < 200
  · exact ip_st_a ip_M2 _ ip_sAA1 (k := 20) (n := 200) (by decide) hj
  · have e : ip_sh ip_M2 20 = (1, 2, 200) := by unfold ip_sh; rw [ip_M2_SH]; rfl
    exact ip_M2_Zb 20 j (by rw [e]) (by rw [e]; dsimp only; omega)
theorem ip_z22 (j : Nat) : ip_M2.2.1 22 j = 0 := by
  by_cases hj : j < 120
  · exact ip_st_a ip_M2 _ ip_sAA1 (k := 22) (n := 120) (by decide) hj
  · have e : ip_sh ip_M2 22 = (1, 2, 120) := by unfold ip_sh; rw [ip_M2_SH]; rfl
    exact ip_M2_Zb 22 j (by rw [e]) (by rw [e]; dsimp only; omega)
theorem ip_z27 (j : Nat) : ip_M2.2.1 27 j = 0 := by
  by_cases hj : j < 2
  · exact ip_st_a ip_M2 _ ip_sAA1 (k := 27) (n := 2) (by decide) hj
  · have e : ip_sh ip_M2 27 = (1, 3, 2) := by unfold ip_sh; rw [ip_M2_SH]; rfl
    exact ip_M2_Zb 27 j (by rw [e]) (by rw [e]; dsimp only; omega)
theorem ip_z31 (j : Nat) : ip_M2.2.1 31 j = 0 := by
  by_cases hj : j < 120
  · exact ip_st_a ip_M2 _ ip_sAA1 (k := 31) (n := 120) (by decide) hj
  · have e : ip_sh ip_M2 31 = (1, 2, 120) := by unfold ip_sh; rw [ip_M2_SH]; rfl
    exact ip_M2_Zb 31 j (by rw [e]) (by rw [e]; dsimp only; omega)
theorem ip_z36 (j : Nat) : ip_M2.2.1 36 j = 0 := by
  by_cases hj : j < 120
  · exact ip_st_a ip_M2 _ ip_sAA1 (k := 36) (n := 120) (by decide) hj
  · have e : ip_sh ip_M2 36 = (1, 2, 120) := by unfold ip_sh; rw [ip_M2_SH]; rfl
    exact ip_M2_Zb 36 j (by rw [e]) (by rw [e]; dsimp only; omega)
theorem ip_z41 (j : Nat) : ip_M2.2.1 41 j = 0 := by
  by_cases hj : j < 120
  · exact ip_st_a ip_M2 _ ip_sAA1 (k := 41) (n := 120) (by decide) hj
  · have e : ip_sh ip_M2 41 = (1, 2, 120) := by unfold ip_sh; rw [ip_M2_SH]; rfl
    exact ip_M2_Zb 41 j (by rw [e]) (by rw [e]; dsimp only; omega)
theorem ip_z46 (j : Nat) : ip_M2.2.1 46 j = 0 := by
  by_cases hj : j < 120
  · exact ip_st_a ip_M2 _ ip_sAA2 (k := 46) (n := 120) (by decide) hj
  · have e : ip_sh ip_M2 46 = (1, 2, 120) := by unfold ip_sh; rw [ip_M2_SH]; rfl
    exact ip_M2_Zb 46 j (by rw [e]) (by rw [e]; dsimp only; omega)
theorem ip_z51 (j : Nat) : ip_M2.2.1 51 j = 0 := by
  by_cases hj : j < 120
  · exact ip_st_a ip_M2 _ ip_sAA2 (k := 51) (n := 120) (by decide) hj
  · have e : ip_sh ip_M2 51 = (1, 2, 120) := by unfold ip_sh; rw [ip_M2_SH]; rfl
    exact ip_M2_Zb 51 j (by rw [e]) (by rw [e]; dsimp only; omega)
theorem ip_z56 (j : Nat) : ip_M2.2.1 56 j = 0 := by
  by_cases hj : j < 120
  · exact ip_st_a ip_M2 _ ip_sAA2 (k := 56) (n := 120) (by decide) hj
  · have e : ip_sh ip_M2 56 = (1, 2, 120) := by unfold ip_sh; rw [ip_M2_SH]; rfl
    exact ip_M2_Zb 56 j (by rw [e]) (by rw [e]; dsimp only; omega)
theorem ip_z61 (j : Nat) : ip_M2.2.1 61 j = 0 := by
  by_cases hj : j < 120
  · exact ip_st_a ip_M2 _ ip_sAA2 (k := 61) (n := 120) (by decide) hj
  · have e : ip_sh ip_M2 61 = (1, 2, 120) := by unfold ip_sh; rw [ip_M2_SH]; rfl
    exact ip_M2_Zb 61 j (by rw [e]) (by rw [e]; dsimp only; omega)
theorem ip_z66 (j : Nat) : ip_M2.2.1 66 j = 0 := by
  by_cases hj : j < 120
  · exact ip_st_a ip_M2 _ ip_sAA2 (k := 66) (n := 120) (by decide) hj
  · have e : ip_sh ip_M2 66 = (1, 2, 120) := by unfold ip_sh; rw [ip_M2_SH]; rfl
    exact ip_M2_Zb 66 j (by rw [e]) (by rw [e]; dsimp only; omega)
theorem ip_z71 (j : Nat) : ip_M2.2.1 71 j = 0 := by
  by_cases hj : j < 120
  · exact ip_st_a ip_M2 _ ip_sAA2 (k := 71) (n := 120) (by decide) hj
  · have e : ip_sh ip_M2 71 = (1, 2, 120) := by unfold ip_sh; rw [ip_M2_SH]; rfl
    exact ip_M2_Zb 71 j (by rw [e]) (by rw [e]; dsimp only; omega)
theorem ip_z76 (j : Nat) : ip_M2.2.1 76 j = 0 := by
  by_cases hj : j < 120
  · exact ip_st_a ip_M2 _ ip_sAA2 (k := 76) (n := 120) (by decide) hj
  · have e : ip_sh ip_M2 76 = (1, 2, 120) := by unfold ip_sh; rw [ip_M2_SH]; rfl
    exact ip_M2_Zb 76 j (by rw [e]) (by rw [e]; dsimp only; omega)
theorem ip_z82 (j : Nat) : ip_M2.2.1 82 j = 0 := by
  by_cases hj : j < 61
  · exact ip_st_a ip_M2 _ ip_sAA2 (k := 82) (n := 61) (by decide) hj
  · have e : ip_sh ip_M2 82 = (1, 2, 61) := by unfold ip_sh; rw [ip_M2_SH]; rfl
    exact ip_M2_Zb 82 j (by rw [e]) (by rw [e]; dsimp only; omega)
theorem ip_M2_G : ip_G ip_M2 := by
  refine ⟨ip_M2_SH, fun k j hk hj hs => ?_⟩
  rw [Option.isSome_iff_exists] at hs
  obtain ⟨v, hv⟩ := hs
  rw [hv]
  unfold ip_rf0 at hv
  rw [Option.map_eq_some_iff] at hv
  obtain ⟨q, h1, h2⟩ := hv
  have h3 := List.find?_some h1
  have h4 := List.mem_of_find?_eq_some h1
  simp only [Bool.and_eq_true, beq_iff_eq] at h3
  have h5 := of_decide_eq_true (List.all_eq_true.mp ip_rk q h4)
  rw [← h3.1, ← h3.2, h5, h2]
theorem ai_f2_mem {β : Type} {k j : Nat} {l : List (Nat × Nat × β)} {q : Nat × Nat × β} (h : ai_f2 k j l = some q) : q ∈ l ∧ q.1 = k ∧ q.2.1 = j := by
  rw [ai_f2_eq] at h
  have h1 := List.find?_some h
  have h2 := List.mem_of_find?_eq_some h
  simp only [Bool.and_eq_true, beq_iff_eq] at h1
  exact ⟨h2, h1⟩
theorem ip_Tb_ok : (ai_Tb.1.all fun q => decide (q.2.2.1 ≤ (ip_M2.2.1 q.1 q.2.1).toInt) && decide ((ip_M2.2.1 q.1 q.2.1).toInt ≤ q.2.2.2)) = true := by
  have e : (ai_Tb.1.all fun q => (ip_sI0.any fun s => s.1 == q.1 && (s.2.1 == q.2.1 && (decide (q.2.2.1 ≤ s.2.2.toInt) && decide (s.2.2.toInt ≤ q.2.2.2))))) = true := by decide +kernel
  refine List.all_eq_true.mpr (fun q hq => ?_)
  obtain ⟨s, hs, h⟩ := List.any_eq_true.mp (List.all_eq_true.mp e q hq)
  simp only [Bool.and_eq_true, beq_iff_eq, decide_eq_true_eq] at h ⊢
  obtain ⟨h1, h2, h3, h4⟩ := h
  have := ip_st (k := s.1) (j := s.2.1) (v := s.2.2) hs
  rw [← h1, ← h2, this]
  exact ⟨h3, h4⟩
theorem ip_M2_inv : ai_inv ai_Tb ip_M2 := by
  intro k j
  unfold ai_TT
  split
  · rename_i q hq
    obtain ⟨h1, rfl, rfl⟩ := ai_f2_mem hq
    have h2 := List.all_eq_true.mp ip_Tb_ok q h1
    simp only [Bool.and_eq_true, decide_eq_true_eq] at h2
    exact h2
  · unfold ai_TA
    split
    · rename_i p hp
      rw [ai_l1k_eq] at hp
      have hm : k ∈ ai_Tb.2.map Prod.fst := by
        have := List.lookup_eq_some_iff.mp hp
        obtain ⟨l1, l2, e, -⟩ := this
        rw [e, List.map_append, List.map_cons]
        exact List.mem_append_right _ List.mem_cons_self
      have hk : k = 8 ∨ k = 18 ∨ k = 20 ∨ k = 22 ∨ k = 27 ∨ k = 31 ∨ k = 36 ∨ k = 41 ∨ k = 46 ∨ k = 51 ∨ k = 56 ∨ k = 61 ∨ k = 66 ∨ k = 71 ∨ k = 76 ∨ k = 82 := by
        have e : ai_Tb.2.map Prod.fst = [8, 18, 20, 22, 27, 31, 36, 41, 46, 51, 56, 61, 66, 71, 76, 82] := rfl
        rw [e] at hm
        simp only [List.mem_cons, List.not_mem_nil, or_false] at hm
        exact hm
      rcases hk with rfl | rfl | rfl | rfl | rfl | rfl | rfl | rfl | rfl | rfl | rfl | rfl | rfl | rfl | rfl | rfl
      · cases hp
        rw [ip_z8]
        decide
      · cases hp
        rw [ip_z18]
        decide
      · cases hp
        rw [ip_z20]
        decide
      · cases hp
        rw [ip_z22]
        decide
      · cases hp
        rw [ip_z27]
        decide
      · cases hp
        rw [ip_z31]
        decide
      · cases hp
        rw [ip_z36]
        decide
      · cases hp
        rw [ip_z41]
        decide
      · cases hp
        rw [ip_z46]
        decide
      · cases hp
        rw [ip_z51]
        decide
      · cases hp
        rw [ip_z56]
        decide
      · cases hp
        rw [ip_z61]
        decide
      · cases hp
        rw [ip_z66]
        decide
      · cases hp
        rw [ip_z71]
        decide
      · cases hp
        rw [ip_z76]
        decide
      · cases hp
        rw [ip_z82]
        decide
    · have h1 := (ip_M2.2.1 k j).le_toInt
      have h2 := (ip_M2.2.1 k j).toInt_lt
      dsimp only
      omega

theorem ip_M2_row : rw_ok (ip_M2.2.1 109) := by
  have n3 : ip_M2.2.1 109 3 = 0 := ip_st (by decide +kernel)
  refine ⟨?_, fun h => absurd n3 h, fun h => absurd n3 h, ?_, ?_, ⟨0, by decide, ?_, fun k hk => absurd hk (Nat.not_lt_zero k)⟩, fun h => absurd n3 h⟩
  · rw [ip_st (k := 109) (j := 0) (v := 0) (by decide +kernel), ip_st (k := 109) (j := 1) (v := 0) (by decide +kernel), ip_st (k := 109) (j := 2) (v := 2) (by decide +kernel)]
    decide +kernel
  · intro k hk
    have e : ((List.range 60).all fun k => decide ((109, 641 + 3 * k + 2, (0 : Int32)) ∈ ip_sI0)) = true := by decide +kernel
    rw [ip_st (of_decide_eq_true (List.all_eq_true.mp e k (List.mem_range.mpr hk)))]
    decide
  · intro i hi
    have e : ((List.range 6).all fun i => decide ((109, 9 + 4 * i, (0 : Int32)) ∈ ip_sI0) && (decide ((109, 9 + 4 * i + 1, (0 : Int32)) ∈ ip_sI0) && (decide ((109, 9 + 4 * i + 2, (0 : Int32)) ∈ ip_sI0) && decide ((109, 9 + 4 * i + 3, (1 : Int32)) ∈ ip_sI0)))) = true := by decide +kernel
    have e1 := List.all_eq_true.mp e i (List.mem_range.mpr hi)
    simp only [Bool.and_eq_true, decide_eq_true_eq] at e1
    obtain ⟨a, b, c, d⟩ := e1
    unfold c_vo
    rw [ip_st a, ip_st b, ip_st c, ip_st d]
    exact ⟨by unfold zb; decide, by unfold zb; decide, by unfold zb; decide, by decide, by decide⟩
  · exact ip_st (by decide +kernel)
theorem ip_M2_Ri : Ri ip_M2 := by
  refine ⟨⟨ip_st (by decide +kernel), ?_, ⟨0, by decide, ip_st (by decide +kernel)⟩, ?_, ip_pr115, ?_, ip_pr116⟩, ip_M2_row, ip_pr110⟩
  · rw [ip_st (k := 108) (j := 12) (v := 0) (by decide +kernel)]
    decide
  · intro m hm
    rw [ip_st (k := 108) (j := 12) (v := 0) (by decide +kernel)] at hm
    exact absurd hm (Nat.not_lt_zero m)
  · intro m hm h
    have : m = 0 ∨ m = 1 := by omega
    rcases this with rfl | rfl
    · exact absurd (ip_st (k := 117) (j := 0) (v := 0) (by decide +kernel)) h
    · exact absurd (ip_st (k := 117) (j := 1) (v := 0) (by decide +kernel)) h
theorem ip_M2_way : ip_M2.2.1 0 7 = 0 ∧ ip_M2.2.1 108 3 = 0 := ⟨ip_st (by decide +kernel), ip_st (by decide +kernel)⟩
theorem ip_M2_tape : ip_M2.2.1 19 2 = 0 ∧ ip_M2.2.1 108 32 = 0 := ⟨ip_st (by decide +kernel), ip_st (by decide +kernel)⟩
