-- CALLS OF THE CLASS: what is known of them, together
theorem ip_wp_and {X : ip_X} {y pc : Nat} {ls st : List Value} {M : ip_H} {K1 K2 K : Option Value → ip_H → Prop} (h1 : ip_wp X y pc ls st M K1) (h2 : ip_wp X y pc ls st M K2) (h : ∀ r M1, K1 r M1 → K2 r M1 → K r M1) : ip_wp X y pc ls st M K := by
  obtain ⟨n, z, e1, k1⟩ := h1
  obtain ⟨n2, z2, e2, k2⟩ := h2
  have a1 := ip_mono_le X (Nat.le_add_right n n2) e1
  have a2 := ip_mono_le X (Nat.le_add_left n2 n) e2
  rw [a1] at a2
  cases a2
  exact ⟨n, z, e1, h _ _ k1 k2⟩
