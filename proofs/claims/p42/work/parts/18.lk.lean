-- LOOK-UPS by place: a list of entries the numbers of which rise
def lk_s : Nat → List (Nat × ip_E) → Bool
  | _, [] => true
  | n, a :: l => Nat.ble n a.1 && lk_s (a.1 + 1) l
theorem lk_ge : ∀ {l : List (Nat × ip_E)} {n : Nat}, lk_s n l = true → ∀ {pc : Nat} {e : ip_E}, (pc, e) ∈ l → n ≤ pc := by
  intro l
  induction l with
  | nil =>
    intro n h pc e hm
    cases hm
  | cons a l ih =>
    intro n h pc e hm
    rw [show lk_s n (a :: l) = (Nat.ble n a.1 && lk_s (a.1 + 1) l) from rfl, Bool.and_eq_true] at h
    have h1 := Nat.le_of_ble_eq_true h.1
    rcases List.mem_cons.mp hm with q | q
    · rw [← q] at h1
      exact h1
    · have h2 := ih h.2 q
      omega
theorem lk_of : ∀ {l : List (Nat × ip_E)} {n : Nat}, lk_s n l = true → ∀ {k pc : Nat} {e : ip_E}, l[k]? = some (pc, e) → l.lookup pc = some e := by
  intro l
  induction l with
  | nil =>
    intro n h k pc e hk
    cases hk
  | cons a l ih =>
    intro n h k pc e hk
    rw [show lk_s n (a :: l) = (Nat.ble n a.1 && lk_s (a.1 + 1) l) from rfl, Bool.and_eq_true] at h
    cases k with
    | zero =>
      have q : a = (pc, e) := Option.some.inj hk
      subst q
      exact List.lookup_cons_self
    | succ k =>
      have q : l[k]? = some (pc, e) := hk
      have m := lk_ge h.2 (List.mem_of_getElem? q)
      obtain ⟨x, y⟩ := a
      have ne : (pc == x) = false := by
        rw [beq_eq_false_iff_ne]
        dsimp only at m
        omega
      rw [List.lookup_cons, ne]
      exact ih h.2 q
theorem lk_apl {a b : List (Nat × ip_E)} {k : Nat} {p : Nat × ip_E} (h : a[k]? = some p) : (a ++ b)[k]? = some p := by
  obtain ⟨hk, -⟩ := List.getElem?_eq_some_iff.mp h
  rw [List.getElem?_append_left hk]
  exact h
theorem lk_app {a b : List (Nat × ip_E)} {k n : Nat} {p : Nat × ip_E} (hn : a.length = n) (h : b[k]? = some p) : (a ++ b)[n + k]? = some p := by
  rw [List.getElem?_append_right (by omega), ← hn, Nat.add_sub_cancel_left]
  exact h
