-- THE SCRIPT'S METHOD, FROM ITS ENTRY
set_option maxRecDepth 100000 in
theorem ip_In : (ip_cl.all fun q => decide (Cond.instantiable q.1 q.2.2 ∈ lw_tbl)) = true := by decide +kernel
set_option maxRecDepth 100000 in
theorem ip_AO8 : Cond.arrayOver (.object RX8) ∈ lw_tbl := by decide +kernel
set_option maxRecDepth 100000 in
theorem ip_AO5 : Cond.arrayOver (.object RX5) ∈ lw_tbl := by decide +kernel
theorem ip_cl_known {s : State} {A : Array Value} (hts : ∀ w ∈ lw_tbl, w.before A s = true) (c : Nat) (q : vw_C) (hq : ip_cl[c]? = some q) : ∃ (cC : ClassId) (iS : Nat → Nat), u_Kn s q.1 q.2.1 q.2.2 cC iS := by
  have hm := List.mem_of_getElem? hq
  have h1 := List.all_eq_true.mp ip_Lw q hm
  have h2 := List.all_eq_true.mp ip_In q hm
  refine u_known (ws := lw_tbl) hts (fun w hw => ?_) (hts _ (of_decide_eq_true h2))
  have h3 := List.all_eq_true.mp h1 w hw
  simp only [Bool.and_eq_true, decide_eq_true_eq] at h3
  exact h3.1
theorem ip_W_of {s : State} {A : Array Value} (hts : ∀ w ∈ lw_tbl, w.before A s = true) : ip_W s := by
  refine ⟨fun w hw hg => ?_, va_AO.of (A := A) (hts _ ip_AO8), va_AO.of (A := A) (hts _ ip_AO5)⟩
  have h0 := hts w hw
  by_cases ho : w.onTables = true
  · exact va_Nw.of ho h0
  · have h1 : goodWord w = true ∨ ip_isN w = true := by simpa [ip_gw] using hg
    rcases h1 with h1 | h1
    · rcases good_of_word h1 with h2 | ⟨ty, rfl⟩
      · rw [Bool.and_eq_true] at h2
        exact absurd h2.1 ho
      · exact h0
    · cases w <;> first | (simp [ip_isN] at h1; done) | (exact absurd rfl ho)
theorem ip_D_of {s : State} {A : Array Value} (d : ClassId) (hts : ∀ w ∈ lw_tbl, w.before A s = true) : ∃ D : va_G, va_K D ip_cl [] s := by
  have h : ∀ c : Nat, ∃ z : ClassId × (Nat → Nat), ∀ q : vw_C, ip_cl[c]? = some q → u_Kn s q.1 q.2.1 q.2.2 z.1 z.2 := by
    intro c
    cases hc : ip_cl[c]? with
    | none => exact ⟨(d, fun _ => 0), fun q h => by cases h⟩
    | some q =>
      obtain ⟨a, i, h⟩ := ip_cl_known hts c q hc
      exact ⟨(a, i), fun q' h' => by cases h'; exact h⟩
  exact ⟨(fun c => (Classical.choose (h c)).1, fun c => (Classical.choose (h c)).2), fun c q hq => Classical.choose_spec (h c) q hq, fun k q hq => by simp at hq⟩
set_option maxHeartbeats 4000000 in
set_option maxRecDepth 100000 in
theorem whole_start {p : Program} {e : Env} {s : State} {m : MethodId} {below : List Frame} {meth : Method} {c : Code} (l : Launch) (hflags : l.flags = flags0) {b L : Nat} {xs : Nat → Int32} (hL : L ≤ 3072) (C0 : lw_At p s m meth c b L xs) : W p l e room_1 s m #[Value.ref b] below meth c s.heap [] 0 0 (lw_Z below #[Value.ref b] s) (entryFrame m ([Value.ref b] : List Value).toArray 4) := by
  obtain ⟨hx, hb, hr, hml, hown, hts, hX, hbl, hlk, -⟩ := C0
  have hW := ip_W_of hts
  obtain ⟨D, hK⟩ := ip_D_of m.cls hts
  obtain ⟨n, ⟨r, Mf⟩, hz, hG⟩ := law_wp (L, xs) (fun r M1 => r = some (.int 1) ∧ ip_G M1) hL (fun M1 h => ⟨rfl, h⟩)
  obtain ⟨hr1, hG⟩ := hG
  dsimp only at hr1 hG
  subst hr1
  have hA : ip_A (fun x => (s.vm.findClass ("[" ++ (ip_ty x).toString)).getD m.cls) s := fun x k hk => by
    dsimp only
    rw [hk]; rfl
  generalize (fun x => (s.vm.findClass ("[" ++ (ip_ty x).toString)).getD m.cls) = cA at hA
  have hcode : code = ip_by 295 := rfl
  have C : ip_Cx D cA 295 p room_1 s m meth c := ⟨hx, hb.trans hcode, hml, hown, hW, hK, hA, Or.inl rfl, by exact Nat.le_of_ble_eq_true rfl, by exact Nat.le_of_ble_eq_true rfl⟩
  have hl := lv_entry [Value.ref b] (n := 4) (by exact Nat.le_of_ble_eq_true rfl)
  rw [lg_entry_eq]
  generalize (lg_sl [Value.ref b] ++ List.replicate (4 - (lg_sl [Value.ref b]).length) Slot.unset).toArray = arr at hl ⊢
  have hpl : ip_pl b s.heap.size [.retAddr 0, .retAddr 1, .retAddr 1, .retAddr 1] = lv_args 0 [Value.ref b] := rfl
  have hl2 : lv_has arr (ip_ml 295) (ip_pl b s.heap.size [.retAddr 0, .retAddr 1, .retAddr 1, .retAddr 1]) := by rw [hpl]; exact hl
  have hR : ip_Rl D cA s.heap.size s.heap s ip_M0 s.heap [] := ⟨fun k q h => by simp [ip_ws, ip_M0] at h, rfl, va_S.rf, fun k ci n h => by simp [ip_M0] at h, fun k x n h => by simp [ip_M0] at h⟩
  have hlen : Mf.1.length = 128 := by rw [hG.1]; rfl
  have hsz : ip_size Mf.1 = ip_size ip_SH := by rw [hG.1]
  have hsz2 : ip_size ip_SH ≤ 7302250 := by exact Nat.le_of_ble_eq_true rfl
  have h0l : ip_M0.1.length = 0 := rfl
  have h0s : ip_size ip_M0.1 = 0 := rfl
  have hc1 : 0 + (Mf.1.length - ip_M0.1.length) ≤ 600000 := by omega
  have hc2 : 0 + (ip_size Mf.1 - ip_size ip_M0.1) ≤ 7302250 := by omega
  refine ip_sound l (L, xs) D cA s.heap.size b n 295 0 [.retAddr 0, .retAddr 1, .retAddr 1, .retAddr 1] [] ip_M0 (some (.int 1)) Mf hz p e room_1 s m #[Value.ref b] below meth c s.heap [] 0 0 (lw_Z below #[Value.ref b] s) s.heap arr C hc1 hc2 hR (fun _ => ⟨hX, hbl, Nat.not_le.mpr hbl⟩) hl2 rfl ?_
  intro H' locs' pc' arr' en st0 hR' hat hrv
  obtain ⟨-, hok⟩ := ip_at_ok hat
  refine va_forget (fun q hq => hR'.2.2.1.2.2 q hq) (W.widen hc1 hc2 ?_)
  obtain ⟨i, nx, a, k2, t, w, v, ts⟩ := en
  unfold ip_rv at hrv
  dsimp only at hrv
  split at hrv
  · rename_i x
    split at hrv
    · cases hrv
      simp only [ip_ok, Bool.and_eq_true, decide_eq_true_eq] at hok
      obtain ⟨h1, h2⟩ := hok
      obtain ⟨hd, -⟩ := ip_dc_spec h1
      exact lw_ret hx hb hr hlk (by rw [hcode]; exact hd)
    · cases hrv
  · cases hrv
  · cases hrv
  · cases hrv
  · cases hrv
