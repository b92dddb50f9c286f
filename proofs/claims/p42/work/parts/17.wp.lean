-- WEAKEST PRECONDITIONS over the interpreter: an equation an instruction
def ip_wp (X : ip_X) (y pc : Nat) (ls st : List Value) (M : ip_H) (K : Option Value → ip_H → Prop) : Prop := ∃ (n : Nat) (z : Option Value × ip_H), ip_exec X n y pc ls st M = some z ∧ K z.1 z.2
section WP
variable {X : ip_X} {y pc nx a k2 t w : Nat} {v : Value} {ts : List Nat} {ls st : List Value} {M : ip_H} {K : Option Value → ip_H → Prop}
theorem ip_cw_len {l : List Value} (h : l.length ≤ 4) : ip_cw l ≤ 8 := by
  have key : ∀ l : List Value, ip_cw l ≤ 2 * l.length := by
    intro l
    induction l with
    | nil => exact Nat.le_refl _
    | cons v l ih =>
      have h1 : v.category ≤ 2 := by rcases lv_cat v with h | h <;> omega
      unfold ip_cw at *
      simp only [List.map_cons, List.sum_cons, List.length_cons]
      omega
  have := key l
  omega
theorem wp_step {e : ip_E} {z : ip_Z} (he : ip_at y pc = some e) (hic : ip_ic e = false) (hrv : ip_rv e st = none) (hs : ip_step y X e ls st M = some z) : ip_wp X y pc ls st M K = ip_wp X y z.1 z.2.1 z.2.2.1 z.2.2.2 K := by
  have hic2 : ¬ ip_ic e = true := by rw [hic]; decide
  apply propext
  constructor
  · rintro ⟨n, q, h, hK⟩
    cases n with
    | zero => cases h
    | succ n =>
      rw [ip_exec, he] at h
      dsimp only at h
      rw [if_neg hic2, hrv] at h
      dsimp only at h
      rw [hs] at h
      exact ⟨n, q, h, hK⟩
  · rintro ⟨n, q, h, hK⟩
    refine ⟨n + 1, q, ?_, hK⟩
    rw [ip_exec, he]
    dsimp only
    rw [if_neg hic2, hrv]
    dsimp only
    rw [hs]
    exact h
theorem wp_st {e : ip_E} {pc1 : Nat} {ls1 st1 : List Value} {M1 : ip_H} (he : ip_at y pc = some e) (hic : ip_ic e = false) (hrv : ip_rv e st = none) (hs : ip_step y X e ls st M = some (pc1, ls1, st1, M1)) : ip_wp X y pc ls st M K = ip_wp X y pc1 ls1 st1 M1 K := wp_step he hic hrv hs
theorem wp_stuck {e : ip_E} (he : ip_at y pc = some e) (hic : ip_ic e = false) (hrv : ip_rv e st = none) (hs : ip_step y X e ls st M = none) : ip_wp X y pc ls st M K = False := by
  have hic2 : ¬ ip_ic e = true := by rw [hic]; decide
  apply propext
  refine ⟨?_, fun h => h.elim⟩
  rintro ⟨n, q, h, hK⟩
  cases n with
  | zero => cases h
  | succ n =>
    rw [ip_exec, he] at h
    dsimp only at h
    rw [if_neg hic2, hrv] at h
    dsimp only at h
    rw [hs] at h
    cases h
theorem wp_ret {e : ip_E} {r : Option Value} (he : ip_at y pc = some e) (hic : ip_ic e = false) (hrv : ip_rv e st = some r) : ip_wp X y pc ls st M K = K r M := by
  have hic2 : ¬ ip_ic e = true := by rw [hic]; decide
  apply propext
  constructor
  · rintro ⟨n, q, h, hK⟩
    cases n with
    | zero => cases h
    | succ n =>
      rw [ip_exec, he] at h
      dsimp only at h
      rw [if_neg hic2, hrv] at h
      cases h
      exact hK
  · intro h
    refine ⟨1, (r, M), ?_, h⟩
    rw [ip_exec, he]
    dsimp only
    rw [if_neg hic2, hrv]
/-- a call: the callee, then what is behind it -/
theorem wp_call {e : ip_E} (he : ip_at y pc = some e) (hic : ip_ic e = true) (hk : e.2.2.2.1 ≤ st.length) (h4 : ip_cw (st.drop e.2.2.2.1) ≤ 8) (hrc : ip_rc e (st.take e.2.2.2.1).reverse M = true) :
    ip_wp X y pc ls st M K = ip_wp X e.2.2.1 0 (ip_ent (ip_ml e.2.2.1) (st.take e.2.2.2.1).reverse) [] M (fun r M1 => ip_wp X y e.2.1 ls (r.toList ++ st.drop e.2.2.2.1) M1 K) := by
  apply propext
  constructor
  · rintro ⟨n, q, h, hK⟩
    cases n with
    | zero => cases h
    | succ n =>
      rw [ip_exec, he] at h
      dsimp only at h
      rw [if_pos hic, if_pos ⟨hk, h4, hrc⟩] at h
      split at h
      · cases h
      · rename_i r M1 hx
        exact ⟨n, (r, M1), hx, n, q, h, hK⟩
  · rintro ⟨n, ⟨r, M1⟩, hx, n2, q, h, hK⟩
    refine ⟨(n + n2) + 1, q, ?_, hK⟩
    rw [ip_exec, he]
    dsimp only
    rw [if_pos hic, if_pos ⟨hk, h4, hrc⟩, ip_mono_le X (Nat.le_add_right n n2) hx]
    exact ip_mono_le X (Nat.le_add_left n2 n) h
def ip_ki (q : Value) (k : Int32 → Prop) : Prop := match q with
  | .int x => k x
  | _ => False
def ip_kl (q : Value) (k : Int64 → Prop) : Prop := match q with
  | .long x => k x
  | _ => False
def ip_ka (q : Value) (k : Value → Prop) : Prop := match q with
  | .ref x => k (.ref x)
  | .retAddr 0 => k (.retAddr 0)
  | _ => False
theorem ip_ki_int (x : Int32) (k : Int32 → Prop) : ip_ki (.int x) k = k x := rfl
theorem ip_kl_long (x : Int64) (k : Int64 → Prop) : ip_kl (.long x) k = k x := rfl
theorem ip_ka_ref (x : Nat) (k : Value → Prop) : ip_ka (.ref x) k = k (.ref x) := rfl
theorem ip_ka_scr (k : Value → Prop) : ip_ka (.retAddr 0) k = k (.retAddr 0) := rfl
theorem wp_iconst {n : Int} (h : ip_at y pc = some (.iconst n, nx, a, k2, t, w, v, ts)) : ip_wp X y pc ls st M K = ip_wp X y nx ls (v :: st) M K := wp_st h rfl rfl rfl
theorem wp_bipush {n : Int} (h : ip_at y pc = some (.bipush n, nx, a, k2, t, w, v, ts)) : ip_wp X y pc ls st M K = ip_wp X y nx ls (v :: st) M K := wp_st h rfl rfl rfl
theorem wp_sipush {n : Int} (h : ip_at y pc = some (.sipush n, nx, a, k2, t, w, v, ts)) : ip_wp X y pc ls st M K = ip_wp X y nx ls (v :: st) M K := wp_st h rfl rfl rfl
theorem wp_lconst {n : Fin 2} (h : ip_at y pc = some (.lconst n, nx, a, k2, t, w, v, ts)) : ip_wp X y pc ls st M K = ip_wp X y nx ls (v :: st) M K := wp_st h rfl rfl rfl
theorem wp_ldc {n : Nat} (h : ip_at y pc = some (.ldc n, nx, a, k2, t, w, v, ts)) : ip_wp X y pc ls st M K = ip_wp X y nx ls (v :: st) M K := wp_st h rfl rfl rfl
theorem wp_ldc_w {n : Nat} (h : ip_at y pc = some (.ldc_w n, nx, a, k2, t, w, v, ts)) : ip_wp X y pc ls st M K = ip_wp X y nx ls (v :: st) M K := wp_st h rfl rfl rfl
theorem wp_ldc2_w {n : Nat} (h : ip_at y pc = some (.ldc2_w n, nx, a, k2, t, w, v, ts)) : ip_wp X y pc ls st M K = ip_wp X y nx ls (v :: st) M K := wp_st h rfl rfl rfl
theorem wp_iload {n : Nat} (h : ip_at y pc = some (.iload n, nx, a, k2, t, w, v, ts)) : ip_wp X y pc ls st M K = ip_ki (ip_get ls a) (fun x => ip_wp X y nx ls (.int x :: st) M K) := by
  cases hg : ip_get ls a with
  | int x => exact wp_st h rfl rfl (by simp only [ip_step, hg])
  | _ => exact wp_stuck h rfl rfl (by simp only [ip_step, hg])
theorem wp_iload_n {n : Fin 4} (h : ip_at y pc = some (.iload_n n, nx, a, k2, t, w, v, ts)) : ip_wp X y pc ls st M K = ip_ki (ip_get ls a) (fun x => ip_wp X y nx ls (.int x :: st) M K) := by
  cases hg : ip_get ls a with
  | int x => exact wp_st h rfl rfl (by simp only [ip_step, hg])
  | _ => exact wp_stuck h rfl rfl (by simp only [ip_step, hg])
theorem wp_lload {n : Nat} (h : ip_at y pc = some (.lload n, nx, a, k2, t, w, v, ts)) : ip_wp X y pc ls st M K = ip_kl (ip_get ls a) (fun x => ip_wp X y nx ls (.long x :: st) M K) := by
  cases hg : ip_get ls a with
  | long x => exact wp_st h rfl rfl (by simp only [ip_step, hg])
  | _ => exact wp_stuck h rfl rfl (by simp only [ip_step, hg])
theorem wp_lload_n {n : Fin 4} (h : ip_at y pc = some (.lload_n n, nx, a, k2, t, w, v, ts)) : ip_wp X y pc ls st M K = ip_kl (ip_get ls a) (fun x => ip_wp X y nx ls (.long x :: st) M K) := by
  cases hg : ip_get ls a with
  | long x => exact wp_st h rfl rfl (by simp only [ip_step, hg])
  | _ => exact wp_stuck h rfl rfl (by simp only [ip_step, hg])
theorem wp_aload {n : Nat} (h : ip_at y pc = some (.aload n, nx, a, k2, t, w, v, ts)) : ip_wp X y pc ls st M K = ip_ka (ip_get ls a) (fun x => ip_wp X y nx ls (x :: st) M K) := by
  cases hg : ip_get ls a with
  | ref x => exact wp_st h rfl rfl (by simp only [ip_step, hg])
  | retAddr x => cases x with
    | zero => exact wp_st h rfl rfl (by simp only [ip_step, hg])
    | succ x => exact wp_stuck h rfl rfl (by simp only [ip_step, hg])
  | _ => exact wp_stuck h rfl rfl (by simp only [ip_step, hg])
theorem wp_aload_n {n : Fin 4} (h : ip_at y pc = some (.aload_n n, nx, a, k2, t, w, v, ts)) : ip_wp X y pc ls st M K = ip_ka (ip_get ls a) (fun x => ip_wp X y nx ls (x :: st) M K) := by
  cases hg : ip_get ls a with
  | ref x => exact wp_st h rfl rfl (by simp only [ip_step, hg])
  | retAddr x => cases x with
    | zero => exact wp_st h rfl rfl (by simp only [ip_step, hg])
    | succ x => exact wp_stuck h rfl rfl (by simp only [ip_step, hg])
  | _ => exact wp_stuck h rfl rfl (by simp only [ip_step, hg])
theorem wp_istore {n : Nat} {x : Int32} (h : ip_at y pc = some (.istore n, nx, a, k2, t, w, v, ts)) : ip_wp X y pc ls (.int x :: st) M K = ip_wp X y nx (ip_set1 ls a (.int x)) st M K := wp_st h rfl rfl rfl
theorem wp_istore_n {n : Fin 4} {x : Int32} (h : ip_at y pc = some (.istore_n n, nx, a, k2, t, w, v, ts)) : ip_wp X y pc ls (.int x :: st) M K = ip_wp X y nx (ip_set1 ls a (.int x)) st M K := wp_st h rfl rfl rfl
theorem wp_lstore {n : Nat} {x : Int64} (h : ip_at y pc = some (.lstore n, nx, a, k2, t, w, v, ts)) : ip_wp X y pc ls (.long x :: st) M K = ip_wp X y nx (ip_set2 ls a (.long x)) st M K := wp_st h rfl rfl rfl
theorem wp_lstore_n {n : Fin 4} {x : Int64} (h : ip_at y pc = some (.lstore_n n, nx, a, k2, t, w, v, ts)) : ip_wp X y pc ls (.long x :: st) M K = ip_wp X y nx (ip_set2 ls a (.long x)) st M K := wp_st h rfl rfl rfl
theorem wp_astore_n {n : Fin 4} {x : Nat} (h : ip_at y pc = some (.astore_n n, nx, a, k2, t, w, v, ts)) : ip_wp X y pc ls (.ref x :: st) M K = ip_wp X y nx (ip_set1 ls a (.ref x)) st M K := wp_st h rfl rfl rfl
theorem wp_iinc {n : Nat} {k : Int} {c : Int32} (h : ip_at y pc = some (.iinc n k, nx, a, k2, t, w, .int c, ts)) : ip_wp X y pc ls st M K = ip_ki (ip_get ls a) (fun x => ip_wp X y nx (ip_set1 ls a (.int (x + c))) st M K) := by
  cases hg : ip_get ls a with
  | int x => exact wp_st h rfl rfl (by simp only [ip_step, hg])
  | _ => exact wp_stuck h rfl rfl (by simp only [ip_step, hg])
theorem wp_iadd {x q : Int32} (h : ip_at y pc = some (.iadd, nx, a, k2, t, w, v, ts)) : ip_wp X y pc ls (.int q :: .int x :: st) M K = ip_wp X y nx ls (.int (x + q) :: st) M K := wp_st h rfl rfl rfl
theorem wp_isub {x q : Int32} (h : ip_at y pc = some (.isub, nx, a, k2, t, w, v, ts)) : ip_wp X y pc ls (.int q :: .int x :: st) M K = ip_wp X y nx ls (.int (x - q) :: st) M K := wp_st h rfl rfl rfl
theorem wp_imul {x q : Int32} (h : ip_at y pc = some (.imul, nx, a, k2, t, w, v, ts)) : ip_wp X y pc ls (.int q :: .int x :: st) M K = ip_wp X y nx ls (.int (x * q) :: st) M K := wp_st h rfl rfl rfl
theorem wp_iand {x q : Int32} (h : ip_at y pc = some (.iand, nx, a, k2, t, w, v, ts)) : ip_wp X y pc ls (.int q :: .int x :: st) M K = ip_wp X y nx ls (.int (x &&& q) :: st) M K := wp_st h rfl rfl rfl
theorem wp_ixor {x q : Int32} (h : ip_at y pc = some (.ixor, nx, a, k2, t, w, v, ts)) : ip_wp X y pc ls (.int q :: .int x :: st) M K = ip_wp X y nx ls (.int (x ^^^ q) :: st) M K := wp_st h rfl rfl rfl
theorem wp_ishr {x q : Int32} (h : ip_at y pc = some (.ishr, nx, a, k2, t, w, v, ts)) : ip_wp X y pc ls (.int q :: .int x :: st) M K = ip_wp X y nx ls (.int (x >>> (q &&& 31)) :: st) M K := wp_st h rfl rfl rfl
theorem wp_ladd {x q : Int64} (h : ip_at y pc = some (.ladd, nx, a, k2, t, w, v, ts)) : ip_wp X y pc ls (.long q :: .long x :: st) M K = ip_wp X y nx ls (.long (x + q) :: st) M K := wp_st h rfl rfl rfl
theorem wp_lsub {x q : Int64} (h : ip_at y pc = some (.lsub, nx, a, k2, t, w, v, ts)) : ip_wp X y pc ls (.long q :: .long x :: st) M K = ip_wp X y nx ls (.long (x - q) :: st) M K := wp_st h rfl rfl rfl
theorem wp_lmul {x q : Int64} (h : ip_at y pc = some (.lmul, nx, a, k2, t, w, v, ts)) : ip_wp X y pc ls (.long q :: .long x :: st) M K = ip_wp X y nx ls (.long (x * q) :: st) M K := wp_st h rfl rfl rfl
theorem wp_land {x q : Int64} (h : ip_at y pc = some (.land, nx, a, k2, t, w, v, ts)) : ip_wp X y pc ls (.long q :: .long x :: st) M K = ip_wp X y nx ls (.long (x &&& q) :: st) M K := wp_st h rfl rfl rfl
theorem wp_lor {x q : Int64} (h : ip_at y pc = some (.lor, nx, a, k2, t, w, v, ts)) : ip_wp X y pc ls (.long q :: .long x :: st) M K = ip_wp X y nx ls (.long (x ||| q) :: st) M K := wp_st h rfl rfl rfl
theorem wp_lcmp {x q : Int64} (h : ip_at y pc = some (.lcmp, nx, a, k2, t, w, v, ts)) : ip_wp X y pc ls (.long q :: .long x :: st) M K = ip_wp X y nx ls (.int (lg_cmp x q) :: st) M K := wp_st h rfl rfl rfl
theorem wp_idiv {x q : Int32} (h : ip_at y pc = some (.idiv, nx, a, k2, t, w, v, ts)) : ip_wp X y pc ls (.int q :: .int x :: st) M K = if q = 0 then False else ip_wp X y nx ls (.int (x / q) :: st) M K := by
  by_cases hq : q = 0
  · rw [if_pos hq]
    refine wp_stuck h rfl rfl ?_
    simp only [ip_step, ip_i2, ip_l2, if_pos hq]
  · rw [if_neg hq]
    refine wp_st (st1 := .int (x / q) :: st) h rfl rfl ?_
    simp only [ip_step, ip_i2, ip_l2, if_neg hq]
theorem wp_irem {x q : Int32} (h : ip_at y pc = some (.irem, nx, a, k2, t, w, v, ts)) : ip_wp X y pc ls (.int q :: .int x :: st) M K = if q = 0 then False else ip_wp X y nx ls (.int (x - x / q * q) :: st) M K := by
  by_cases hq : q = 0
  · rw [if_pos hq]
    refine wp_stuck h rfl rfl ?_
    simp only [ip_step, ip_i2, ip_l2, if_pos hq]
  · rw [if_neg hq]
    refine wp_st (st1 := .int (x - x / q * q) :: st) h rfl rfl ?_
    simp only [ip_step, ip_i2, ip_l2, if_neg hq]
theorem wp_ldiv {x q : Int64} (h : ip_at y pc = some (.ldiv, nx, a, k2, t, w, v, ts)) : ip_wp X y pc ls (.long q :: .long x :: st) M K = if q = 0 then False else ip_wp X y nx ls (.long (x / q) :: st) M K := by
  by_cases hq : q = 0
  · rw [if_pos hq]
    refine wp_stuck h rfl rfl ?_
    simp only [ip_step, ip_i2, ip_l2, if_pos hq]
  · rw [if_neg hq]
    refine wp_st (st1 := .long (x / q) :: st) h rfl rfl ?_
    simp only [ip_step, ip_i2, ip_l2, if_neg hq]
theorem wp_lrem {x q : Int64} (h : ip_at y pc = some (.lrem, nx, a, k2, t, w, v, ts)) : ip_wp X y pc ls (.long q :: .long x :: st) M K = if q = 0 then False else ip_wp X y nx ls (.long (x - x / q * q) :: st) M K := by
  by_cases hq : q = 0
  · rw [if_pos hq]
    refine wp_stuck h rfl rfl ?_
    simp only [ip_step, ip_i2, ip_l2, if_pos hq]
  · rw [if_neg hq]
    refine wp_st (st1 := .long (x - x / q * q) :: st) h rfl rfl ?_
    simp only [ip_step, ip_i2, ip_l2, if_neg hq]
theorem wp_ineg {x : Int32} (h : ip_at y pc = some (.ineg, nx, a, k2, t, w, v, ts)) : ip_wp X y pc ls (.int x :: st) M K = ip_wp X y nx ls (.int (-x) :: st) M K := wp_st h rfl rfl rfl
theorem wp_lneg {x : Int64} (h : ip_at y pc = some (.lneg, nx, a, k2, t, w, v, ts)) : ip_wp X y pc ls (.long x :: st) M K = ip_wp X y nx ls (.long (-x) :: st) M K := wp_st h rfl rfl rfl
theorem wp_i2l {x : Int32} (h : ip_at y pc = some (.i2l, nx, a, k2, t, w, v, ts)) : ip_wp X y pc ls (.int x :: st) M K = ip_wp X y nx ls (.long (x.toInt64) :: st) M K := wp_st h rfl rfl rfl
theorem wp_l2i {x : Int64} (h : ip_at y pc = some (.l2i, nx, a, k2, t, w, v, ts)) : ip_wp X y pc ls (.long x :: st) M K = ip_wp X y nx ls (.int (x.toInt32) :: st) M K := wp_st h rfl rfl rfl
theorem wp_i2b {x : Int32} (h : ip_at y pc = some (.i2b, nx, a, k2, t, w, v, ts)) : ip_wp X y pc ls (.int x :: st) M K = ip_wp X y nx ls (.int (x.toInt8.toInt32) :: st) M K := wp_st h rfl rfl rfl
theorem wp_lshl {x : Int64} {q : Int32} (h : ip_at y pc = some (.lshl, nx, a, k2, t, w, v, ts)) : ip_wp X y pc ls (.int q :: .long x :: st) M K = ip_wp X y nx ls (.long (x <<< (q.toInt64 &&& 63)) :: st) M K := wp_st h rfl rfl rfl
theorem wp_lshr {x : Int64} {q : Int32} (h : ip_at y pc = some (.lshr, nx, a, k2, t, w, v, ts)) : ip_wp X y pc ls (.int q :: .long x :: st) M K = ip_wp X y nx ls (.long (x >>> (q.toInt64 &&& 63)) :: st) M K := wp_st h rfl rfl rfl
theorem wp_lushr {x : Int64} {q : Int32} (h : ip_at y pc = some (.lushr, nx, a, k2, t, w, v, ts)) : ip_wp X y pc ls (.int q :: .long x :: st) M K = ip_wp X y nx ls (.long ((x.toUInt64 >>> (q.toInt64.toUInt64 &&& Int64.toUInt64 63)).toInt64) :: st) M K := wp_st h rfl rfl rfl
theorem wp_goto {off : Int} (h : ip_at y pc = some (.goto off, nx, a, k2, t, w, v, ts)) : ip_wp X y pc ls st M K = ip_wp X y a ls st M K := wp_st h rfl rfl rfl
theorem wp_ifCond_eq {x : Int32} {off : Int} (h : ip_at y pc = some (.ifCond .eq off, nx, a, k2, t, w, v, ts)) : ip_wp X y pc ls (.int x :: st) M K = if x = 0 then ip_wp X y a ls st M K else ip_wp X y nx ls st M K := by
  have e := wp_step (X := X) (ls := ls) (st := .int x :: st) (M := M) (K := K) h rfl rfl rfl
  rw [e]
  dsimp only
  by_cases hc : x = 0
  · have h2 : ip_cd .eq x 0 = true := by simp [ip_cd, hc]
    rw [if_pos hc, h2]; rfl
  · have h2 : ip_cd .eq x 0 = false := by simp [ip_cd, hc]
    rw [if_neg hc, h2]; rfl
theorem wp_ifCond_ne {x : Int32} {off : Int} (h : ip_at y pc = some (.ifCond .ne off, nx, a, k2, t, w, v, ts)) : ip_wp X y pc ls (.int x :: st) M K = if x = 0 then ip_wp X y nx ls st M K else ip_wp X y a ls st M K := by
  have e := wp_step (X := X) (ls := ls) (st := .int x :: st) (M := M) (K := K) h rfl rfl rfl
  rw [e]
  dsimp only
  by_cases hc : x = 0
  · have h2 : ip_cd .ne x 0 = false := by simp [ip_cd, hc]
    rw [if_pos hc, h2]; rfl
  · have h2 : ip_cd .ne x 0 = true := by simp [ip_cd, hc]
    rw [if_neg hc, h2]; rfl
theorem wp_ifCond_lt {x : Int32} {off : Int} (h : ip_at y pc = some (.ifCond .lt off, nx, a, k2, t, w, v, ts)) : ip_wp X y pc ls (.int x :: st) M K = if x < 0 then ip_wp X y a ls st M K else ip_wp X y nx ls st M K := by
  have e := wp_step (X := X) (ls := ls) (st := .int x :: st) (M := M) (K := K) h rfl rfl rfl
  rw [e]
  dsimp only
  by_cases hc : x < 0
  · have h2 : ip_cd .lt x 0 = true := by simp [ip_cd, hc]
    rw [if_pos hc, h2]; rfl
  · have h2 : ip_cd .lt x 0 = false := by simp [ip_cd, hc]
    rw [if_neg hc, h2]; rfl
theorem wp_ifCond_ge {x : Int32} {off : Int} (h : ip_at y pc = some (.ifCond .ge off, nx, a, k2, t, w, v, ts)) : ip_wp X y pc ls (.int x :: st) M K = if x < 0 then ip_wp X y nx ls st M K else ip_wp X y a ls st M K := by
  have e := wp_step (X := X) (ls := ls) (st := .int x :: st) (M := M) (K := K) h rfl rfl rfl
  rw [e]
  dsimp only
  by_cases hc : x < 0
  · have h2 : ip_cd .ge x 0 = false := by simp [ip_cd, hc, Int32.not_le, Int32.not_lt]
    rw [if_pos hc, h2]; rfl
  · have h2 : ip_cd .ge x 0 = true := by simp [ip_cd, hc, Int32.not_le.mp, Int32.not_lt.mp hc]
    rw [if_neg hc, h2]; rfl
theorem wp_ifCond_gt {x : Int32} {off : Int} (h : ip_at y pc = some (.ifCond .gt off, nx, a, k2, t, w, v, ts)) : ip_wp X y pc ls (.int x :: st) M K = if 0 < x then ip_wp X y a ls st M K else ip_wp X y nx ls st M K := by
  have e := wp_step (X := X) (ls := ls) (st := .int x :: st) (M := M) (K := K) h rfl rfl rfl
  rw [e]
  dsimp only
  by_cases hc : 0 < x
  · have h2 : ip_cd .gt x 0 = true := by simp [ip_cd, hc]
    rw [if_pos hc, h2]; rfl
  · have h2 : ip_cd .gt x 0 = false := by simp [ip_cd, hc]
    rw [if_neg hc, h2]; rfl
theorem wp_ifCond_le {x : Int32} {off : Int} (h : ip_at y pc = some (.ifCond .le off, nx, a, k2, t, w, v, ts)) : ip_wp X y pc ls (.int x :: st) M K = if 0 < x then ip_wp X y nx ls st M K else ip_wp X y a ls st M K := by
  have e := wp_step (X := X) (ls := ls) (st := .int x :: st) (M := M) (K := K) h rfl rfl rfl
  rw [e]
  dsimp only
  by_cases hc : 0 < x
  · have h2 : ip_cd .le x 0 = false := by simp [ip_cd, hc, Int32.not_le, Int32.not_lt]
    rw [if_pos hc, h2]; rfl
  · have h2 : ip_cd .le x 0 = true := by simp [ip_cd, hc, Int32.not_le.mp, Int32.not_lt.mp hc]
    rw [if_neg hc, h2]; rfl
theorem wp_if_icmp_eq {x q : Int32} {off : Int} (h : ip_at y pc = some (.if_icmp .eq off, nx, a, k2, t, w, v, ts)) : ip_wp X y pc ls (.int q :: .int x :: st) M K = if x = q then ip_wp X y a ls st M K else ip_wp X y nx ls st M K := by
  have e := wp_step (X := X) (ls := ls) (st := .int q :: .int x :: st) (M := M) (K := K) h rfl rfl rfl
  rw [e]
  dsimp only
  by_cases hc : x = q
  · have h2 : ip_cd .eq x q = true := by simp [ip_cd, hc]
    rw [if_pos hc, h2]; rfl
  · have h2 : ip_cd .eq x q = false := by simp [ip_cd, hc]
    rw [if_neg hc, h2]; rfl
theorem wp_if_icmp_ne {x q : Int32} {off : Int} (h : ip_at y pc = some (.if_icmp .ne off, nx, a, k2, t, w, v, ts)) : ip_wp X y pc ls (.int q :: .int x :: st) M K = if x = q then ip_wp X y nx ls st M K else ip_wp X y a ls st M K := by
  have e := wp_step (X := X) (ls := ls) (st := .int q :: .int x :: st) (M := M) (K := K) h rfl rfl rfl
  rw [e]
  dsimp only
  by_cases hc : x = q
  · have h2 : ip_cd .ne x q = false := by simp [ip_cd, hc]
    rw [if_pos hc, h2]; rfl
  · have h2 : ip_cd .ne x q = true := by simp [ip_cd, hc]
    rw [if_neg hc, h2]; rfl
theorem wp_if_icmp_lt {x q : Int32} {off : Int} (h : ip_at y pc = some (.if_icmp .lt off, nx, a, k2, t, w, v, ts)) : ip_wp X y pc ls (.int q :: .int x :: st) M K = if x < q then ip_wp X y a ls st M K else ip_wp X y nx ls st M K := by
  have e := wp_step (X := X) (ls := ls) (st := .int q :: .int x :: st) (M := M) (K := K) h rfl rfl rfl
  rw [e]
  dsimp only
  by_cases hc : x < q
  · have h2 : ip_cd .lt x q = true := by simp [ip_cd, hc]
    rw [if_pos hc, h2]; rfl
  · have h2 : ip_cd .lt x q = false := by simp [ip_cd, hc]
    rw [if_neg hc, h2]; rfl
theorem wp_if_icmp_ge {x q : Int32} {off : Int} (h : ip_at y pc = some (.if_icmp .ge off, nx, a, k2, t, w, v, ts)) : ip_wp X y pc ls (.int q :: .int x :: st) M K = if x < q then ip_wp X y nx ls st M K else ip_wp X y a ls st M K := by
  have e := wp_step (X := X) (ls := ls) (st := .int q :: .int x :: st) (M := M) (K := K) h rfl rfl rfl
  rw [e]
  dsimp only
  by_cases hc : x < q
  · have h2 : ip_cd .ge x q = false := by simp [ip_cd, hc, Int32.not_le, Int32.not_lt]
    rw [if_pos hc, h2]; rfl
  · have h2 : ip_cd .ge x q = true := by simp [ip_cd, hc, Int32.not_le.mp, Int32.not_lt.mp hc]
    rw [if_neg hc, h2]; rfl
theorem wp_if_icmp_gt {x q : Int32} {off : Int} (h : ip_at y pc = some (.if_icmp .gt off, nx, a, k2, t, w, v, ts)) : ip_wp X y pc ls (.int q :: .int x :: st) M K = if q < x then ip_wp X y a ls st M K else ip_wp X y nx ls st M K := by
  have e := wp_step (X := X) (ls := ls) (st := .int q :: .int x :: st) (M := M) (K := K) h rfl rfl rfl
  rw [e]
  dsimp only
  by_cases hc : q < x
  · have h2 : ip_cd .gt x q = true := by simp [ip_cd, hc]
    rw [if_pos hc, h2]; rfl
  · have h2 : ip_cd .gt x q = false := by simp [ip_cd, hc]
    rw [if_neg hc, h2]; rfl
theorem wp_if_icmp_le {x q : Int32} {off : Int} (h : ip_at y pc = some (.if_icmp .le off, nx, a, k2, t, w, v, ts)) : ip_wp X y pc ls (.int q :: .int x :: st) M K = if q < x then ip_wp X y nx ls st M K else ip_wp X y a ls st M K := by
  have e := wp_step (X := X) (ls := ls) (st := .int q :: .int x :: st) (M := M) (K := K) h rfl rfl rfl
  rw [e]
  dsimp only
  by_cases hc : q < x
  · have h2 : ip_cd .le x q = false := by simp [ip_cd, hc, Int32.not_le, Int32.not_lt]
    rw [if_pos hc, h2]; rfl
  · have h2 : ip_cd .le x q = true := by simp [ip_cd, hc, Int32.not_le.mp, Int32.not_lt.mp hc]
    rw [if_neg hc, h2]; rfl
theorem wp_tableswitch {x : Int32} {d lo hi : Int} {offs : Array Int} (h : ip_at y pc = some (.tableswitch d lo hi offs, nx, a, k2, t, w, v, ts)) : ip_wp X y pc ls (.int x :: st) M K = if x.toInt < lo ∨ hi < x.toInt then ip_wp X y a ls st M K else ip_wp X y (ts.getD (x.toInt - lo).toNat a) ls st M K := by
  have e := wp_step (X := X) (ls := ls) (st := .int x :: st) (M := M) (K := K) h rfl rfl rfl
  rw [e]
  dsimp only
  split <;> rfl
theorem wp_dup_r {x : Nat} (h : ip_at y pc = some (.dup, nx, a, k2, t, w, v, ts)) : ip_wp X y pc ls (.ref x :: st) M K = ip_wp X y nx ls (.ref x :: .ref x :: st) M K := wp_st h rfl rfl rfl
theorem wp_dup_i {x : Int32} (h : ip_at y pc = some (.dup, nx, a, k2, t, w, v, ts)) : ip_wp X y pc ls (.int x :: st) M K = ip_wp X y nx ls (.int x :: .int x :: st) M K := wp_st h rfl rfl rfl
theorem wp_dup2 {x : Int32} {q : Nat} (h : ip_at y pc = some (.dup2, nx, a, k2, t, w, v, ts)) : ip_wp X y pc ls (.int x :: .ref q :: st) M K = ip_wp X y nx ls (.int x :: .ref q :: .int x :: .ref q :: st) M K := wp_st h rfl rfl rfl
theorem wp_pop {x : Int32} (h : ip_at y pc = some (.pop, nx, a, k2, t, w, v, ts)) : ip_wp X y pc ls (.int x :: st) M K = ip_wp X y nx ls st M K := wp_st h rfl rfl rfl
theorem wp_pop2 {x : Int64} (h : ip_at y pc = some (.pop2, nx, a, k2, t, w, v, ts)) : ip_wp X y pc ls (.long x :: st) M K = ip_wp X y nx ls st M K := wp_st h rfl rfl rfl
theorem wp_getI {n k : Nat} (h : ip_at y pc = some (.getfield n, nx, a, k2, 0, w, v, ts)) : ip_wp X y pc ls (.ref k :: st) M K = if (ip_sh M k).1 = 0 ∧ (ip_sh M k).2.1 = a then ip_wp X y nx ls (.int (M.2.1 k k2) :: st) M K else False := by
  by_cases hc : (ip_sh M k).1 = 0 ∧ (ip_sh M k).2.1 = a
  · rw [if_pos hc]
    refine wp_st h rfl rfl ?_
    first | exact if_pos hc | (simp only [ip_step, ip_r1, ip_i1]; exact if_pos (by simpa using hc))
  · rw [if_neg hc]
    refine wp_stuck h rfl rfl ?_
    first | exact if_neg hc | (simp only [ip_step, ip_r1, ip_i1]; exact if_neg (by simpa using hc))
theorem wp_getZ {n k : Nat} (h : ip_at y pc = some (.getfield n, nx, a, k2, 3, w, v, ts)) : ip_wp X y pc ls (.ref k :: st) M K = if (ip_sh M k).1 = 0 ∧ (ip_sh M k).2.1 = a then ip_wp X y nx ls (.int (M.2.1 k k2) :: st) M K else False := by
  by_cases hc : (ip_sh M k).1 = 0 ∧ (ip_sh M k).2.1 = a
  · rw [if_pos hc]
    refine wp_st h rfl rfl ?_
    first | exact if_pos hc | (simp only [ip_step, ip_r1, ip_i1]; exact if_pos (by simpa using hc))
  · rw [if_neg hc]
    refine wp_stuck h rfl rfl ?_
    first | exact if_neg hc | (simp only [ip_step, ip_r1, ip_i1]; exact if_neg (by simpa using hc))
theorem wp_getL {n k : Nat} (h : ip_at y pc = some (.getfield n, nx, a, k2, 1, w, v, ts)) : ip_wp X y pc ls (.ref k :: st) M K = if (ip_sh M k).1 = 0 ∧ (ip_sh M k).2.1 = a then ip_wp X y nx ls (.long (M.2.2.1 k k2) :: st) M K else False := by
  by_cases hc : (ip_sh M k).1 = 0 ∧ (ip_sh M k).2.1 = a
  · rw [if_pos hc]
    refine wp_st h rfl rfl ?_
    first | exact if_pos hc | (simp only [ip_step, ip_r1, ip_i1]; exact if_pos (by simpa using hc))
  · rw [if_neg hc]
    refine wp_stuck h rfl rfl ?_
    first | exact if_neg hc | (simp only [ip_step, ip_r1, ip_i1]; exact if_neg (by simpa using hc))
theorem wp_getR {n k : Nat} (h : ip_at y pc = some (.getfield n, nx, a, k2, 2, w, v, ts)) : ip_wp X y pc ls (.ref k :: st) M K = if (ip_sh M k).1 = 0 ∧ (ip_sh M k).2.1 = a then ip_wp X y nx ls (ip_vr (M.2.2.2 k k2) :: st) M K else False := by
  by_cases hc : (ip_sh M k).1 = 0 ∧ (ip_sh M k).2.1 = a
  · rw [if_pos hc]
    refine wp_st h rfl rfl ?_
    first | exact if_pos hc | (simp only [ip_step, ip_r1, ip_i1]; exact if_pos (by simpa using hc))
  · rw [if_neg hc]
    refine wp_stuck h rfl rfl ?_
    first | exact if_neg hc | (simp only [ip_step, ip_r1, ip_i1]; exact if_neg (by simpa using hc))
theorem wp_putI {n k : Nat} {x : Int32} (h : ip_at y pc = some (.putfield n, nx, a, k2, 0, w, v, ts)) : ip_wp X y pc ls (.int x :: .ref k :: st) M K = if (ip_sh M k).1 = 0 ∧ (ip_sh M k).2.1 = a then ip_wp X y nx ls st (ip_uI M k k2 x) K else False := by
  by_cases hc : (ip_sh M k).1 = 0 ∧ (ip_sh M k).2.1 = a
  · rw [if_pos hc]
    refine wp_st h rfl rfl ?_
    first | exact if_pos ⟨hc.1, hc.2, Or.inl rfl⟩ | (simp only [ip_step, ip_r1, ip_i1]; exact if_pos (by simpa using hc))
  · rw [if_neg hc]
    refine wp_stuck h rfl rfl ?_
    first | exact if_neg (fun g => hc ⟨g.1, g.2.1⟩) | (simp only [ip_step, ip_r1, ip_i1]; exact if_neg (by simpa using hc))
theorem wp_putZ {n k : Nat} {x : Int32} (h : ip_at y pc = some (.putfield n, nx, a, k2, 3, w, v, ts)) : ip_wp X y pc ls (.int x :: .ref k :: st) M K = if (ip_sh M k).1 = 0 ∧ (ip_sh M k).2.1 = a ∧ (x = 0 ∨ x = 1) then ip_wp X y nx ls st (ip_uI M k k2 x) K else False := by
  by_cases hc : (ip_sh M k).1 = 0 ∧ (ip_sh M k).2.1 = a ∧ (x = 0 ∨ x = 1)
  · rw [if_pos hc]
    refine wp_st h rfl rfl ?_
    first | exact if_pos ⟨hc.1, hc.2.1, Or.inr ⟨rfl, hc.2.2⟩⟩ | (simp only [ip_step, ip_r1, ip_i1]; exact if_pos (by simpa using hc))
  · rw [if_neg hc]
    refine wp_stuck h rfl rfl ?_
    first | exact if_neg (fun g => g.2.2.elim (fun z => by cases z) (fun z => hc ⟨g.1, g.2.1, z.2⟩)) | (simp only [ip_step, ip_r1, ip_i1]; exact if_neg (by simpa using hc))
theorem wp_putL {n k : Nat} {x : Int64} (h : ip_at y pc = some (.putfield n, nx, a, k2, 1, w, v, ts)) : ip_wp X y pc ls (.long x :: .ref k :: st) M K = if (ip_sh M k).1 = 0 ∧ (ip_sh M k).2.1 = a then ip_wp X y nx ls st (ip_uL M k k2 x) K else False := by
  by_cases hc : (ip_sh M k).1 = 0 ∧ (ip_sh M k).2.1 = a
  · rw [if_pos hc]
    refine wp_st h rfl rfl ?_
    first | exact if_pos ⟨hc.1, hc.2, rfl⟩ | (simp only [ip_step, ip_r1, ip_i1]; exact if_pos (by simpa using hc))
  · rw [if_neg hc]
    refine wp_stuck h rfl rfl ?_
    first | exact if_neg (fun g => hc ⟨g.1, g.2.1⟩) | (simp only [ip_step, ip_r1, ip_i1]; exact if_neg (by simpa using hc))
theorem wp_alen {k : Nat} (h : ip_at y pc = some (.arraylength, nx, a, k2, t, w, v, ts)) : ip_wp X y pc ls (.ref k :: st) M K = if (ip_sh M k).1 = 1 then ip_wp X y nx ls (.int (Int32.ofNat (ip_sh M k).2.2) :: st) M K else False := by
  by_cases hc : (ip_sh M k).1 = 1
  · rw [if_pos hc]
    refine wp_st h rfl rfl ?_
    first | exact if_pos hc | (simp only [ip_step, ip_r1, ip_i1]; exact if_pos (by simpa using hc))
  · rw [if_neg hc]
    refine wp_stuck h rfl rfl ?_
    first | exact if_neg hc | (simp only [ip_step, ip_r1, ip_i1]; exact if_neg (by simpa using hc))
theorem wp_slen (h : ip_at y pc = some (.arraylength, nx, a, k2, t, w, v, ts)) : ip_wp X y pc ls (.retAddr 0 :: st) M K = if y = ip_LAW then ip_wp X y nx ls (.int (Int32.ofNat X.1) :: st) M K else False := by
  by_cases hc : y = ip_LAW
  · rw [if_pos hc]
    refine wp_st h rfl rfl ?_
    first | exact if_pos hc | (simp only [ip_step, ip_r1, ip_i1]; exact if_pos (by simpa using hc))
  · rw [if_neg hc]
    refine wp_stuck h rfl rfl ?_
    first | exact if_neg hc | (simp only [ip_step, ip_r1, ip_i1]; exact if_neg (by simpa using hc))
theorem wp_iaload {i : Int32} {k : Nat} (h : ip_at y pc = some (.iaload, nx, a, k2, t, w, v, ts)) : ip_wp X y pc ls (.int i :: .ref k :: st) M K = if (ip_sh M k).1 = 1 ∧ (ip_sh M k).2.1 = 0 ∧ ip_ix i (ip_sh M k).2.2 = true then ip_wp X y nx ls (.int (M.2.1 k i.toNatClampNeg) :: st) M K else False := by
  by_cases hc : (ip_sh M k).1 = 1 ∧ (ip_sh M k).2.1 = 0 ∧ ip_ix i (ip_sh M k).2.2 = true
  · rw [if_pos hc]
    refine wp_st h rfl rfl ?_
    first | exact if_pos hc | (simp only [ip_step, ip_r1, ip_i1]; exact if_pos (by simpa using hc))
  · rw [if_neg hc]
    refine wp_stuck h rfl rfl ?_
    first | exact if_neg hc | (simp only [ip_step, ip_r1, ip_i1]; exact if_neg (by simpa using hc))
theorem wp_saload {i : Int32} (h : ip_at y pc = some (.iaload, nx, a, k2, t, w, v, ts)) : ip_wp X y pc ls (.int i :: .retAddr 0 :: st) M K = if y = ip_LAW ∧ ip_ix i X.1 = true then ip_wp X y nx ls (.int (X.2 i.toNatClampNeg) :: st) M K else False := by
  by_cases hc : y = ip_LAW ∧ ip_ix i X.1 = true
  · rw [if_pos hc]
    refine wp_st h rfl rfl ?_
    first | exact if_pos hc | (simp only [ip_step, ip_r1, ip_i1]; exact if_pos (by simpa using hc))
  · rw [if_neg hc]
    refine wp_stuck h rfl rfl ?_
    first | exact if_neg hc | (simp only [ip_step, ip_r1, ip_i1]; exact if_neg (by simpa using hc))
theorem wp_laload {i : Int32} {k : Nat} (h : ip_at y pc = some (.laload, nx, a, k2, t, w, v, ts)) : ip_wp X y pc ls (.int i :: .ref k :: st) M K = if (ip_sh M k).1 = 1 ∧ (ip_sh M k).2.1 = 1 ∧ ip_ix i (ip_sh M k).2.2 = true then ip_wp X y nx ls (.long (M.2.2.1 k i.toNatClampNeg) :: st) M K else False := by
  by_cases hc : (ip_sh M k).1 = 1 ∧ (ip_sh M k).2.1 = 1 ∧ ip_ix i (ip_sh M k).2.2 = true
  · rw [if_pos hc]
    refine wp_st h rfl rfl ?_
    first | exact if_pos hc | (simp only [ip_step, ip_r1, ip_i1]; exact if_pos (by simpa using hc))
  · rw [if_neg hc]
    refine wp_stuck h rfl rfl ?_
    first | exact if_neg hc | (simp only [ip_step, ip_r1, ip_i1]; exact if_neg (by simpa using hc))
theorem wp_baload {i : Int32} {k : Nat} (h : ip_at y pc = some (.baload, nx, a, k2, t, w, v, ts)) : ip_wp X y pc ls (.int i :: .ref k :: st) M K = if (ip_sh M k).1 = 1 ∧ ((ip_sh M k).2.1 = 2 ∨ (ip_sh M k).2.1 = 3) ∧ ip_ix i (ip_sh M k).2.2 = true then ip_wp X y nx ls (.int (M.2.1 k i.toNatClampNeg) :: st) M K else False := by
  by_cases hc : (ip_sh M k).1 = 1 ∧ ((ip_sh M k).2.1 = 2 ∨ (ip_sh M k).2.1 = 3) ∧ ip_ix i (ip_sh M k).2.2 = true
  · rw [if_pos hc]
    refine wp_st h rfl rfl ?_
    first | exact if_pos hc | (simp only [ip_step, ip_r1, ip_i1]; exact if_pos (by simpa using hc))
  · rw [if_neg hc]
    refine wp_stuck h rfl rfl ?_
    first | exact if_neg hc | (simp only [ip_step, ip_r1, ip_i1]; exact if_neg (by simpa using hc))
theorem wp_aaload {i : Int32} {k : Nat} (h : ip_at y pc = some (.aaload, nx, a, k2, t, w, v, ts)) : ip_wp X y pc ls (.int i :: .ref k :: st) M K = if (ip_sh M k).1 = 1 ∧ 4 ≤ (ip_sh M k).2.1 ∧ ip_ix i (ip_sh M k).2.2 = true then ip_wp X y nx ls (ip_vr (M.2.2.2 k i.toNatClampNeg) :: st) M K else False := by
  by_cases hc : (ip_sh M k).1 = 1 ∧ 4 ≤ (ip_sh M k).2.1 ∧ ip_ix i (ip_sh M k).2.2 = true
  · rw [if_pos hc]
    refine wp_st h rfl rfl ?_
    first | exact if_pos hc | (simp only [ip_step, ip_r1, ip_i1]; exact if_pos (by simpa using hc))
  · rw [if_neg hc]
    refine wp_stuck h rfl rfl ?_
    first | exact if_neg hc | (simp only [ip_step, ip_r1, ip_i1]; exact if_neg (by simpa using hc))
theorem wp_iastore {i x : Int32} {k : Nat} (h : ip_at y pc = some (.iastore, nx, a, k2, t, w, v, ts)) : ip_wp X y pc ls (.int x :: .int i :: .ref k :: st) M K = if (ip_sh M k).1 = 1 ∧ (ip_sh M k).2.1 = 0 ∧ ip_ix i (ip_sh M k).2.2 = true then ip_wp X y nx ls st (ip_uI M k i.toNatClampNeg x) K else False := by
  by_cases hc : (ip_sh M k).1 = 1 ∧ (ip_sh M k).2.1 = 0 ∧ ip_ix i (ip_sh M k).2.2 = true
  · rw [if_pos hc]
    refine wp_st h rfl rfl ?_
    first | exact if_pos hc | (simp only [ip_step, ip_r1, ip_i1]; exact if_pos (by simpa using hc))
  · rw [if_neg hc]
    refine wp_stuck h rfl rfl ?_
    first | exact if_neg hc | (simp only [ip_step, ip_r1, ip_i1]; exact if_neg (by simpa using hc))
theorem wp_lastore {i : Int32} {x : Int64} {k : Nat} (h : ip_at y pc = some (.lastore, nx, a, k2, t, w, v, ts)) : ip_wp X y pc ls (.long x :: .int i :: .ref k :: st) M K = if (ip_sh M k).1 = 1 ∧ (ip_sh M k).2.1 = 1 ∧ ip_ix i (ip_sh M k).2.2 = true then ip_wp X y nx ls st (ip_uL M k i.toNatClampNeg x) K else False := by
  by_cases hc : (ip_sh M k).1 = 1 ∧ (ip_sh M k).2.1 = 1 ∧ ip_ix i (ip_sh M k).2.2 = true
  · rw [if_pos hc]
    refine wp_st h rfl rfl ?_
    first | exact if_pos hc | (simp only [ip_step, ip_r1, ip_i1]; exact if_pos (by simpa using hc))
  · rw [if_neg hc]
    refine wp_stuck h rfl rfl ?_
    first | exact if_neg hc | (simp only [ip_step, ip_r1, ip_i1]; exact if_neg (by simpa using hc))
theorem wp_bastore {i x : Int32} {k : Nat} (h : ip_at y pc = some (.bastore, nx, a, k2, t, w, v, ts)) : ip_wp X y pc ls (.int x :: .int i :: .ref k :: st) M K = if (ip_sh M k).1 = 1 ∧ ((ip_sh M k).2.1 = 2 ∨ (ip_sh M k).2.1 = 3) ∧ ip_ix i (ip_sh M k).2.2 = true then ip_wp X y nx ls st (ip_uI M k i.toNatClampNeg (if (ip_sh M k).2.1 = 2 then x.toInt8.toInt32 else x &&& 1)) K else False := by
  by_cases hc : (ip_sh M k).1 = 1 ∧ ((ip_sh M k).2.1 = 2 ∨ (ip_sh M k).2.1 = 3) ∧ ip_ix i (ip_sh M k).2.2 = true
  · rw [if_pos hc]
    refine wp_st h rfl rfl ?_
    first | exact if_pos hc | (simp only [ip_step, ip_r1, ip_i1]; exact if_pos (by simpa using hc))
  · rw [if_neg hc]
    refine wp_stuck h rfl rfl ?_
    first | exact if_neg hc | (simp only [ip_step, ip_r1, ip_i1]; exact if_neg (by simpa using hc))
theorem wp_new {n : Nat} (h : ip_at y pc = some (.new n, nx, a, k2, t, w, v, ts)) : ip_wp X y pc ls st M K = ip_wp X y nx ls (.ref M.1.length :: st) (ip_nw M (0, a, k2)) K := wp_st h rfl rfl rfl
theorem wp_copy {n0 : Nat} {n dp sp : Int32} {k0 k1 : Nat} (h : ip_at y pc = some (.invokestatic n0, nx, a, k2, 7, w, v, ts)) (h0 : st.length ≤ 4) (h1 : (ip_sh M k0).1 = 1 ∧ (ip_sh M k1).1 = 1 ∧ (ip_sh M k0).2.1 = (ip_sh M k1).2.1 ∧ (ip_sh M k0).2.1 < 3) (h2 : ¬ sp < 0 ∧ ¬ dp < 0 ∧ ¬ n < 0 ∧ sp.toNatClampNeg + n.toNatClampNeg ≤ (ip_sh M k0).2.2 ∧ dp.toNatClampNeg + n.toNatClampNeg ≤ (ip_sh M k1).2.2) (h3 : (ip_sh M k0).2.1 < 2 ∨ ∀ i, i < n.toNatClampNeg → fits .byte (.int (M.2.1 k0 (sp.toNatClampNeg + i))) = true) :
    ip_wp X y pc ls (.int n :: .int dp :: .ref k1 :: .int sp :: .ref k0 :: st) M K = ip_wp X y nx ls st (if (ip_sh M k0).2.1 = 1 then ip_cpL M k0 k1 sp.toNatClampNeg dp.toNatClampNeg n.toNatClampNeg else ip_cpI M k0 k1 sp.toNatClampNeg dp.toNatClampNeg n.toNatClampNeg) K := by
  refine wp_st h rfl rfl ?_
  refine (if_pos ⟨rfl, h0, h1.1, h1.2.1, h1.2.2.1, h1.2.2.2, h2.1, h2.2.1, h2.2.2.1, h2.2.2.2.1, h2.2.2.2.2⟩).trans ?_
  by_cases hL : (ip_sh M k0).2.1 = 1
  · rw [if_pos hL, if_pos hL]
  · rw [if_neg hL, if_neg hL, if_pos]
    rcases h3 with h3 | h3
    · exact Or.inl (by omega)
    · exact Or.inr (fun i hi => h3 i (List.mem_range.mp hi))
theorem wp_iret {x : Int32} (h : ip_at y pc = some (.ireturn, nx, a, k2, 0, w, v, ts)) : ip_wp X y pc ls [.int x] M K = K (some (.int x)) M := wp_ret h rfl rfl
theorem wp_zret {x : Int32} (h : ip_at y pc = some (.ireturn, nx, a, k2, 3, w, v, ts)) : ip_wp X y pc ls [.int x] M K = if x = 0 ∨ x = 1 then K (some (.int x)) M else False := by
  by_cases hc : x = 0 ∨ x = 1
  · rw [if_pos hc]
    exact wp_ret h rfl (by simp only [ip_rv]; rw [if_pos (Or.inr hc)])
  · rw [if_neg hc]
    exact wp_stuck h rfl (by simp only [ip_rv]; rw [if_neg (fun g => g.elim (fun z => by cases z) hc)]) rfl
theorem wp_lret {x : Int64} (h : ip_at y pc = some (.lreturn, nx, a, k2, t, w, v, ts)) : ip_wp X y pc ls [.long x] M K = K (some (.long x)) M := wp_ret h rfl rfl
theorem wp_aret {x : Nat} (h : ip_at y pc = some (.areturn, nx, a, k2, t, w, v, ts)) : ip_wp X y pc ls [.ref x] M K = K (some (.ref x)) M := wp_ret h rfl rfl
theorem wp_vret (h : ip_at y pc = some (.return_, nx, a, k2, t, w, v, ts)) : ip_wp X y pc ls [] M K = K none M := wp_ret h rfl rfl
theorem wp_callS0_1 {n : Nat} {v0 : Value} (h : ip_at y pc = some (.invokestatic n, nx, a, 1, 0, w, v, ts)) (hc : st.length ≤ 4 ∧ (ip_pad [v0]).length ≤ ip_ml a) : ip_wp X y pc ls (v0 :: st) M K = ip_wp X a 0 (ip_ent (ip_ml a) [v0]) [] M (fun r M1 => ip_wp X y nx ls (r.toList ++ st) M1 K) :=
  wp_call h rfl (by simp) (ip_cw_len (by simpa using hc.1)) (by simpa [ip_rc] using hc.2)
theorem wp_callS0_2 {n : Nat} {v0 v1 : Value} (h : ip_at y pc = some (.invokestatic n, nx, a, 2, 0, w, v, ts)) (hc : st.length ≤ 4 ∧ (ip_pad [v0, v1]).length ≤ ip_ml a) : ip_wp X y pc ls (v1 :: v0 :: st) M K = ip_wp X a 0 (ip_ent (ip_ml a) [v0, v1]) [] M (fun r M1 => ip_wp X y nx ls (r.toList ++ st) M1 K) :=
  wp_call h rfl (by simp) (ip_cw_len (by simpa using hc.1)) (by simpa [ip_rc] using hc.2)
theorem wp_callS0_3 {n : Nat} {v0 v1 v2 : Value} (h : ip_at y pc = some (.invokestatic n, nx, a, 3, 0, w, v, ts)) (hc : st.length ≤ 4 ∧ (ip_pad [v0, v1, v2]).length ≤ ip_ml a) : ip_wp X y pc ls (v2 :: v1 :: v0 :: st) M K = ip_wp X a 0 (ip_ent (ip_ml a) [v0, v1, v2]) [] M (fun r M1 => ip_wp X y nx ls (r.toList ++ st) M1 K) :=
  wp_call h rfl (by simp) (ip_cw_len (by simpa using hc.1)) (by simpa [ip_rc] using hc.2)
theorem wp_callS0_4 {n : Nat} {v0 v1 v2 v3 : Value} (h : ip_at y pc = some (.invokestatic n, nx, a, 4, 0, w, v, ts)) (hc : st.length ≤ 4 ∧ (ip_pad [v0, v1, v2, v3]).length ≤ ip_ml a) : ip_wp X y pc ls (v3 :: v2 :: v1 :: v0 :: st) M K = ip_wp X a 0 (ip_ent (ip_ml a) [v0, v1, v2, v3]) [] M (fun r M1 => ip_wp X y nx ls (r.toList ++ st) M1 K) :=
  wp_call h rfl (by simp) (ip_cw_len (by simpa using hc.1)) (by simpa [ip_rc] using hc.2)
theorem wp_callS3_2 {n : Nat} {v0 v1 : Value} (h : ip_at y pc = some (.invokestatic n, nx, a, 2, 3, w, v, ts)) (hc : st.length ≤ 4 ∧ (ip_pad [v0, v1]).length ≤ ip_ml a) : ip_wp X y pc ls (v1 :: v0 :: st) M K = ip_wp X a 0 (ip_ent (ip_ml a) [v0, v1]) [] M (fun r M1 => ip_wp X y nx ls (r.toList ++ st) M1 K) :=
  wp_call h rfl (by simp) (ip_cw_len (by simpa using hc.1)) (by simpa [ip_rc] using hc.2)
theorem wp_callV1_1 {n : Nat} {k : Nat} (h : ip_at y pc = some (.invokevirtual n, nx, a, 1, 1, w, v, ts)) (hc : st.length ≤ 4 ∧ (ip_pad [.ref k]).length ≤ ip_ml a ∧ (ip_sh M k).1 = 0 ∧ (ip_sh M k).2.1 = ip_oc a) : ip_wp X y pc ls (.ref k :: st) M K = ip_wp X a 0 (ip_ent (ip_ml a) [.ref k]) [] M (fun r M1 => ip_wp X y nx ls (r.toList ++ st) M1 K) :=
  wp_call h rfl (by simp) (ip_cw_len (by simpa using hc.1)) (by simpa [ip_rc] using hc.2)
theorem wp_callV1_2 {n : Nat} {k : Nat} {v1 : Value} (h : ip_at y pc = some (.invokevirtual n, nx, a, 2, 1, w, v, ts)) (hc : st.length ≤ 4 ∧ (ip_pad [.ref k, v1]).length ≤ ip_ml a ∧ (ip_sh M k).1 = 0 ∧ (ip_sh M k).2.1 = ip_oc a) : ip_wp X y pc ls (v1 :: .ref k :: st) M K = ip_wp X a 0 (ip_ent (ip_ml a) [.ref k, v1]) [] M (fun r M1 => ip_wp X y nx ls (r.toList ++ st) M1 K) :=
  wp_call h rfl (by simp) (ip_cw_len (by simpa using hc.1)) (by simpa [ip_rc] using hc.2)
theorem wp_callV1_3 {n : Nat} {k : Nat} {v1 v2 : Value} (h : ip_at y pc = some (.invokevirtual n, nx, a, 3, 1, w, v, ts)) (hc : st.length ≤ 4 ∧ (ip_pad [.ref k, v1, v2]).length ≤ ip_ml a ∧ (ip_sh M k).1 = 0 ∧ (ip_sh M k).2.1 = ip_oc a) : ip_wp X y pc ls (v2 :: v1 :: .ref k :: st) M K = ip_wp X a 0 (ip_ent (ip_ml a) [.ref k, v1, v2]) [] M (fun r M1 => ip_wp X y nx ls (r.toList ++ st) M1 K) :=
  wp_call h rfl (by simp) (ip_cw_len (by simpa using hc.1)) (by simpa [ip_rc] using hc.2)
theorem wp_callV1_4 {n : Nat} {k : Nat} {v1 v2 v3 : Value} (h : ip_at y pc = some (.invokevirtual n, nx, a, 4, 1, w, v, ts)) (hc : st.length ≤ 4 ∧ (ip_pad [.ref k, v1, v2, v3]).length ≤ ip_ml a ∧ (ip_sh M k).1 = 0 ∧ (ip_sh M k).2.1 = ip_oc a) : ip_wp X y pc ls (v3 :: v2 :: v1 :: .ref k :: st) M K = ip_wp X a 0 (ip_ent (ip_ml a) [.ref k, v1, v2, v3]) [] M (fun r M1 => ip_wp X y nx ls (r.toList ++ st) M1 K) :=
  wp_call h rfl (by simp) (ip_cw_len (by simpa using hc.1)) (by simpa [ip_rc] using hc.2)
theorem wp_callV1_5 {n : Nat} {k : Nat} {v1 v2 v3 v4 : Value} (h : ip_at y pc = some (.invokevirtual n, nx, a, 5, 1, w, v, ts)) (hc : st.length ≤ 4 ∧ (ip_pad [.ref k, v1, v2, v3, v4]).length ≤ ip_ml a ∧ (ip_sh M k).1 = 0 ∧ (ip_sh M k).2.1 = ip_oc a) : ip_wp X y pc ls (v4 :: v3 :: v2 :: v1 :: .ref k :: st) M K = ip_wp X a 0 (ip_ent (ip_ml a) [.ref k, v1, v2, v3, v4]) [] M (fun r M1 => ip_wp X y nx ls (r.toList ++ st) M1 K) :=
  wp_call h rfl (by simp) (ip_cw_len (by simpa using hc.1)) (by simpa [ip_rc] using hc.2)
theorem wp_callV1_6 {n : Nat} {k : Nat} {v1 v2 v3 v4 v5 : Value} (h : ip_at y pc = some (.invokevirtual n, nx, a, 6, 1, w, v, ts)) (hc : st.length ≤ 4 ∧ (ip_pad [.ref k, v1, v2, v3, v4, v5]).length ≤ ip_ml a ∧ (ip_sh M k).1 = 0 ∧ (ip_sh M k).2.1 = ip_oc a) : ip_wp X y pc ls (v5 :: v4 :: v3 :: v2 :: v1 :: .ref k :: st) M K = ip_wp X a 0 (ip_ent (ip_ml a) [.ref k, v1, v2, v3, v4, v5]) [] M (fun r M1 => ip_wp X y nx ls (r.toList ++ st) M1 K) :=
  wp_call h rfl (by simp) (ip_cw_len (by simpa using hc.1)) (by simpa [ip_rc] using hc.2)
theorem wp_callV1_8 {n : Nat} {k : Nat} {v1 v2 v3 v4 v5 v6 v7 : Value} (h : ip_at y pc = some (.invokevirtual n, nx, a, 8, 1, w, v, ts)) (hc : st.length ≤ 4 ∧ (ip_pad [.ref k, v1, v2, v3, v4, v5, v6, v7]).length ≤ ip_ml a ∧ (ip_sh M k).1 = 0 ∧ (ip_sh M k).2.1 = ip_oc a) : ip_wp X y pc ls (v7 :: v6 :: v5 :: v4 :: v3 :: v2 :: v1 :: .ref k :: st) M K = ip_wp X a 0 (ip_ent (ip_ml a) [.ref k, v1, v2, v3, v4, v5, v6, v7]) [] M (fun r M1 => ip_wp X y nx ls (r.toList ++ st) M1 K) :=
  wp_call h rfl (by simp) (ip_cw_len (by simpa using hc.1)) (by simpa [ip_rc] using hc.2)
theorem wp_callV1_9 {n : Nat} {k : Nat} {v1 v2 v3 v4 v5 v6 v7 v8 : Value} (h : ip_at y pc = some (.invokevirtual n, nx, a, 9, 1, w, v, ts)) (hc : st.length ≤ 4 ∧ (ip_pad [.ref k, v1, v2, v3, v4, v5, v6, v7, v8]).length ≤ ip_ml a ∧ (ip_sh M k).1 = 0 ∧ (ip_sh M k).2.1 = ip_oc a) : ip_wp X y pc ls (v8 :: v7 :: v6 :: v5 :: v4 :: v3 :: v2 :: v1 :: .ref k :: st) M K = ip_wp X a 0 (ip_ent (ip_ml a) [.ref k, v1, v2, v3, v4, v5, v6, v7, v8]) [] M (fun r M1 => ip_wp X y nx ls (r.toList ++ st) M1 K) :=
  wp_call h rfl (by simp) (ip_cw_len (by simpa using hc.1)) (by simpa [ip_rc] using hc.2)
theorem wp_callI2_1 {n : Nat} {k : Nat} (h : ip_at y pc = some (.invokespecial n, nx, a, 1, 2, w, v, ts)) (hc : st.length ≤ 4 ∧ (ip_pad [.ref k]).length ≤ ip_ml a ∧ (ip_sh M k).1 = 0 ∧ (ip_sh M k).2.1 = ip_oc a) : ip_wp X y pc ls (.ref k :: st) M K = ip_wp X a 0 (ip_ent (ip_ml a) [.ref k]) [] M (fun r M1 => ip_wp X y nx ls (r.toList ++ st) M1 K) :=
  wp_call h rfl (by simp) (ip_cw_len (by simpa using hc.1)) (by simpa [ip_rc] using hc.2)
end WP
theorem ip_uI_1 (M : ip_H) (k j : Nat) (x : Int32) : (ip_uI M k j x).1 = M.1 := rfl
theorem ip_uI_I (M : ip_H) (k j : Nat) (x : Int32) (p q : Nat) : (ip_uI M k j x).2.1 p q = if p = k ∧ q = j then x else M.2.1 p q := rfl
theorem ip_uI_L (M : ip_H) (k j : Nat) (x : Int32) : (ip_uI M k j x).2.2.1 = M.2.2.1 := rfl
theorem ip_uI_R (M : ip_H) (k j : Nat) (x : Int32) : (ip_uI M k j x).2.2.2 = M.2.2.2 := rfl
theorem ip_uI_sh (M : ip_H) (k j : Nat) (x : Int32) (p : Nat) : ip_sh (ip_uI M k j x) p = ip_sh M p := rfl
theorem ip_uL_1 (M : ip_H) (k j : Nat) (x : Int64) : (ip_uL M k j x).1 = M.1 := rfl
theorem ip_uL_I (M : ip_H) (k j : Nat) (x : Int64) : (ip_uL M k j x).2.1 = M.2.1 := rfl
theorem ip_uL_L (M : ip_H) (k j : Nat) (x : Int64) (p q : Nat) : (ip_uL M k j x).2.2.1 p q = if p = k ∧ q = j then x else M.2.2.1 p q := rfl
theorem ip_uL_R (M : ip_H) (k j : Nat) (x : Int64) : (ip_uL M k j x).2.2.2 = M.2.2.2 := rfl
theorem ip_uL_sh (M : ip_H) (k j : Nat) (x : Int64) (p : Nat) : ip_sh (ip_uL M k j x) p = ip_sh M p := rfl
theorem ip_get_0 (v : Value) (l : List Value) : ip_get (v :: l) 0 = v := rfl
theorem ip_get_s (v : Value) (l : List Value) (n : Nat) : ip_get (v :: l) (n + 1) = ip_get l n := rfl
theorem ip_clr_0 (ls : List Value) : ip_clr ls 0 = ls := rfl
theorem ip_clr_s (ls : List Value) (j : Nat) : ip_clr ls (j + 1) = if (ip_get ls j).category = 2 then ls.set j (.retAddr 1) else ls := rfl
theorem ip_cat_i (x : Int32) : (Value.int x).category = 1 := rfl
theorem ip_cat_l (x : Int64) : (Value.long x).category = 2 := rfl
theorem ip_cat_r (x : Nat) : (Value.ref x).category = 1 := rfl
theorem ip_cat_a (x : Nat) : (Value.retAddr x).category = 1 := rfl
theorem ip_cmp_lt (x y : Int64) : (lg_cmp x y < 0) = (x < y) := by
  unfold lg_cmp
  by_cases h1 : y < x
  · rw [if_pos h1]; simp [Int64.lt_asymm h1]
  · rw [if_neg h1]
    by_cases h2 : x = y
    · subst h2; simp
    · rw [if_neg h2]
      have : x < y := Int64.lt_of_le_of_ne (Int64.not_lt.mp h1) h2
      simp [this]
theorem ip_cmp_gt (x y : Int64) : (0 < lg_cmp x y) = (y < x) := by
  unfold lg_cmp
  by_cases h1 : y < x
  · rw [if_pos h1]; simp [h1]
  · rw [if_neg h1]
    by_cases h2 : x = y
    · subst h2; simp
    · rw [if_neg h2]; simp [h1]
theorem ip_cmp_eq (x y : Int64) : (lg_cmp x y = 0) = (x = y) := by
  unfold lg_cmp
  by_cases h1 : y < x
  · rw [if_pos h1]
    have : ¬ x = y := fun q => by subst q; exact Int64.lt_irrefl h1
    simp [this]
  · rw [if_neg h1]
    by_cases h2 : x = y
    · subst h2; simp
    · rw [if_neg h2]; simp [h2]
