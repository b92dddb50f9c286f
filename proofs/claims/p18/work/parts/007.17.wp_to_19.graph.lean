noncomputable section
-- PART 17.wp
-- WEAKEST PRECONDITIONS over the interpreter: an equation an instruction
def ip_wp (X : ip_X) (y pc : Nat) (ls st : List Value) (M : ip_H) (K : Option Value → ip_H → Prop) : Prop := ∃ (n : Nat) (z : Option Value × ip_H), ip_exec X n y pc ls st M = some z ∧ K z.1 z.2
section WP
variable {X : ip_X} {y pc nx a k2 t w : Nat} {v : Value} {ts : List Nat} {ls st : List Value} {M : ip_H} {K : Option Value → ip_H → Prop}
theorem ip_cw_len {l : List Value} (h : l.length ≤ 4) : ip_cw l ≤ 8 := by
  have key : ∀ l : List Value, ip_cw l ≤ 2 * l.length := by
    intro l
    induction l with
    | nil => exact Nat.le_refl _
    | cons v l ih =>
      have h1 : v.category ≤ 2 := by rcases lv_cat v with h | h <;> omega
      unfold ip_cw at *
      simp only [List.map_cons, List.sum_cons, List.length_cons]
      omega
  have := key l
  omega
theorem wp_step {e : ip_E} {z : ip_Z} (he : ip_at y pc = some e) (hic : ip_ic e = false) (hrv : ip_rv e st = none) (hs : ip_step y X e ls st M = some z) : ip_wp X y pc ls st M K = ip_wp X y z.1 z.2.1 z.2.2.1 z.2.2.2 K := by
  have hic2 : ¬ ip_ic e = true := by rw [hic]; decide
  apply propext
  constructor
  · rintro ⟨n, q, h, hK⟩
    cases n with
    | zero => cases h
    | succ n =>
      rw [ip_exec, he] at h
      dsimp only at h
      rw [if_neg hic2, hrv] at h
      dsimp only at h
      rw [hs] at h
      exact ⟨n, q, h, hK⟩
  · rintro ⟨n, q, h, hK⟩
    refine ⟨n + 1, q, ?_, hK⟩
    rw [ip_exec, he]
    dsimp only
    rw [if_neg hic2, hrv]
    dsimp only
    rw [hs]
    exact h
theorem wp_st {e : ip_E} {pc1 : Nat} {ls1 st1 : List Value} {M1 : ip_H} (he : ip_at y pc = some e) (hic : ip_ic e = false) (hrv : ip_rv e st = none) (hs : ip_step y X e ls st M = some (pc1, ls1, st1, M1)) : ip_wp X y pc ls st M K = ip_wp X y pc1 ls1 st1 M1 K := wp_step he hic hrv hs
theorem wp_stuck {e : ip_E} (he : ip_at y pc = some e) (hic : ip_ic e = false) (hrv : ip_rv e st = none) (hs : ip_step y X e ls st M = none) : ip_wp X y pc ls st M K = False := by
  have hic2 : ¬ ip_ic e = true := by rw [hic]; decide
  apply propext
  refine ⟨?_, fun h => h.elim⟩
  rintro ⟨n, q, h, hK⟩
  cases n with
  | zero => cases h
  | succ n =>
    rw [ip_exec, he] at h
    dsimp only at h
    rw [if_neg hic2, hrv] at h
    dsimp only at h
    rw [hs] at h
    cases h
theorem wp_ret {e : ip_E} {r : Option Value} (he : ip_at y pc = some e) (hic : ip_ic e = false) (hrv : ip_rv e st = some r) : ip_wp X y pc ls st M K = K r M := by
  have hic2 : ¬ ip_ic e = true := by rw [hic]; decide
  apply propext
  constructor
  · rintro ⟨n, q, h, hK⟩
    cases n with
    | zero => cases h
    | succ n =>
      rw [ip_exec, he] at h
      dsimp only at h
      rw [if_neg hic2, hrv] at h
      cases h
      exact hK
  · intro h
    refine ⟨1, (r, M), ?_, h⟩
    rw [ip_exec, he]
    dsimp only
    rw [if_neg hic2, hrv]
/-- a call: the callee, then what is behind it -/
theorem wp_call {e : ip_E} (he : ip_at y pc = some e) (hic : ip_ic e = true) (hk : e.2.2.2.1 ≤ st.length) (h4 : ip_cw (st.drop e.2.2.2.1) ≤ 8) (hrc : ip_rc e (st.take e.2.2.2.1).reverse M = true) :
    ip_wp X y pc ls st M K = ip_wp X e.2.2.1 0 (ip_ent (ip_ml e.2.2.1) (st.take e.2.2.2.1).reverse) [] M (fun r M1 => ip_wp X y e.2.1 ls (r.toList ++ st.drop e.2.2.2.1) M1 K) := by
  apply propext
  constructor
  · rintro ⟨n, q, h, hK⟩
    cases n with
    | zero => cases h
    | succ n =>
      rw [ip_exec, he] at h
      dsimp only at h
      rw [if_pos hic, if_pos ⟨hk, h4, hrc⟩] at h
      split at h
      · cases h
      · rename_i r M1 hx
        exact ⟨n, (r, M1), hx, n, q, h, hK⟩
  · rintro ⟨n, ⟨r, M1⟩, hx, n2, q, h, hK⟩
    refine ⟨(n + n2) + 1, q, ?_, hK⟩
    rw [ip_exec, he]
    dsimp only
    rw [if_pos hic, if_pos ⟨hk, h4, hrc⟩, ip_mono_le X (Nat.le_add_right n n2) hx]
    exact ip_mono_le X (Nat.le_add_left n2 n) h
def ip_ki (q : Value) (k : Int32 → Prop) : Prop := match q with
  | .int x => k x
  | _ => False
def ip_kl (q : Value) (k : Int64 → Prop) : Prop := match q with
  | .long x => k x
  | _ => False
def ip_ka (q : Value) (k : Value → Prop) : Prop := match q with
  | .ref x => k (.ref x)
  | .retAddr 0 => k (.retAddr 0)
  | _ => False
theorem ip_ki_int (x : Int32) (k : Int32 → Prop) : ip_ki (.int x) k = k x := rfl
theorem ip_kl_long (x : Int64) (k : Int64 → Prop) : ip_kl (.long x) k = k x := rfl
theorem ip_ka_ref (x : Nat) (k : Value → Prop) : ip_ka (.ref x) k = k (.ref x) := rfl
theorem ip_ka_scr (k : Value → Prop) : ip_ka (.retAddr 0) k = k (.retAddr 0) := rfl
theorem wp_iconst {n : Int} (h : ip_at y pc = some (.iconst n, nx, a, k2, t, w, v, ts)) : ip_wp X y pc ls st M K = ip_wp X y nx ls (v :: st) M K := wp_st h rfl rfl rfl
theorem wp_bipush {n : Int} (h : ip_at y pc = some (.bipush n, nx, a, k2, t, w, v, ts)) : ip_wp X y pc ls st M K = ip_wp X y nx ls (v :: st) M K := wp_st h rfl rfl rfl
theorem wp_sipush {n : Int} (h : ip_at y pc = some (.sipush n, nx, a, k2, t, w, v, ts)) : ip_wp X y pc ls st M K = ip_wp X y nx ls (v :: st) M K := wp_st h rfl rfl rfl
theorem wp_lconst {n : Fin 2} (h : ip_at y pc = some (.lconst n, nx, a, k2, t, w, v, ts)) : ip_wp X y pc ls st M K = ip_wp X y nx ls (v :: st) M K := wp_st h rfl rfl rfl
theorem wp_ldc {n : Nat} (h : ip_at y pc = some (.ldc n, nx, a, k2, t, w, v, ts)) : ip_wp X y pc ls st M K = ip_wp X y nx ls (v :: st) M K := wp_st h rfl rfl rfl
theorem wp_ldc_w {n : Nat} (h : ip_at y pc = some (.ldc_w n, nx, a, k2, t, w, v, ts)) : ip_wp X y pc ls st M K = ip_wp X y nx ls (v :: st) M K := wp_st h rfl rfl rfl
theorem wp_ldc2_w {n : Nat} (h : ip_at y pc = some (.ldc2_w n, nx, a, k2, t, w, v, ts)) : ip_wp X y pc ls st M K = ip_wp X y nx ls (v :: st) M K := wp_st h rfl rfl rfl
theorem wp_iload {n : Nat} (h : ip_at y pc = some (.iload n, nx, a, k2, t, w, v, ts)) : ip_wp X y pc ls st M K = ip_ki (ip_get ls a) (fun x => ip_wp X y nx ls (.int x :: st) M K) := by
  cases hg : ip_get ls a with
  | int x => exact wp_st h rfl rfl (by simp only [ip_step, hg])
  | _ => exact wp_stuck h rfl rfl (by simp only [ip_step, hg])
theorem wp_iload_n {n : Fin 4} (h : ip_at y pc = some (.iload_n n, nx, a, k2, t, w, v, ts)) : ip_wp X y pc ls st M K = ip_ki (ip_get ls a) (fun x => ip_wp X y nx ls (.int x :: st) M K) := by
  cases hg : ip_get ls a with
  | int x => exact wp_st h rfl rfl (by simp only [ip_step, hg])
  | _ => exact wp_stuck h rfl rfl (by simp only [ip_step, hg])
theorem wp_lload {n : Nat} (h : ip_at y pc = some (.lload n, nx, a, k2, t, w, v, ts)) : ip_wp X y pc ls st M K = ip_kl (ip_get ls a) (fun x => ip_wp X y nx ls (.long x :: st) M K) := by
  cases hg : ip_get ls a with
  | long x => exact wp_st h rfl rfl (by simp only [ip_step, hg])
  | _ => exact wp_stuck h rfl rfl (by simp only [ip_step, hg])
theorem wp_lload_n {n : Fin 4} (h : ip_at y pc = some (.lload_n n, nx, a, k2, t, w, v, ts)) : ip_wp X y pc ls st M K = ip_kl (ip_get ls a) (fun x => ip_wp X y nx ls (.long x :: st) M K) := by
  cases hg : ip_get ls a with
  | long x => exact wp_st h rfl rfl (by simp only [ip_step, hg])
  | _ => exact wp_stuck h rfl rfl (by simp only [ip_step, hg])
theorem wp_aload {n : Nat} (h : ip_at y pc = some (.aload n, nx, a, k2, t, w, v, ts)) : ip_wp X y pc ls st M K = ip_ka (ip_get ls a) (fun x => ip_wp X y nx ls (x :: st) M K) := by
  cases hg : ip_get ls a with
  | ref x => exact wp_st h rfl rfl (by simp only [ip_step, hg])
  | retAddr x => cases x with
    | zero => exact wp_st h rfl rfl (by simp only [ip_step, hg])
    | succ x => exact wp_stuck h rfl rfl (by simp only [ip_step, hg])
  | _ => exact wp_stuck h rfl rfl (by simp only [ip_step, hg])
theorem wp_aload_n {n : Fin 4} (h : ip_at y pc = some (.aload_n n, nx, a, k2, t, w, v, ts)) : ip_wp X y pc ls st M K = ip_ka (ip_get ls a) (fun x => ip_wp X y nx ls (x :: st) M K) := by
  cases hg : ip_get ls a with
  | ref x => exact wp_st h rfl rfl (by simp only [ip_step, hg])
  | retAddr x => cases x with
    | zero => exact wp_st h rfl rfl (by simp only [ip_step, hg])
    | succ x => exact wp_stuck h rfl rfl (by simp only [ip_step, hg])
  | _ => exact wp_stuck h rfl rfl (by simp only [ip_step, hg])
theorem wp_istore {n : Nat} {x : Int32} (h : ip_at y pc = some (.istore n, nx, a, k2, t, w, v, ts)) : ip_wp X y pc ls (.int x :: st) M K = ip_wp X y nx (ip_set1 ls a (.int x)) st M K := wp_st h rfl rfl rfl
theorem wp_istore_n {n : Fin 4} {x : Int32} (h : ip_at y pc = some (.istore_n n, nx, a, k2, t, w, v, ts)) : ip_wp X y pc ls (.int x :: st) M K = ip_wp X y nx (ip_set1 ls a (.int x)) st M K := wp_st h rfl rfl rfl
theorem wp_lstore {n : Nat} {x : Int64} (h : ip_at y pc = some (.lstore n, nx, a, k2, t, w, v, ts)) : ip_wp X y pc ls (.long x :: st) M K = ip_wp X y nx (ip_set2 ls a (.long x)) st M K := wp_st h rfl rfl rfl
theorem wp_lstore_n {n : Fin 4} {x : Int64} (h : ip_at y pc = some (.lstore_n n, nx, a, k2, t, w, v, ts)) : ip_wp X y pc ls (.long x :: st) M K = ip_wp X y nx (ip_set2 ls a (.long x)) st M K := wp_st h rfl rfl rfl
theorem wp_astore_n {n : Fin 4} {x : Nat} (h : ip_at y pc = some (.astore_n n, nx, a, k2, t, w, v, ts)) : ip_wp X y pc ls (.ref x :: st) M K = ip_wp X y nx (ip_set1 ls a (.ref x)) st M K := wp_st h rfl rfl rfl
theorem wp_iinc {n : Nat} {k : Int} {c : Int32} (h : ip_at y pc = some (.iinc n k, nx, a, k2, t, w, .int c, ts)) : ip_wp X y pc ls st M K = ip_ki (ip_get ls a) (fun x => ip_wp X y nx (ip_set1 ls a (.int (x + c))) st M K) := by
  cases hg : ip_get ls a with
  | int x => exact wp_st h rfl rfl (by simp only [ip_step, hg])
  | _ => exact wp_stuck h rfl rfl (by simp only [ip_step, hg])
theorem wp_iadd {x q : Int32} (h : ip_at y pc = some (.iadd, nx, a, k2, t, w, v, ts)) : ip_wp X y pc ls (.int q :: .int x :: st) M K = ip_wp X y nx ls (.int (x + q) :: st) M K := wp_st h rfl rfl rfl
theorem wp_isub {x q : Int32} (h : ip_at y pc = some (.isub, nx, a, k2, t, w, v, ts)) : ip_wp X y pc ls (.int q :: .int x :: st) M K = ip_wp X y nx ls (.int (x - q) :: st) M K := wp_st h rfl rfl rfl
theorem wp_imul {x q : Int32} (h : ip_at y pc = some (.imul, nx, a, k2, t, w, v, ts)) : ip_wp X y pc ls (.int q :: .int x :: st) M K = ip_wp X y nx ls (.int (x * q) :: st) M K := wp_st h rfl rfl rfl
theorem wp_iand {x q : Int32} (h : ip_at y pc = some (.iand, nx, a, k2, t, w, v, ts)) : ip_wp X y pc ls (.int q :: .int x :: st) M K = ip_wp X y nx ls (.int (x &&& q) :: st) M K := wp_st h rfl rfl rfl
theorem wp_ixor {x q : Int32} (h : ip_at y pc = some (.ixor, nx, a, k2, t, w, v, ts)) : ip_wp X y pc ls (.int q :: .int x :: st) M K = ip_wp X y nx ls (.int (x ^^^ q) :: st) M K := wp_st h rfl rfl rfl
theorem wp_ishr {x q : Int32} (h : ip_at y pc = some (.ishr, nx, a, k2, t, w, v, ts)) : ip_wp X y pc ls (.int q :: .int x :: st) M K = ip_wp X y nx ls (.int (x >>> (q &&& 31)) :: st) M K := wp_st h rfl rfl rfl
theorem wp_ladd {x q : Int64} (h : ip_at y pc = some (.ladd, nx, a, k2, t, w, v, ts)) : ip_wp X y pc ls (.long q :: .long x :: st) M K = ip_wp X y nx ls (.long (x + q) :: st) M K := wp_st h rfl rfl rfl
theorem wp_lsub {x q : Int64} (h : ip_at y pc = some (.lsub, nx, a, k2, t, w, v, ts)) : ip_wp X y pc ls (.long q :: .long x :: st) M K = ip_wp X y nx ls (.long (x - q) :: st) M K := wp_st h rfl rfl rfl
theorem wp_lmul {x q : Int64} (h : ip_at y pc = some (.lmul, nx, a, k2, t, w, v, ts)) : ip_wp X y pc ls (.long q :: .long x :: st) M K = ip_wp X y nx ls (.long (x * q) :: st) M K := wp_st h rfl rfl rfl
theorem wp_land {x q : Int64} (h : ip_at y pc = some (.land, nx, a, k2, t, w, v, ts)) : ip_wp X y pc ls (.long q :: .long x :: st) M K = ip_wp X y nx ls (.long (x &&& q) :: st) M K := wp_st h rfl rfl rfl
theorem wp_lor {x q : Int64} (h : ip_at y pc = some (.lor, nx, a, k2, t, w, v, ts)) : ip_wp X y pc ls (.long q :: .long x :: st) M K = ip_wp X y nx ls (.long (x ||| q) :: st) M K := wp_st h rfl rfl rfl
theorem wp_lcmp {x q : Int64} (h : ip_at y pc = some (.lcmp, nx, a, k2, t, w, v, ts)) : ip_wp X y pc ls (.long q :: .long x :: st) M K = ip_wp X y nx ls (.int (lg_cmp x q) :: st) M K := wp_st h rfl rfl rfl
theorem wp_idiv {x q : Int32} (h : ip_at y pc = some (.idiv, nx, a, k2, t, w, v, ts)) : ip_wp X y pc ls (.int q :: .int x :: st) M K = if q = 0 then False else ip_wp X y nx ls (.int (x / q) :: st) M K := by
  by_cases hq : q = 0
  · rw [if_pos hq]
    refine wp_stuck h rfl rfl ?_
    simp only [ip_step, ip_i2, ip_l2, if_pos hq]
  · rw [if_neg hq]
    refine wp_st (st1 := .int (x / q) :: st) h rfl rfl ?_
    simp only [ip_step, ip_i2, ip_l2, if_neg hq]
theorem wp_irem {x q : Int32} (h : ip_at y pc = some (.irem, nx, a, k2, t, w, v, ts)) : ip_wp X y pc ls (.int q :: .int x :: st) M K = if q = 0 then False else ip_wp X y nx ls (.int (x - x / q * q) :: st) M K := by
  by_cases hq : q = 0
  · rw [if_pos hq]
    refine wp_stuck h rfl rfl ?_
    simp only [ip_step, ip_i2, ip_l2, if_pos hq]
  · rw [if_neg hq]
    refine wp_st (st1 := .int (x - x / q * q) :: st) h rfl rfl ?_
    simp only [ip_step, ip_i2, ip_l2, if_neg hq]
theorem wp_ldiv {x q : Int64} (h : ip_at y pc = some (.ldiv, nx, a, k2, t, w, v, ts)) : ip_wp X y pc ls (.long q :: .long x :: st) M K = if q = 0 then False else ip_wp X y nx ls (.long (x / q) :: st) M K := by
  by_cases hq : q = 0
  · rw [if_pos hq]
    refine wp_stuck h rfl rfl ?_
    simp only [ip_step, ip_i2, ip_l2, if_pos hq]
  · rw [if_neg hq]
    refine wp_st (st1 := .long (x / q) :: st) h rfl rfl ?_
    simp only [ip_step, ip_i2, ip_l2, if_neg hq]
theorem wp_lrem {x q : Int64} (h : ip_at y pc = some (.lrem, nx, a, k2, t, w, v, ts)) : ip_wp X y pc ls (.long q :: .long x :: st) M K = if q = 0 then False else ip_wp X y nx ls (.long (x - x / q * q) :: st) M K := by
  by_cases hq : q = 0
  · rw [if_pos hq]
    refine wp_stuck h rfl rfl ?_
    simp only [ip_step, ip_i2, ip_l2, if_pos hq]
  · rw [if_neg hq]
    refine wp_st (st1 := .long (x - x / q * q) :: st) h rfl rfl ?_
    simp only [ip_step, ip_i2, ip_l2, if_neg hq]
theorem wp_ineg {x : Int32} (h : ip_at y pc = some (.ineg, nx, a, k2, t, w, v, ts)) : ip_wp X y pc ls (.int x :: st) M K = ip_wp X y nx ls (.int (-x) :: st) M K := wp_st h rfl rfl rfl
theorem wp_lneg {x : Int64} (h : ip_at y pc = some (.lneg, nx, a, k2, t, w, v, ts)) : ip_wp X y pc ls (.long x :: st) M K = ip_wp X y nx ls (.long (-x) :: st) M K := wp_st h rfl rfl rfl
theorem wp_i2l {x : Int32} (h : ip_at y pc = some (.i2l, nx, a, k2, t, w, v, ts)) : ip_wp X y pc ls (.int x :: st) M K = ip_wp X y nx ls (.long (x.toInt64) :: st) M K := wp_st h rfl rfl rfl
theorem wp_l2i {x : Int64} (h : ip_at y pc = some (.l2i, nx, a, k2, t, w, v, ts)) : ip_wp X y pc ls (.long x :: st) M K = ip_wp X y nx ls (.int (x.toInt32) :: st) M K := wp_st h rfl rfl rfl
theorem wp_i2b {x : Int32} (h : ip_at y pc = some (.i2b, nx, a, k2, t, w, v, ts)) : ip_wp X y pc ls (.int x :: st) M K = ip_wp X y nx ls (.int (x.toInt8.toInt32) :: st) M K := wp_st h rfl rfl rfl
theorem wp_lshl {x : Int64} {q : Int32} (h : ip_at y pc = some (.lshl, nx, a, k2, t, w, v, ts)) : ip_wp X y pc ls (.int q :: .long x :: st) M K = ip_wp X y nx ls (.long (x <<< (q.toInt64 &&& 63)) :: st) M K := wp_st h rfl rfl rfl
theorem wp_lshr {x : Int64} {q : Int32} (h : ip_at y pc = some (.lshr, nx, a, k2, t, w, v, ts)) : ip_wp X y pc ls (.int q :: .long x :: st) M K = ip_wp X y nx ls (.long (x >>> (q.toInt64 &&& 63)) :: st) M K := wp_st h rfl rfl rfl
theorem wp_lushr {x : Int64} {q : Int32} (h : ip_at y pc = some (.lushr, nx, a, k2, t, w, v, ts)) : ip_wp X y pc ls (.int q :: .long x :: st) M K = ip_wp X y nx ls (.long ((x.toUInt64 >>> (q.toInt64.toUInt64 &&& Int64.toUInt64 63)).toInt64) :: st) M K := wp_st h rfl rfl rfl
theorem wp_goto {off : Int} (h : ip_at y pc = some (.goto off, nx, a, k2, t, w, v, ts)) : ip_wp X y pc ls st M K = ip_wp X y a ls st M K := wp_st h rfl rfl rfl
theorem wp_ifCond_eq {x : Int32} {off : Int} (h : ip_at y pc = some (.ifCond .eq off, nx, a, k2, t, w, v, ts)) : ip_wp X y pc ls (.int x :: st) M K = if x = 0 then ip_wp X y a ls st M K else ip_wp X y nx ls st M K := by
  have e := wp_step (X := X) (ls := ls) (st := .int x :: st) (M := M) (K := K) h rfl rfl rfl
  rw [e]
  dsimp only
  by_cases hc : x = 0
  · have h2 : ip_cd .eq x 0 = true := by simp [ip_cd, hc]
    rw [if_pos hc, h2]; rfl
  · have h2 : ip_cd .eq x 0 = false := by simp [ip_cd, hc]
    rw [if_neg hc, h2]; rfl
theorem wp_ifCond_ne {x : Int32} {off : Int} (h : ip_at y pc = some (.ifCond .ne off, nx, a, k2, t, w, v, ts)) : ip_wp X y pc ls (.int x :: st) M K = if x = 0 then ip_wp X y nx ls st M K else ip_wp X y a ls st M K := by
  have e := wp_step (X := X) (ls := ls) (st := .int x :: st) (M := M) (K := K) h rfl rfl rfl
  rw [e]
  dsimp only
  by_cases hc : x = 0
  · have h2 : ip_cd .ne x 0 = false := by simp [ip_cd, hc]
    rw [if_pos hc, h2]; rfl
  · have h2 : ip_cd .ne x 0 = true := by simp [ip_cd, hc]
    rw [if_neg hc, h2]; rfl
theorem wp_ifCond_lt {x : Int32} {off : Int} (h : ip_at y pc = some (.ifCond .lt off, nx, a, k2, t, w, v, ts)) : ip_wp X y pc ls (.int x :: st) M K = if x < 0 then ip_wp X y a ls st M K else ip_wp X y nx ls st M K := by
  have e := wp_step (X := X) (ls := ls) (st := .int x :: st) (M := M) (K := K) h rfl rfl rfl
  rw [e]
  dsimp only
  by_cases hc : x < 0
  · have h2 : ip_cd .lt x 0 = true := by simp [ip_cd, hc]
    rw [if_pos hc, h2]; rfl
  · have h2 : ip_cd .lt x 0 = false := by simp [ip_cd, hc]
    rw [if_neg hc, h2]; rfl
theorem wp_ifCond_ge {x : Int32} {off : Int} (h : ip_at y pc = some (.ifCond .ge off, nx, a, k2, t, w, v, ts)) : ip_wp X y pc ls (.int x :: st) M K = if x < 0 then ip_wp X y nx ls st M K else ip_wp X y a ls st M K := by
  have e := wp_step (X := X) (ls := ls) (st := .int x :: st) (M := M) (K := K) h rfl rfl rfl
  rw [e]
  dsimp only
  by_cases hc : x < 0
  · have h2 : ip_cd .ge x 0 = false := by simp [ip_cd, hc, Int32.not_le, Int32.not_lt]
    rw [if_pos hc, h2]; rfl
  · have h2 : ip_cd .ge x 0 = true := by simp [ip_cd, hc, Int32.not_le.mp, Int32.not_lt.mp hc]
    rw [if_neg hc, h2]; rfl
theorem wp_ifCond_gt {x : Int32} {off : Int} (h : ip_at y pc = some (.ifCond .gt off, nx, a, k2, t, w, v, ts)) : ip_wp X y pc ls (.int x :: st) M K = if 0 < x then ip_wp X y a ls st M K else ip_wp X y nx ls st M K := by
  have e := wp_step (X := X) (ls := ls) (st := .int x :: st) (M := M) (K := K) h rfl rfl rfl
  rw [e]
  dsimp only
  by_cases hc : 0 < x
  · have h2 : ip_cd .gt x 0 = true := by simp [ip_cd, hc]
    rw [if_pos hc, h2]; rfl
  · have h2 : ip_cd .gt x 0 = false := by simp [ip_cd, hc]
    rw [if_neg hc, h2]; rfl
theorem wp_ifCond_le {x : Int32} {off : Int} (h : ip_at y pc = some (.ifCond .le off, nx, a, k2, t, w, v, ts)) : ip_wp X y pc ls (.int x :: st) M K = if 0 < x then ip_wp X y nx ls st M K else ip_wp X y a ls st M K := by
  have e := wp_step (X := X) (ls := ls) (st := .int x :: st) (M := M) (K := K) h rfl rfl rfl
  rw [e]
  dsimp only
  by_cases hc : 0 < x
  · have h2 : ip_cd .le x 0 = false := by simp [ip_cd, hc, Int32.not_le, Int32.not_lt]
    rw [if_pos hc, h2]; rfl
  · have h2 : ip_cd .le x 0 = true := by simp [ip_cd, hc, Int32.not_le.mp, Int32.not_lt.mp hc]
    rw [if_neg hc, h2]; rfl
theorem wp_if_icmp_eq {x q : Int32} {off : Int} (h : ip_at y pc = some (.if_icmp .eq off, nx, a, k2, t, w, v, ts)) : ip_wp X y pc ls (.int q :: .int x :: st) M K = if x = q then ip_wp X y a ls st M K else ip_wp X y nx ls st M K := by
  have e := wp_step (X := X) (ls := ls) (st := .int q :: .int x :: st) (M := M) (K := K) h rfl rfl rfl
  rw [e]
  dsimp only
  by_cases hc : x = q
  · have h2 : ip_cd .eq x q = true := by simp [ip_cd, hc]
    rw [if_pos hc, h2]; rfl
  · have h2 : ip_cd .eq x q = false := by simp [ip_cd, hc]
    rw [if_neg hc, h2]; rfl
theorem wp_if_icmp_ne {x q : Int32} {off : Int} (h : ip_at y pc = some (.if_icmp .ne off, nx, a, k2, t, w, v, ts)) : ip_wp X y pc ls (.int q :: .int x :: st) M K = if x = q then ip_wp X y nx ls st M K else ip_wp X y a ls st M K := by
  have e := wp_step (X := X) (ls := ls) (st := .int q :: .int x :: st) (M := M) (K := K) h rfl rfl rfl
  rw [e]
  dsimp only
  by_cases hc : x = q
  · have h2 : ip_cd .ne x q = false := by simp [ip_cd, hc]
    rw [if_pos hc, h2]; rfl
  · have h2 : ip_cd .ne x q = true := by simp [ip_cd, hc]
    rw [if_neg hc, h2]; rfl
theorem wp_if_icmp_lt {x q : Int32} {off : Int} (h : ip_at y pc = some (.if_icmp .lt off, nx, a, k2, t, w, v, ts)) : ip_wp X y pc ls (.int q :: .int x :: st) M K = if x < q then ip_wp X y a ls st M K else ip_wp X y nx ls st M K := by
  have e := wp_step (X := X) (ls := ls) (st := .int q :: .int x :: st) (M := M) (K := K) h rfl rfl rfl
  rw [e]
  dsimp only
  by_cases hc : x < q
  · have h2 : ip_cd .lt x q = true := by simp [ip_cd, hc]
    rw [if_pos hc, h2]; rfl
  · have h2 : ip_cd .lt x q = false := by simp [ip_cd, hc]
    rw [if_neg hc, h2]; rfl
theorem wp_if_icmp_ge {x q : Int32} {off : Int} (h : ip_at y pc = some (.if_icmp .ge off, nx, a, k2, t, w, v, ts)) : ip_wp X y pc ls (.int q :: .int x :: st) M K = if x < q then ip_wp X y nx ls st M K else ip_wp X y a ls st M K := by
  have e := wp_step (X := X) (ls := ls) (st := .int q :: .int x :: st) (M := M) (K := K) h rfl rfl rfl
  rw [e]
  dsimp only
  by_cases hc : x < q
  · have h2 : ip_cd .ge x q = false := by simp [ip_cd, hc, Int32.not_le, Int32.not_lt]
    rw [if_pos hc, h2]; rfl
  · have h2 : ip_cd .ge x q = true := by simp [ip_cd, hc, Int32.not_le.mp, Int32.not_lt.mp hc]
    rw [if_neg hc, h2]; rfl
theorem wp_if_icmp_gt {x q : Int32} {off : Int} (h : ip_at y pc = some (.if_icmp .gt off, nx, a, k2, t, w, v, ts)) : ip_wp X y pc ls (.int q :: .int x :: st) M K = if q < x then ip_wp X y a ls st M K else ip_wp X y nx ls st M K := by
  have e := wp_step (X := X) (ls := ls) (st := .int q :: .int x :: st) (M := M) (K := K) h rfl rfl rfl
  rw [e]
  dsimp only
  by_cases hc : q < x
  · have h2 : ip_cd .gt x q = true := by simp [ip_cd, hc]
    rw [if_pos hc, h2]; rfl
  · have h2 : ip_cd .gt x q = false := by simp [ip_cd, hc]
    rw [if_neg hc, h2]; rfl
theorem wp_if_icmp_le {x q : Int32} {off : Int} (h : ip_at y pc = some (.if_icmp .le off, nx, a, k2, t, w, v, ts)) : ip_wp X y pc ls (.int q :: .int x :: st) M K = if q < x then ip_wp X y nx ls st M K else ip_wp X y a ls st M K := by
  have e := wp_step (X := X) (ls := ls) (st := .int q :: .int x :: st) (M := M) (K := K) h rfl rfl rfl
  rw [e]
  dsimp only
  by_cases hc : q < x
  · have h2 : ip_cd .le x q = false := by simp [ip_cd, hc, Int32.not_le, Int32.not_lt]
    rw [if_pos hc, h2]; rfl
  · have h2 : ip_cd .le x q = true := by simp [ip_cd, hc, Int32.not_le.mp, Int32.not_lt.mp hc]
    rw [if_neg hc, h2]; rfl
theorem wp_tableswitch {x : Int32} {d lo hi : Int} {offs : Array Int} (h : ip_at y pc = some (.tableswitch d lo hi offs, nx, a, k2, t, w, v, ts)) : ip_wp X y pc ls (.int x :: st) M K = if x.toInt < lo ∨ hi < x.toInt then ip_wp X y a ls st M K else ip_wp X y (ts.getD (x.toInt - lo).toNat a) ls st M K := by
  have e := wp_step (X := X) (ls := ls) (st := .int x :: st) (M := M) (K := K) h rfl rfl rfl
  rw [e]
  dsimp only
  split <;> rfl
theorem wp_dup_r {x : Nat} (h : ip_at y pc = some (.dup, nx, a, k2, t, w, v, ts)) : ip_wp X y pc ls (.ref x :: st) M K = ip_wp X y nx ls (.ref x :: .ref x :: st) M K := wp_st h rfl rfl rfl
theorem wp_dup_i {x : Int32} (h : ip_at y pc = some (.dup, nx, a, k2, t, w, v, ts)) : ip_wp X y pc ls (.int x :: st) M K = ip_wp X y nx ls (.int x :: .int x :: st) M K := wp_st h rfl rfl rfl
theorem wp_dup2 {x : Int32} {q : Nat} (h : ip_at y pc = some (.dup2, nx, a, k2, t, w, v, ts)) : ip_wp X y pc ls (.int x :: .ref q :: st) M K = ip_wp X y nx ls (.int x :: .ref q :: .int x :: .ref q :: st) M K := wp_st h rfl rfl rfl
theorem wp_pop {x : Int32} (h : ip_at y pc = some (.pop, nx, a, k2, t, w, v, ts)) : ip_wp X y pc ls (.int x :: st) M K = ip_wp X y nx ls st M K := wp_st h rfl rfl rfl
theorem wp_pop2 {x : Int64} (h : ip_at y pc = some (.pop2, nx, a, k2, t, w, v, ts)) : ip_wp X y pc ls (.long x :: st) M K = ip_wp X y nx ls st M K := wp_st h rfl rfl rfl
theorem wp_getI {n k : Nat} (h : ip_at y pc = some (.getfield n, nx, a, k2, 0, w, v, ts)) : ip_wp X y pc ls (.ref k :: st) M K = if (ip_sh M k).1 = 0 ∧ (ip_sh M k).2.1 = a then ip_wp X y nx ls (.int (M.2.1 k k2) :: st) M K else False := by
  by_cases hc : (ip_sh M k).1 = 0 ∧ (ip_sh M k).2.1 = a
  · rw [if_pos hc]
    refine wp_st h rfl rfl ?_
    first | exact if_pos hc | (simp only [ip_step, ip_r1, ip_i1]; exact if_pos (by simpa using hc))
  · rw [if_neg hc]
    refine wp_stuck h rfl rfl ?_
    first | exact if_neg hc | (simp only [ip_step, ip_r1, ip_i1]; exact if_neg (by simpa using hc))
theorem wp_getZ {n k : Nat} (h : ip_at y pc = some (.getfield n, nx, a, k2, 3, w, v, ts)) : ip_wp X y pc ls (.ref k :: st) M K = if (ip_sh M k).1 = 0 ∧ (ip_sh M k).2.1 = a then ip_wp X y nx ls (.int (M.2.1 k k2) :: st) M K else False := by
  by_cases hc : (ip_sh M k).1 = 0 ∧ (ip_sh M k).2.1 = a
  · rw [if_pos hc]
    refine wp_st h rfl rfl ?_
    first | exact if_pos hc | (simp only [ip_step, ip_r1, ip_i1]; exact if_pos (by simpa using hc))
  · rw [if_neg hc]
    refine wp_stuck h rfl rfl ?_
    first | exact if_neg hc | (simp only [ip_step, ip_r1, ip_i1]; exact if_neg (by simpa using hc))
theorem wp_getL {n k : Nat} (h : ip_at y pc = some (.getfield n, nx, a, k2, 1, w, v, ts)) : ip_wp X y pc ls (.ref k :: st) M K = if (ip_sh M k).1 = 0 ∧ (ip_sh M k).2.1 = a then ip_wp X y nx ls (.long (M.2.2.1 k k2) :: st) M K else False := by
  by_cases hc : (ip_sh M k).1 = 0 ∧ (ip_sh M k).2.1 = a
  · rw [if_pos hc]
    refine wp_st h rfl rfl ?_
    first | exact if_pos hc | (simp only [ip_step, ip_r1, ip_i1]; exact if_pos (by simpa using hc))
  · rw [if_neg hc]
    refine wp_stuck h rfl rfl ?_
    first | exact if_neg hc | (simp only [ip_step, ip_r1, ip_i1]; exact if_neg (by simpa using hc))
theorem wp_getR {n k : Nat} (h : ip_at y pc = some (.getfield n, nx, a, k2, 2, w, v, ts)) : ip_wp X y pc ls (.ref k :: st) M K = if (ip_sh M k).1 = 0 ∧ (ip_sh M k).2.1 = a then ip_wp X y nx ls (ip_vr (M.2.2.2 k k2) :: st) M K else False := by
  by_cases hc : (ip_sh M k).1 = 0 ∧ (ip_sh M k).2.1 = a
  · rw [if_pos hc]
    refine wp_st h rfl rfl ?_
    first | exact if_pos hc | (simp only [ip_step, ip_r1, ip_i1]; exact if_pos (by simpa using hc))
  · rw [if_neg hc]
    refine wp_stuck h rfl rfl ?_
    first | exact if_neg hc | (simp only [ip_step, ip_r1, ip_i1]; exact if_neg (by simpa using hc))
theorem wp_putI {n k : Nat} {x : Int32} (h : ip_at y pc = some (.putfield n, nx, a, k2, 0, w, v, ts)) : ip_wp X y pc ls (.int x :: .ref k :: st) M K = if (ip_sh M k).1 = 0 ∧ (ip_sh M k).2.1 = a then ip_wp X y nx ls st (ip_uI M k k2 x) K else False := by
  by_cases hc : (ip_sh M k).1 = 0 ∧ (ip_sh M k).2.1 = a
  · rw [if_pos hc]
    refine wp_st h rfl rfl ?_
    first | exact if_pos ⟨hc.1, hc.2, Or.inl rfl⟩ | (simp only [ip_step, ip_r1, ip_i1]; exact if_pos (by simpa using hc))
  · rw [if_neg hc]
    refine wp_stuck h rfl rfl ?_
    first | exact if_neg (fun g => hc ⟨g.1, g.2.1⟩) | (simp only [ip_step, ip_r1, ip_i1]; exact if_neg (by simpa using hc))
theorem wp_putZ {n k : Nat} {x : Int32} (h : ip_at y pc = some (.putfield n, nx, a, k2, 3, w, v, ts)) : ip_wp X y pc ls (.int x :: .ref k :: st) M K = if (ip_sh M k).1 = 0 ∧ (ip_sh M k).2.1 = a ∧ (x = 0 ∨ x = 1) then ip_wp X y nx ls st (ip_uI M k k2 x) K else False := by
  by_cases hc : (ip_sh M k).1 = 0 ∧ (ip_sh M k).2.1 = a ∧ (x = 0 ∨ x = 1)
  · rw [if_pos hc]
    refine wp_st h rfl rfl ?_
    first | exact if_pos ⟨hc.1, hc.2.1, Or.inr ⟨rfl, hc.2.2⟩⟩ | (simp only [ip_step, ip_r1, ip_i1]; exact if_pos (by simpa using hc))
  · rw [if_neg hc]
    refine wp_stuck h rfl rfl ?_
    first | exact if_neg (fun g => g.2.2.elim (fun z => by cases z) (fun z => hc ⟨g.1, g.2.1, z.2⟩)) | (simp only [ip_step, ip_r1, ip_i1]; exact if_neg (by simpa using hc))
theorem wp_putL {n k : Nat} {x : Int64} (h : ip_at y pc = some (.putfield n, nx, a, k2, 1, w, v, ts)) : ip_wp X y pc ls (.long x :: .ref k :: st) M K = if (ip_sh M k).1 = 0 ∧ (ip_sh M k).2.1 = a then ip_wp X y nx ls st (ip_uL M k k2 x) K else False := by
  by_cases hc : (ip_sh M k).1 = 0 ∧ (ip_sh M k).2.1 = a
  · rw [if_pos hc]
    refine wp_st h rfl rfl ?_
    first | exact if_pos ⟨hc.1, hc.2, rfl⟩ | (simp only [ip_step, ip_r1, ip_i1]; exact if_pos (by simpa using hc))
  · rw [if_neg hc]
    refine wp_stuck h rfl rfl ?_
    first | exact if_neg (fun g => hc ⟨g.1, g.2.1⟩) | (simp only [ip_step, ip_r1, ip_i1]; exact if_neg (by simpa using hc))
theorem wp_alen {k : Nat} (h : ip_at y pc = some (.arraylength, nx, a, k2, t, w, v, ts)) : ip_wp X y pc ls (.ref k :: st) M K = if (ip_sh M k).1 = 1 then ip_wp X y nx ls (.int (Int32.ofNat (ip_sh M k).2.2) :: st) M K else False := by
  by_cases hc : (ip_sh M k).1 = 1
  · rw [if_pos hc]
    refine wp_st h rfl rfl ?_
    first | exact if_pos hc | (simp only [ip_step, ip_r1, ip_i1]; exact if_pos (by simpa using hc))
  · rw [if_neg hc]
    refine wp_stuck h rfl rfl ?_
    first | exact if_neg hc | (simp only [ip_step, ip_r1, ip_i1]; exact if_neg (by simpa using hc))
theorem wp_slen (h : ip_at y pc = some (.arraylength, nx, a, k2, t, w, v, ts)) : ip_wp X y pc ls (.retAddr 0 :: st) M K = if y = ip_LAW then ip_wp X y nx ls (.int (Int32.ofNat X.1) :: st) M K else False := by
  by_cases hc : y = ip_LAW
  · rw [if_pos hc]
    refine wp_st h rfl rfl ?_
    first | exact if_pos hc | (simp only [ip_step, ip_r1, ip_i1]; exact if_pos (by simpa using hc))
  · rw [if_neg hc]
    refine wp_stuck h rfl rfl ?_
    first | exact if_neg hc | (simp only [ip_step, ip_r1, ip_i1]; exact if_neg (by simpa using hc))
theorem wp_iaload {i : Int32} {k : Nat} (h : ip_at y pc = some (.iaload, nx, a, k2, t, w, v, ts)) : ip_wp X y pc ls (.int i :: .ref k :: st) M K = if (ip_sh M k).1 = 1 ∧ (ip_sh M k).2.1 = 0 ∧ ip_ix i (ip_sh M k).2.2 = true then ip_wp X y nx ls (.int (M.2.1 k i.toNatClampNeg) :: st) M K else False := by
  by_cases hc : (ip_sh M k).1 = 1 ∧ (ip_sh M k).2.1 = 0 ∧ ip_ix i (ip_sh M k).2.2 = true
  · rw [if_pos hc]
    refine wp_st h rfl rfl ?_
    first | exact if_pos hc | (simp only [ip_step, ip_r1, ip_i1]; exact if_pos (by simpa using hc))
  · rw [if_neg hc]
    refine wp_stuck h rfl rfl ?_
    first | exact if_neg hc | (simp only [ip_step, ip_r1, ip_i1]; exact if_neg (by simpa using hc))
theorem wp_saload {i : Int32} (h : ip_at y pc = some (.iaload, nx, a, k2, t, w, v, ts)) : ip_wp X y pc ls (.int i :: .retAddr 0 :: st) M K = if y = ip_LAW ∧ ip_ix i X.1 = true then ip_wp X y nx ls (.int (X.2 i.toNatClampNeg) :: st) M K else False := by
  by_cases hc : y = ip_LAW ∧ ip_ix i X.1 = true
  · rw [if_pos hc]
    refine wp_st h rfl rfl ?_
    first | exact if_pos hc | (simp only [ip_step, ip_r1, ip_i1]; exact if_pos (by simpa using hc))
  · rw [if_neg hc]
    refine wp_stuck h rfl rfl ?_
    first | exact if_neg hc | (simp only [ip_step, ip_r1, ip_i1]; exact if_neg (by simpa using hc))
theorem wp_laload {i : Int32} {k : Nat} (h : ip_at y pc = some (.laload, nx, a, k2, t, w, v, ts)) : ip_wp X y pc ls (.int i :: .ref k :: st) M K = if (ip_sh M k).1 = 1 ∧ (ip_sh M k).2.1 = 1 ∧ ip_ix i (ip_sh M k).2.2 = true then ip_wp X y nx ls (.long (M.2.2.1 k i.toNatClampNeg) :: st) M K else False := by
  by_cases hc : (ip_sh M k).1 = 1 ∧ (ip_sh M k).2.1 = 1 ∧ ip_ix i (ip_sh M k).2.2 = true
  · rw [if_pos hc]
    refine wp_st h rfl rfl ?_
    first | exact if_pos hc | (simp only [ip_step, ip_r1, ip_i1]; exact if_pos (by simpa using hc))
  · rw [if_neg hc]
    refine wp_stuck h rfl rfl ?_
    first | exact if_neg hc | (simp only [ip_step, ip_r1, ip_i1]; exact if_neg (by simpa using hc))
theorem wp_baload {i : Int32} {k : Nat} (h : ip_at y pc = some (.baload, nx, a, k2, t, w, v, ts)) : ip_wp X y pc ls (.int i :: .ref k :: st) M K = if (ip_sh M k).1 = 1 ∧ ((ip_sh M k).2.1 = 2 ∨ (ip_sh M k).2.1 = 3) ∧ ip_ix i (ip_sh M k).2.2 = true then ip_wp X y nx ls (.int (M.2.1 k i.toNatClampNeg) :: st) M K else False := by
  by_cases hc : (ip_sh M k).1 = 1 ∧ ((ip_sh M k).2.1 = 2 ∨ (ip_sh M k).2.1 = 3) ∧ ip_ix i (ip_sh M k).2.2 = true
  · rw [if_pos hc]
    refine wp_st h rfl rfl ?_
    first | exact if_pos hc | (simp only [ip_step, ip_r1, ip_i1]; exact if_pos (by simpa using hc))
  · rw [if_neg hc]
    refine wp_stuck h rfl rfl ?_
    first | exact if_neg hc | (simp only [ip_step, ip_r1, ip_i1]; exact if_neg (by simpa using hc))
theorem wp_aaload {i : Int32} {k : Nat} (h : ip_at y pc = some (.aaload, nx, a, k2, t, w, v, ts)) : ip_wp X y pc ls (.int i :: .ref k :: st) M K = if (ip_sh M k).1 = 1 ∧ 4 ≤ (ip_sh M k).2.1 ∧ ip_ix i (ip_sh M k).2.2 = true then ip_wp X y nx ls (ip_vr (M.2.2.2 k i.toNatClampNeg) :: st) M K else False := by
  by_cases hc : (ip_sh M k).1 = 1 ∧ 4 ≤ (ip_sh M k).2.1 ∧ ip_ix i (ip_sh M k).2.2 = true
  · rw [if_pos hc]
    refine wp_st h rfl rfl ?_
    first | exact if_pos hc | (simp only [ip_step, ip_r1, ip_i1]; exact if_pos (by simpa using hc))
  · rw [if_neg hc]
    refine wp_stuck h rfl rfl ?_
    first | exact if_neg hc | (simp only [ip_step, ip_r1, ip_i1]; exact if_neg (by simpa using hc))
theorem wp_iastore {i x : Int32} {k : Nat} (h : ip_at y pc = some (.iastore, nx, a, k2, t, w, v, ts)) : ip_wp X y pc ls (.int x :: .int i :: .ref k :: st) M K = if (ip_sh M k).1 = 1 ∧ (ip_sh M k).2.1 = 0 ∧ ip_ix i (ip_sh M k).2.2 = true then ip_wp X y nx ls st (ip_uI M k i.toNatClampNeg x) K else False := by
  by_cases hc : (ip_sh M k).1 = 1 ∧ (ip_sh M k).2.1 = 0 ∧ ip_ix i (ip_sh M k).2.2 = true
  · rw [if_pos hc]
    refine wp_st h rfl rfl ?_
    first | exact if_pos hc | (simp only [ip_step, ip_r1, ip_i1]; exact if_pos (by simpa using hc))
  · rw [if_neg hc]
    refine wp_stuck h rfl rfl ?_
    first | exact if_neg hc | (simp only [ip_step, ip_r1, ip_i1]; exact if_neg (by simpa using hc))
theorem wp_lastore {i : Int32} {x : Int64} {k : Nat} (h : ip_at y pc = some (.lastore, nx, a, k2, t, w, v, ts)) : ip_wp X y pc ls (.long x :: .int i :: .ref k :: st) M K = if (ip_sh M k).1 = 1 ∧ (ip_sh M k).2.1 = 1 ∧ ip_ix i (ip_sh M k).2.2 = true then ip_wp X y nx ls st (ip_uL M k i.toNatClampNeg x) K else False := by
  by_cases hc : (ip_sh M k).1 = 1 ∧ (ip_sh M k).2.1 = 1 ∧ ip_ix i (ip_sh M k).2.2 = true
  · rw [if_pos hc]
    refine wp_st h rfl rfl ?_
    first | exact if_pos hc | (simp only [ip_step, ip_r1, ip_i1]; exact if_pos (by simpa using hc))
  · rw [if_neg hc]
    refine wp_stuck h rfl rfl ?_
    first | exact if_neg hc | (simp only [ip_step, ip_r1, ip_i1]; exact if_neg (by simpa using hc))
theorem wp_bastore {i x : Int32} {k : Nat} (h : ip_at y pc = some (.bastore, nx, a, k2, t, w, v, ts)) : ip_wp X y pc ls (.int x :: .int i :: .ref k :: st) M K = if (ip_sh M k).1 = 1 ∧ ((ip_sh M k).2.1 = 2 ∨ (ip_sh M k).2.1 = 3) ∧ ip_ix i (ip_sh M k).2.2 = true then ip_wp X y nx ls st (ip_uI M k i.toNatClampNeg (if (ip_sh M k).2.1 = 2 then x.toInt8.toInt32 else x &&& 1)) K else False := by
  by_cases hc : (ip_sh M k).1 = 1 ∧ ((ip_sh M k).2.1 = 2 ∨ (ip_sh M k).2.1 = 3) ∧ ip_ix i (ip_sh M k).2.2 = true
  · rw [if_pos hc]
    refine wp_st h rfl rfl ?_
    first | exact if_pos hc | (simp only [ip_step, ip_r1, ip_i1]; exact if_pos (by simpa using hc))
  · rw [if_neg hc]
    refine wp_stuck h rfl rfl ?_
    first | exact if_neg hc | (simp only [ip_step, ip_r1, ip_i1]; exact if_neg (by simpa using hc))
theorem wp_new {n : Nat} (h : ip_at y pc = some (.new n, nx, a, k2, t, w, v, ts)) : ip_wp X y pc ls st M K = ip_wp X y nx ls (.ref M.1.length :: st) (ip_nw M (0, a, k2)) K := wp_st h rfl rfl rfl
theorem wp_copy {n0 : Nat} {n dp sp : Int32} {k0 k1 : Nat} (h : ip_at y pc = some (.invokestatic n0, nx, a, k2, 7, w, v, ts)) (h0 : st.length ≤ 4) (h1 : (ip_sh M k0).1 = 1 ∧ (ip_sh M k1).1 = 1 ∧ (ip_sh M k0).2.1 = (ip_sh M k1).2.1 ∧ (ip_sh M k0).2.1 < 3) (h2 : ¬ sp < 0 ∧ ¬ dp < 0 ∧ ¬ n < 0 ∧ sp.toNatClampNeg + n.toNatClampNeg ≤ (ip_sh M k0).2.2 ∧ dp.toNatClampNeg + n.toNatClampNeg ≤ (ip_sh M k1).2.2) (h3 : (ip_sh M k0).2.1 < 2 ∨ ∀ i, i < n.toNatClampNeg → fits .byte (.int (M.2.1 k0 (sp.toNatClampNeg + i))) = true) :
    ip_wp X y pc ls (.int n :: .int dp :: .ref k1 :: .int sp :: .ref k0 :: st) M K = ip_wp X y nx ls st (if (ip_sh M k0).2.1 = 1 then ip_cpL M k0 k1 sp.toNatClampNeg dp.toNatClampNeg n.toNatClampNeg else ip_cpI M k0 k1 sp.toNatClampNeg dp.toNatClampNeg n.toNatClampNeg) K := by
  refine wp_st h rfl rfl ?_
  refine (if_pos ⟨rfl, h0, h1.1, h1.2.1, h1.2.2.1, h1.2.2.2, h2.1, h2.2.1, h2.2.2.1, h2.2.2.2.1, h2.2.2.2.2⟩).trans ?_
  by_cases hL : (ip_sh M k0).2.1 = 1
  · rw [if_pos hL, if_pos hL]
  · rw [if_neg hL, if_neg hL, if_pos]
    rcases h3 with h3 | h3
    · exact Or.inl (by omega)
    · exact Or.inr (fun i hi => h3 i (List.mem_range.mp hi))
theorem wp_iret {x : Int32} (h : ip_at y pc = some (.ireturn, nx, a, k2, 0, w, v, ts)) : ip_wp X y pc ls [.int x] M K = K (some (.int x)) M := wp_ret h rfl rfl
theorem wp_zret {x : Int32} (h : ip_at y pc = some (.ireturn, nx, a, k2, 3, w, v, ts)) : ip_wp X y pc ls [.int x] M K = if x = 0 ∨ x = 1 then K (some (.int x)) M else False := by
  by_cases hc : x = 0 ∨ x = 1
  · rw [if_pos hc]
    exact wp_ret h rfl (by simp only [ip_rv]; rw [if_pos (Or.inr hc)])
  · rw [if_neg hc]
    exact wp_stuck h rfl (by simp only [ip_rv]; rw [if_neg (fun g => g.elim (fun z => by cases z) hc)]) rfl
theorem wp_lret {x : Int64} (h : ip_at y pc = some (.lreturn, nx, a, k2, t, w, v, ts)) : ip_wp X y pc ls [.long x] M K = K (some (.long x)) M := wp_ret h rfl rfl
theorem wp_aret {x : Nat} (h : ip_at y pc = some (.areturn, nx, a, k2, t, w, v, ts)) : ip_wp X y pc ls [.ref x] M K = K (some (.ref x)) M := wp_ret h rfl rfl
theorem wp_vret (h : ip_at y pc = some (.return_, nx, a, k2, t, w, v, ts)) : ip_wp X y pc ls [] M K = K none M := wp_ret h rfl rfl
theorem wp_callS0_1 {n : Nat} {v0 : Value} (h : ip_at y pc = some (.invokestatic n, nx, a, 1, 0, w, v, ts)) (hc : st.length ≤ 4 ∧ (ip_pad [v0]).length ≤ ip_ml a) : ip_wp X y pc ls (v0 :: st) M K = ip_wp X a 0 (ip_ent (ip_ml a) [v0]) [] M (fun r M1 => ip_wp X y nx ls (r.toList ++ st) M1 K) :=
  wp_call h rfl (by simp) (ip_cw_len (by simpa using hc.1)) (by simpa [ip_rc] using hc.2)
theorem wp_callS0_2 {n : Nat} {v0 v1 : Value} (h : ip_at y pc = some (.invokestatic n, nx, a, 2, 0, w, v, ts)) (hc : st.length ≤ 4 ∧ (ip_pad [v0, v1]).length ≤ ip_ml a) : ip_wp X y pc ls (v1 :: v0 :: st) M K = ip_wp X a 0 (ip_ent (ip_ml a) [v0, v1]) [] M (fun r M1 => ip_wp X y nx ls (r.toList ++ st) M1 K) :=
  wp_call h rfl (by simp) (ip_cw_len (by simpa using hc.1)) (by simpa [ip_rc] using hc.2)
theorem wp_callS0_3 {n : Nat} {v0 v1 v2 : Value} (h : ip_at y pc = some (.invokestatic n, nx, a, 3, 0, w, v, ts)) (hc : st.length ≤ 4 ∧ (ip_pad [v0, v1, v2]).length ≤ ip_ml a) : ip_wp X y pc ls (v2 :: v1 :: v0 :: st) M K = ip_wp X a 0 (ip_ent (ip_ml a) [v0, v1, v2]) [] M (fun r M1 => ip_wp X y nx ls (r.toList ++ st) M1 K) :=
  wp_call h rfl (by simp) (ip_cw_len (by simpa using hc.1)) (by simpa [ip_rc] using hc.2)
theorem wp_callS0_4 {n : Nat} {v0 v1 v2 v3 : Value} (h : ip_at y pc = some (.invokestatic n, nx, a, 4, 0, w, v, ts)) (hc : st.length ≤ 4 ∧ (ip_pad [v0, v1, v2, v3]).length ≤ ip_ml a) : ip_wp X y pc ls (v3 :: v2 :: v1 :: v0 :: st) M K = ip_wp X a 0 (ip_ent (ip_ml a) [v0, v1, v2, v3]) [] M (fun r M1 => ip_wp X y nx ls (r.toList ++ st) M1 K) :=
  wp_call h rfl (by simp) (ip_cw_len (by simpa using hc.1)) (by simpa [ip_rc] using hc.2)
theorem wp_callS3_2 {n : Nat} {v0 v1 : Value} (h : ip_at y pc = some (.invokestatic n, nx, a, 2, 3, w, v, ts)) (hc : st.length ≤ 4 ∧ (ip_pad [v0, v1]).length ≤ ip_ml a) : ip_wp X y pc ls (v1 :: v0 :: st) M K = ip_wp X a 0 (ip_ent (ip_ml a) [v0, v1]) [] M (fun r M1 => ip_wp X y nx ls (r.toList ++ st) M1 K) :=
  wp_call h rfl (by simp) (ip_cw_len (by simpa using hc.1)) (by simpa [ip_rc] using hc.2)
theorem wp_callV1_1 {n : Nat} {k : Nat} (h : ip_at y pc = some (.invokevirtual n, nx, a, 1, 1, w, v, ts)) (hc : st.length ≤ 4 ∧ (ip_pad [.ref k]).length ≤ ip_ml a ∧ (ip_sh M k).1 = 0 ∧ (ip_sh M k).2.1 = ip_oc a) : ip_wp X y pc ls (.ref k :: st) M K = ip_wp X a 0 (ip_ent (ip_ml a) [.ref k]) [] M (fun r M1 => ip_wp X y nx ls (r.toList ++ st) M1 K) :=
  wp_call h rfl (by simp) (ip_cw_len (by simpa using hc.1)) (by simpa [ip_rc] using hc.2)
theorem wp_callV1_2 {n : Nat} {k : Nat} {v1 : Value} (h : ip_at y pc = some (.invokevirtual n, nx, a, 2, 1, w, v, ts)) (hc : st.length ≤ 4 ∧ (ip_pad [.ref k, v1]).length ≤ ip_ml a ∧ (ip_sh M k).1 = 0 ∧ (ip_sh M k).2.1 = ip_oc a) : ip_wp X y pc ls (v1 :: .ref k :: st) M K = ip_wp X a 0 (ip_ent (ip_ml a) [.ref k, v1]) [] M (fun r M1 => ip_wp X y nx ls (r.toList ++ st) M1 K) :=
  wp_call h rfl (by simp) (ip_cw_len (by simpa using hc.1)) (by simpa [ip_rc] using hc.2)
theorem wp_callV1_3 {n : Nat} {k : Nat} {v1 v2 : Value} (h : ip_at y pc = some (.invokevirtual n, nx, a, 3, 1, w, v, ts)) (hc : st.length ≤ 4 ∧ (ip_pad [.ref k, v1, v2]).length ≤ ip_ml a ∧ (ip_sh M k).1 = 0 ∧ (ip_sh M k).2.1 = ip_oc a) : ip_wp X y pc ls (v2 :: v1 :: .ref k :: st) M K = ip_wp X a 0 (ip_ent (ip_ml a) [.ref k, v1, v2]) [] M (fun r M1 => ip_wp X y nx ls (r.toList ++ st) M1 K) :=
  wp_call h rfl (by simp) (ip_cw_len (by simpa using hc.1)) (by simpa [ip_rc] using hc.2)
theorem wp_callV1_4 {n : Nat} {k : Nat} {v1 v2 v3 : Value} (h : ip_at y pc = some (.invokevirtual n, nx, a, 4, 1, w, v, ts)) (hc : st.length ≤ 4 ∧ (ip_pad [.ref k, v1, v2, v3]).length ≤ ip_ml a ∧ (ip_sh M k).1 = 0 ∧ (ip_sh M k).2.1 = ip_oc a) : ip_wp X y pc ls (v3 :: v2 :: v1 :: .ref k :: st) M K = ip_wp X a 0 (ip_ent (ip_ml a) [.ref k, v1, v2, v3]) [] M (fun r M1 => ip_wp X y nx ls (r.toList ++ st) M1 K) :=
  wp_call h rfl (by simp) (ip_cw_len (by simpa using hc.1)) (by simpa [ip_rc] using hc.2)
theorem wp_callV1_5 {n : Nat} {k : Nat} {v1 v2 v3 v4 : Value} (h : ip_at y pc = some (.invokevirtual n, nx, a, 5, 1, w, v, ts)) (hc : st.length ≤ 4 ∧ (ip_pad [.ref k, v1, v2, v3, v4]).length ≤ ip_ml a ∧ (ip_sh M k).1 = 0 ∧ (ip_sh M k).2.1 = ip_oc a) : ip_wp X y pc ls (v4 :: v3 :: v2 :: v1 :: .ref k :: st) M K = ip_wp X a 0 (ip_ent (ip_ml a) [.ref k, v1, v2, v3, v4]) [] M (fun r M1 => ip_wp X y nx ls (r.toList ++ st) M1 K) :=
  wp_call h rfl (by simp) (ip_cw_len (by simpa using hc.1)) (by simpa [ip_rc] using hc.2)
theorem wp_callV1_6 {n : Nat} {k : Nat} {v1 v2 v3 v4 v5 : Value} (h : ip_at y pc = some (.invokevirtual n, nx, a, 6, 1, w, v, ts)) (hc : st.length ≤ 4 ∧ (ip_pad [.ref k, v1, v2, v3, v4, v5]).length ≤ ip_ml a ∧ (ip_sh M k).1 = 0 ∧ (ip_sh M k).2.1 = ip_oc a) : ip_wp X y pc ls (v5 :: v4 :: v3 :: v2 :: v1 :: .ref k :: st) M K = ip_wp X a 0 (ip_ent (ip_ml a) [.ref k, v1, v2, v3, v4, v5]) [] M (fun r M1 => ip_wp X y nx ls (r.toList ++ st) M1 K) :=
  wp_call h rfl (by simp) (ip_cw_len (by simpa using hc.1)) (by simpa [ip_rc] using hc.2)
theorem wp_callV1_8 {n : Nat} {k : Nat} {v1 v2 v3 v4 v5 v6 v7 : Value} (h : ip_at y pc = some (.invokevirtual n, nx, a, 8, 1, w, v, ts)) (hc : st.length ≤ 4 ∧ (ip_pad [.ref k, v1, v2, v3, v4, v5, v6, v7]).length ≤ ip_ml a ∧ (ip_sh M k).1 = 0 ∧ (ip_sh M k).2.1 = ip_oc a) : ip_wp X y pc ls (v7 :: v6 :: v5 :: v4 :: v3 :: v2 :: v1 :: .ref k :: st) M K = ip_wp X a 0 (ip_ent (ip_ml a) [.ref k, v1, v2, v3, v4, v5, v6, v7]) [] M (fun r M1 => ip_wp X y nx ls (r.toList ++ st) M1 K) :=
  wp_call h rfl (by simp) (ip_cw_len (by simpa using hc.1)) (by simpa [ip_rc] using hc.2)
theorem wp_callV1_9 {n : Nat} {k : Nat} {v1 v2 v3 v4 v5 v6 v7 v8 : Value} (h : ip_at y pc = some (.invokevirtual n, nx, a, 9, 1, w, v, ts)) (hc : st.length ≤ 4 ∧ (ip_pad [.ref k, v1, v2, v3, v4, v5, v6, v7, v8]).length ≤ ip_ml a ∧ (ip_sh M k).1 = 0 ∧ (ip_sh M k).2.1 = ip_oc a) : ip_wp X y pc ls (v8 :: v7 :: v6 :: v5 :: v4 :: v3 :: v2 :: v1 :: .ref k :: st) M K = ip_wp X a 0 (ip_ent (ip_ml a) [.ref k, v1, v2, v3, v4, v5, v6, v7, v8]) [] M (fun r M1 => ip_wp X y nx ls (r.toList ++ st) M1 K) :=
  wp_call h rfl (by simp) (ip_cw_len (by simpa using hc.1)) (by simpa [ip_rc] using hc.2)
theorem wp_callI2_1 {n : Nat} {k : Nat} (h : ip_at y pc = some (.invokespecial n, nx, a, 1, 2, w, v, ts)) (hc : st.length ≤ 4 ∧ (ip_pad [.ref k]).length ≤ ip_ml a ∧ (ip_sh M k).1 = 0 ∧ (ip_sh M k).2.1 = ip_oc a) : ip_wp X y pc ls (.ref k :: st) M K = ip_wp X a 0 (ip_ent (ip_ml a) [.ref k]) [] M (fun r M1 => ip_wp X y nx ls (r.toList ++ st) M1 K) :=
  wp_call h rfl (by simp) (ip_cw_len (by simpa using hc.1)) (by simpa [ip_rc] using hc.2)
end WP
theorem ip_uI_1 (M : ip_H) (k j : Nat) (x : Int32) : (ip_uI M k j x).1 = M.1 := rfl
theorem ip_uI_I (M : ip_H) (k j : Nat) (x : Int32) (p q : Nat) : (ip_uI M k j x).2.1 p q = if p = k ∧ q = j then x else M.2.1 p q := rfl
theorem ip_uI_L (M : ip_H) (k j : Nat) (x : Int32) : (ip_uI M k j x).2.2.1 = M.2.2.1 := rfl
theorem ip_uI_R (M : ip_H) (k j : Nat) (x : Int32) : (ip_uI M k j x).2.2.2 = M.2.2.2 := rfl
theorem ip_uI_sh (M : ip_H) (k j : Nat) (x : Int32) (p : Nat) : ip_sh (ip_uI M k j x) p = ip_sh M p := rfl
theorem ip_uL_1 (M : ip_H) (k j : Nat) (x : Int64) : (ip_uL M k j x).1 = M.1 := rfl
theorem ip_uL_I (M : ip_H) (k j : Nat) (x : Int64) : (ip_uL M k j x).2.1 = M.2.1 := rfl
theorem ip_uL_L (M : ip_H) (k j : Nat) (x : Int64) (p q : Nat) : (ip_uL M k j x).2.2.1 p q = if p = k ∧ q = j then x else M.2.2.1 p q := rfl
theorem ip_uL_R (M : ip_H) (k j : Nat) (x : Int64) : (ip_uL M k j x).2.2.2 = M.2.2.2 := rfl
theorem ip_uL_sh (M : ip_H) (k j : Nat) (x : Int64) (p : Nat) : ip_sh (ip_uL M k j x) p = ip_sh M p := rfl
theorem ip_get_0 (v : Value) (l : List Value) : ip_get (v :: l) 0 = v := rfl
theorem ip_get_s (v : Value) (l : List Value) (n : Nat) : ip_get (v :: l) (n + 1) = ip_get l n := rfl
theorem ip_clr_0 (ls : List Value) : ip_clr ls 0 = ls := rfl
theorem ip_clr_s (ls : List Value) (j : Nat) : ip_clr ls (j + 1) = if (ip_get ls j).category = 2 then ls.set j (.retAddr 1) else ls := rfl
theorem ip_cat_i (x : Int32) : (Value.int x).category = 1 := rfl
theorem ip_cat_l (x : Int64) : (Value.long x).category = 2 := rfl
theorem ip_cat_r (x : Nat) : (Value.ref x).category = 1 := rfl
theorem ip_cat_a (x : Nat) : (Value.retAddr x).category = 1 := rfl
theorem ip_cmp_lt (x y : Int64) : (lg_cmp x y < 0) = (x < y) := by
  unfold lg_cmp
  by_cases h1 : y < x
  · rw [if_pos h1]; simp [Int64.lt_asymm h1]
  · rw [if_neg h1]
    by_cases h2 : x = y
    · subst h2; simp
    · rw [if_neg h2]
      have : x < y := Int64.lt_of_le_of_ne (Int64.not_lt.mp h1) h2
      simp [this]
theorem ip_cmp_gt (x y : Int64) : (0 < lg_cmp x y) = (y < x) := by
  unfold lg_cmp
  by_cases h1 : y < x
  · rw [if_pos h1]; simp [h1]
  · rw [if_neg h1]
    by_cases h2 : x = y
    · subst h2; simp
    · rw [if_neg h2]; simp [h1]
theorem ip_cmp_eq (x y : Int64) : (lg_cmp x y = 0) = (x = y) := by
  unfold lg_cmp
  by_cases h1 : y < x
  · rw [if_pos h1]
    have : ¬ x = y := fun q => by subst q; exact Int64.lt_irrefl h1
    simp [this]
  · rw [if_neg h1]
    by_cases h2 : x = y
    · subst h2; simp
    · rw [if_neg h2]; simp [h2]
end
noncomputable section
-- PART 18.lk
-- LOOK-UPS by place: a list of entries the numbers of which rise
def lk_s : Nat → List (Nat × ip_E) → Bool
  | _, [] => true
  | n, a :: l => Nat.ble n a.1 && lk_s (a.1 + 1) l
theorem lk_ge : ∀ {l : List (Nat × ip_E)} {n : Nat}, lk_s n l = true → ∀ {pc : Nat} {e : ip_E}, (pc, e) ∈ l → n ≤ pc := by
  intro l
  induction l with
  | nil =>
    intro n h pc e hm
    cases hm
  | cons a l ih =>
    intro n h pc e hm
    rw [show lk_s n (a :: l) = (Nat.ble n a.1 && lk_s (a.1 + 1) l) from rfl, Bool.and_eq_true] at h
    have h1 := Nat.le_of_ble_eq_true h.1
    rcases List.mem_cons.mp hm with q | q
    · rw [← q] at h1
      exact h1
    · have h2 := ih h.2 q
      omega
theorem lk_of : ∀ {l : List (Nat × ip_E)} {n : Nat}, lk_s n l = true → ∀ {k pc : Nat} {e : ip_E}, l[k]? = some (pc, e) → l.lookup pc = some e := by
  intro l
  induction l with
  | nil =>
    intro n h k pc e hk
    cases hk
  | cons a l ih =>
    intro n h k pc e hk
    rw [show lk_s n (a :: l) = (Nat.ble n a.1 && lk_s (a.1 + 1) l) from rfl, Bool.and_eq_true] at h
    cases k with
    | zero =>
      have q : a = (pc, e) := Option.some.inj hk
      subst q
      exact List.lookup_cons_self
    | succ k =>
      have q : l[k]? = some (pc, e) := hk
      have m := lk_ge h.2 (List.mem_of_getElem? q)
      obtain ⟨x, y⟩ := a
      have ne : (pc == x) = false := by
        rw [beq_eq_false_iff_ne]
        dsimp only at m
        omega
      rw [List.lookup_cons, ne]
      exact ih h.2 q
theorem lk_apl {a b : List (Nat × ip_E)} {k : Nat} {p : Nat × ip_E} (h : a[k]? = some p) : (a ++ b)[k]? = some p := by
  obtain ⟨hk, -⟩ := List.getElem?_eq_some_iff.mp h
  rw [List.getElem?_append_left hk]
  exact h
theorem lk_app {a b : List (Nat × ip_E)} {k n : Nat} {p : Nat × ip_E} (hn : a.length = n) (h : b[k]? = some p) : (a ++ b)[n + k]? = some p := by
  rw [List.getElem?_append_right (by omega), ← hn, Nat.add_sub_cancel_left]
  exact h
end
noncomputable section
-- PART 19.graph
-- THE CELLS behind the two constructors: shapes and references
def ip_SH : List (Nat × Nat × Nat) := [(0, 10, 14), (0, 2, 5), (0, 4, 1), (1, 1, 9), (0, 8, 4), (1, 4, 6), (0, 1, 15), (1, 0, 610), (1, 2, 61), (0, 4, 1), (1, 1, 9), (0, 4, 1), (1, 1, 9), (0, 8, 4), (0, 8, 4), (0, 8, 4), (0, 8, 4), (0, 9, 2), (1, 2, 120), (0, 6, 5), (1, 2, 200), (0, 9, 2), (1, 2, 120), (0, 3, 6), (1, 5, 8), (1, 0, 8), (1, 5, 2), (1, 3, 2), (0, 5, 8), (1, 0, 24), (0, 9, 2), (1, 2, 120), (1, 0, 8), (0, 5, 8), (1, 0, 24), (0, 9, 2), (1, 2, 120), (1, 0, 8), (0, 5, 8), (1, 0, 24), (0, 9, 2), (1, 2, 120), (1, 0, 8), (0, 5, 8), (1, 0, 24), (0, 9, 2), (1, 2, 120), (1, 0, 8), (0, 5, 8), (1, 0, 24), (0, 9, 2), (1, 2, 120), (1, 0, 8), (0, 5, 8), (1, 0, 24), (0, 9, 2), (1, 2, 120), (1, 0, 8), (0, 5, 8), (1, 0, 24), (0, 9, 2), (1, 2, 120), (1, 0, 8), (0, 5, 8), (1, 0, 24), (0, 9, 2), (1, 2, 120), (1, 0, 8), (0, 5, 8), (1, 0, 24), (0, 9, 2), (1, 2, 120), (1, 0, 8), (0, 5, 8), (1, 0, 24), (0, 9, 2), (1, 2, 120), (1, 0, 8), (0, 7, 2), (1, 0, 6), (0, 1, 15), (1, 0, 610), (1, 2, 61), (0, 4, 1), (1, 1, 9), (0, 4, 1), (1, 1, 9), (0, 8, 4), (0, 8, 4), (0, 8, 4), (0, 8, 4), (0, 2, 5), (0, 4, 1), (1, 1, 9), (0, 8, 4), (0, 4, 1), (1, 1, 9), (0, 0, 2), (1, 1, 8), (1, 0, 4), (0, 8, 4), (0, 8, 4), (0, 8, 4), (0, 8, 4), (0, 8, 4), (0, 8, 4), (0, 8, 4), (0, 8, 4), (0, 11, 48), (1, 0, 821), (1, 1, 9), (1, 0, 7), (1, 0, 6568), (1, 0, 8), (1, 0, 1642), (1, 1, 72), (1, 1, 18), (1, 3, 2), (1, 1, 9), (1, 0, 8), (1, 0, 200), (1, 0, 120), (1, 1, 200), (1, 1, 9), (1, 0, 4), (1, 0, 4), (1, 0, 821), (1, 1, 9)]
def ip_rfl : List (Nat × Nat × Nat) := [(0, 0, 1), (0, 1, 5), (0, 2, 6), (0, 3, 17), (0, 4, 19), (0, 5, 23), (0, 6, 78), (0, 8, 80), (0, 9, 91), (0, 10, 95), (0, 11, 97), (0, 12, 100), (0, 13, 101), (1, 3, 2), (1, 4, 4), (2, 0, 3), (5, 0, 102), (5, 1, 103), (5, 2, 104), (5, 3, 105), (5, 4, 106), (5, 5, 107), (6, 0, 7), (6, 1, 8), (6, 2, 9), (6, 7, 11), (6, 8, 13), (6, 9, 14), (6, 10, 15), (6, 11, 16), (9, 0, 10), (11, 0, 12), (17, 0, 18), (19, 0, 20), (19, 1, 21), (21, 0, 22), (23, 0, 24), (23, 1, 25), (23, 2, 26), (23, 3, 27), (24, 0, 28), (24, 1, 33), (24, 2, 38), (24, 3, 43), (24, 4, 48), (24, 5, 53), (24, 6, 58), (24, 7, 63), (26, 0, 68), (26, 1, 73), (28, 3, 29), (28, 4, 30), (28, 5, 32), (30, 0, 31), (33, 3, 34), (33, 4, 35), (33, 5, 37), (35, 0, 36), (38, 3, 39), (38, 4, 40), (38, 5, 42), (40, 0, 41), (43, 3, 44), (43, 4, 45), (43, 5, 47), (45, 0, 46), (48, 3, 49), (48, 4, 50), (48, 5, 52), (50, 0, 51), (53, 3, 54), (53, 4, 55), (53, 5, 57), (55, 0, 56), (58, 3, 59), (58, 4, 60), (58, 5, 62), (60, 0, 61), (63, 3, 64), (63, 4, 65), (63, 5, 67), (65, 0, 66), (68, 3, 69), (68, 4, 70), (68, 5, 72), (70, 0, 71), (73, 3, 74), (73, 4, 75), (73, 5, 77), (75, 0, 76), (78, 0, 79), (80, 0, 81), (80, 1, 82), (80, 2, 83), (80, 7, 85), (80, 8, 87), (80, 9, 88), (80, 10, 89), (80, 11, 90), (83, 0, 84), (85, 0, 86), (91, 3, 92), (91, 4, 94), (92, 0, 93), (95, 0, 96), (97, 0, 98), (97, 1, 99), (108, 1, 109), (108, 2, 110), (108, 5, 111), (108, 6, 112), (108, 7, 113), (108, 8, 114), (108, 9, 115), (108, 10, 116), (108, 11, 117), (108, 28, 118), (108, 30, 119), (108, 31, 120), (108, 39, 121), (108, 42, 122), (108, 43, 123), (108, 44, 124), (108, 45, 125), (108, 46, 126), (108, 47, 127)]
def ip_rf0 (k j : Nat) : Option Nat := (ip_rfl.find? fun q => q.1 == k && q.2.1 == j).map fun q => q.2.2
def ip_G (M : ip_H) : Prop := M.1 = ip_SH ∧ ∀ k j, k < 128 → j < 48 → (ip_rf0 k j).isSome = true → M.2.2.2 k j = ip_rf0 k j
theorem ip_gr {M : ip_H} (h : ip_G M) {k j v : Nat} (hk : k < 128) (hj : j < 48) (e : ip_rf0 k j = some v) : M.2.2.2 k j = some v := (h.2 k j hk hj (by rw [e]; rfl)).trans e
theorem gS_0 {M : ip_H} (h : ip_G M) : ip_sh M 0 = (0, 10, 14) := by unfold ip_sh; rw [h.1]; rfl
theorem gS_1 {M : ip_H} (h : ip_G M) : ip_sh M 1 = (0, 2, 5) := by unfold ip_sh; rw [h.1]; rfl
theorem gS_2 {M : ip_H} (h : ip_G M) : ip_sh M 2 = (0, 4, 1) := by unfold ip_sh; rw [h.1]; rfl
theorem gS_3 {M : ip_H} (h : ip_G M) : ip_sh M 3 = (1, 1, 9) := by unfold ip_sh; rw [h.1]; rfl
theorem gS_5 {M : ip_H} (h : ip_G M) : ip_sh M 5 = (1, 4, 6) := by unfold ip_sh; rw [h.1]; rfl
theorem gS_6 {M : ip_H} (h : ip_G M) : ip_sh M 6 = (0, 1, 15) := by unfold ip_sh; rw [h.1]; rfl
theorem gS_7 {M : ip_H} (h : ip_G M) : ip_sh M 7 = (1, 0, 610) := by unfold ip_sh; rw [h.1]; rfl
theorem gS_8 {M : ip_H} (h : ip_G M) : ip_sh M 8 = (1, 2, 61) := by unfold ip_sh; rw [h.1]; rfl
theorem gS_9 {M : ip_H} (h : ip_G M) : ip_sh M 9 = (0, 4, 1) := by unfold ip_sh; rw [h.1]; rfl
theorem gS_10 {M : ip_H} (h : ip_G M) : ip_sh M 10 = (1, 1, 9) := by unfold ip_sh; rw [h.1]; rfl
theorem gS_11 {M : ip_H} (h : ip_G M) : ip_sh M 11 = (0, 4, 1) := by unfold ip_sh; rw [h.1]; rfl
theorem gS_12 {M : ip_H} (h : ip_G M) : ip_sh M 12 = (1, 1, 9) := by unfold ip_sh; rw [h.1]; rfl
theorem gS_13 {M : ip_H} (h : ip_G M) : ip_sh M 13 = (0, 8, 4) := by unfold ip_sh; rw [h.1]; rfl
theorem gS_14 {M : ip_H} (h : ip_G M) : ip_sh M 14 = (0, 8, 4) := by unfold ip_sh; rw [h.1]; rfl
theorem gS_15 {M : ip_H} (h : ip_G M) : ip_sh M 15 = (0, 8, 4) := by unfold ip_sh; rw [h.1]; rfl
theorem gS_16 {M : ip_H} (h : ip_G M) : ip_sh M 16 = (0, 8, 4) := by unfold ip_sh; rw [h.1]; rfl
theorem gS_17 {M : ip_H} (h : ip_G M) : ip_sh M 17 = (0, 9, 2) := by unfold ip_sh; rw [h.1]; rfl
theorem gS_18 {M : ip_H} (h : ip_G M) : ip_sh M 18 = (1, 2, 120) := by unfold ip_sh; rw [h.1]; rfl
theorem gS_19 {M : ip_H} (h : ip_G M) : ip_sh M 19 = (0, 6, 5) := by unfold ip_sh; rw [h.1]; rfl
theorem gS_20 {M : ip_H} (h : ip_G M) : ip_sh M 20 = (1, 2, 200) := by unfold ip_sh; rw [h.1]; rfl
theorem gS_21 {M : ip_H} (h : ip_G M) : ip_sh M 21 = (0, 9, 2) := by unfold ip_sh; rw [h.1]; rfl
theorem gS_22 {M : ip_H} (h : ip_G M) : ip_sh M 22 = (1, 2, 120) := by unfold ip_sh; rw [h.1]; rfl
theorem gS_23 {M : ip_H} (h : ip_G M) : ip_sh M 23 = (0, 3, 6) := by unfold ip_sh; rw [h.1]; rfl
theorem gS_24 {M : ip_H} (h : ip_G M) : ip_sh M 24 = (1, 5, 8) := by unfold ip_sh; rw [h.1]; rfl
theorem gS_25 {M : ip_H} (h : ip_G M) : ip_sh M 25 = (1, 0, 8) := by unfold ip_sh; rw [h.1]; rfl
theorem gS_26 {M : ip_H} (h : ip_G M) : ip_sh M 26 = (1, 5, 2) := by unfold ip_sh; rw [h.1]; rfl
theorem gS_27 {M : ip_H} (h : ip_G M) : ip_sh M 27 = (1, 3, 2) := by unfold ip_sh; rw [h.1]; rfl
theorem gS_28 {M : ip_H} (h : ip_G M) : ip_sh M 28 = (0, 5, 8) := by unfold ip_sh; rw [h.1]; rfl
theorem gS_29 {M : ip_H} (h : ip_G M) : ip_sh M 29 = (1, 0, 24) := by unfold ip_sh; rw [h.1]; rfl
theorem gS_30 {M : ip_H} (h : ip_G M) : ip_sh M 30 = (0, 9, 2) := by unfold ip_sh; rw [h.1]; rfl
theorem gS_31 {M : ip_H} (h : ip_G M) : ip_sh M 31 = (1, 2, 120) := by unfold ip_sh; rw [h.1]; rfl
theorem gS_32 {M : ip_H} (h : ip_G M) : ip_sh M 32 = (1, 0, 8) := by unfold ip_sh; rw [h.1]; rfl
theorem gS_33 {M : ip_H} (h : ip_G M) : ip_sh M 33 = (0, 5, 8) := by unfold ip_sh; rw [h.1]; rfl
theorem gS_34 {M : ip_H} (h : ip_G M) : ip_sh M 34 = (1, 0, 24) := by unfold ip_sh; rw [h.1]; rfl
theorem gS_35 {M : ip_H} (h : ip_G M) : ip_sh M 35 = (0, 9, 2) := by unfold ip_sh; rw [h.1]; rfl
theorem gS_36 {M : ip_H} (h : ip_G M) : ip_sh M 36 = (1, 2, 120) := by unfold ip_sh; rw [h.1]; rfl
theorem gS_37 {M : ip_H} (h : ip_G M) : ip_sh M 37 = (1, 0, 8) := by unfold ip_sh; rw [h.1]; rfl
theorem gS_38 {M : ip_H} (h : ip_G M) : ip_sh M 38 = (0, 5, 8) := by unfold ip_sh; rw [h.1]; rfl
theorem gS_39 {M : ip_H} (h : ip_G M) : ip_sh M 39 = (1, 0, 24) := by unfold ip_sh; rw [h.1]; rfl
theorem gS_40 {M : ip_H} (h : ip_G M) : ip_sh M 40 = (0, 9, 2) := by unfold ip_sh; rw [h.1]; rfl
theorem gS_41 {M : ip_H} (h : ip_G M) : ip_sh M 41 = (1, 2, 120) := by unfold ip_sh; rw [h.1]; rfl
theorem gS_42 {M : ip_H} (h : ip_G M) : ip_sh M 42 = (1, 0, 8) := by unfold ip_sh; rw [h.1]; rfl
theorem gS_43 {M : ip_H} (h : ip_G M) : ip_sh M 43 = (0, 5, 8) := by unfold ip_sh; rw [h.1]; rfl
theorem gS_44 {M : ip_H} (h : ip_G M) : ip_sh M 44 = (1, 0, 24) := by unfold ip_sh; rw [h.1]; rfl
theorem gS_45 {M : ip_H} (h : ip_G M) : ip_sh M 45 = (0, 9, 2) := by unfold ip_sh; rw [h.1]; rfl
theorem gS_46 {M : ip_H} (h : ip_G M) : ip_sh M 46 = (1, 2, 120) := by unfold ip_sh; rw [h.1]; rfl
theorem gS_47 {M : ip_H} (h : ip_G M) : ip_sh M 47 = (1, 0, 8) := by unfold ip_sh; rw [h.1]; rfl
theorem gS_48 {M : ip_H} (h : ip_G M) : ip_sh M 48 = (0, 5, 8) := by unfold ip_sh; rw [h.1]; rfl
theorem gS_49 {M : ip_H} (h : ip_G M) : ip_sh M 49 = (1, 0, 24) := by unfold ip_sh; rw [h.1]; rfl
theorem gS_50 {M : ip_H} (h : ip_G M) : ip_sh M 50 = (0, 9, 2) := by unfold ip_sh; rw [h.1]; rfl
theorem gS_51 {M : ip_H} (h : ip_G M) : ip_sh M 51 = (1, 2, 120) := by unfold ip_sh; rw [h.1]; rfl
theorem gS_52 {M : ip_H} (h : ip_G M) : ip_sh M 52 = (1, 0, 8) := by unfold ip_sh; rw [h.1]; rfl
theorem gS_53 {M : ip_H} (h : ip_G M) : ip_sh M 53 = (0, 5, 8) := by unfold ip_sh; rw [h.1]; rfl
theorem gS_54 {M : ip_H} (h : ip_G M) : ip_sh M 54 = (1, 0, 24) := by unfold ip_sh; rw [h.1]; rfl
theorem gS_55 {M : ip_H} (h : ip_G M) : ip_sh M 55 = (0, 9, 2) := by unfold ip_sh; rw [h.1]; rfl
theorem gS_56 {M : ip_H} (h : ip_G M) : ip_sh M 56 = (1, 2, 120) := by unfold ip_sh; rw [h.1]; rfl
theorem gS_57 {M : ip_H} (h : ip_G M) : ip_sh M 57 = (1, 0, 8) := by unfold ip_sh; rw [h.1]; rfl
theorem gS_58 {M : ip_H} (h : ip_G M) : ip_sh M 58 = (0, 5, 8) := by unfold ip_sh; rw [h.1]; rfl
theorem gS_59 {M : ip_H} (h : ip_G M) : ip_sh M 59 = (1, 0, 24) := by unfold ip_sh; rw [h.1]; rfl
theorem gS_60 {M : ip_H} (h : ip_G M) : ip_sh M 60 = (0, 9, 2) := by unfold ip_sh; rw [h.1]; rfl
theorem gS_61 {M : ip_H} (h : ip_G M) : ip_sh M 61 = (1, 2, 120) := by unfold ip_sh; rw [h.1]; rfl
theorem gS_62 {M : ip_H} (h : ip_G M) : ip_sh M 62 = (1, 0, 8) := by unfold ip_sh; rw [h.1]; rfl
theorem gS_63 {M : ip_H} (h : ip_G M) : ip_sh M 63 = (0, 5, 8) := by unfold ip_sh; rw [h.1]; rfl
theorem gS_64 {M : ip_H} (h : ip_G M) : ip_sh M 64 = (1, 0, 24) := by unfold ip_sh; rw [h.1]; rfl
theorem gS_65 {M : ip_H} (h : ip_G M) : ip_sh M 65 = (0, 9, 2) := by unfold ip_sh; rw [h.1]; rfl
theorem gS_66 {M : ip_H} (h : ip_G M) : ip_sh M 66 = (1, 2, 120) := by unfold ip_sh; rw [h.1]; rfl
theorem gS_67 {M : ip_H} (h : ip_G M) : ip_sh M 67 = (1, 0, 8) := by unfold ip_sh; rw [h.1]; rfl
theorem gS_68 {M : ip_H} (h : ip_G M) : ip_sh M 68 = (0, 5, 8) := by unfold ip_sh; rw [h.1]; rfl
theorem gS_69 {M : ip_H} (h : ip_G M) : ip_sh M 69 = (1, 0, 24) := by unfold ip_sh; rw [h.1]; rfl
theorem gS_70 {M : ip_H} (h : ip_G M) : ip_sh M 70 = (0, 9, 2) := by unfold ip_sh; rw [h.1]; rfl
theorem gS_71 {M : ip_H} (h : ip_G M) : ip_sh M 71 = (1, 2, 120) := by unfold ip_sh; rw [h.1]; rfl
theorem gS_72 {M : ip_H} (h : ip_G M) : ip_sh M 72 = (1, 0, 8) := by unfold ip_sh; rw [h.1]; rfl
theorem gS_73 {M : ip_H} (h : ip_G M) : ip_sh M 73 = (0, 5, 8) := by unfold ip_sh; rw [h.1]; rfl
theorem gS_74 {M : ip_H} (h : ip_G M) : ip_sh M 74 = (1, 0, 24) := by unfold ip_sh; rw [h.1]; rfl
theorem gS_75 {M : ip_H} (h : ip_G M) : ip_sh M 75 = (0, 9, 2) := by unfold ip_sh; rw [h.1]; rfl
theorem gS_76 {M : ip_H} (h : ip_G M) : ip_sh M 76 = (1, 2, 120) := by unfold ip_sh; rw [h.1]; rfl
theorem gS_77 {M : ip_H} (h : ip_G M) : ip_sh M 77 = (1, 0, 8) := by unfold ip_sh; rw [h.1]; rfl
theorem gS_78 {M : ip_H} (h : ip_G M) : ip_sh M 78 = (0, 7, 2) := by unfold ip_sh; rw [h.1]; rfl
theorem gS_79 {M : ip_H} (h : ip_G M) : ip_sh M 79 = (1, 0, 6) := by unfold ip_sh; rw [h.1]; rfl
theorem gS_91 {M : ip_H} (h : ip_G M) : ip_sh M 91 = (0, 2, 5) := by unfold ip_sh; rw [h.1]; rfl
theorem gS_92 {M : ip_H} (h : ip_G M) : ip_sh M 92 = (0, 4, 1) := by unfold ip_sh; rw [h.1]; rfl
theorem gS_93 {M : ip_H} (h : ip_G M) : ip_sh M 93 = (1, 1, 9) := by unfold ip_sh; rw [h.1]; rfl
theorem gS_94 {M : ip_H} (h : ip_G M) : ip_sh M 94 = (0, 8, 4) := by unfold ip_sh; rw [h.1]; rfl
theorem gS_95 {M : ip_H} (h : ip_G M) : ip_sh M 95 = (0, 4, 1) := by unfold ip_sh; rw [h.1]; rfl
theorem gS_96 {M : ip_H} (h : ip_G M) : ip_sh M 96 = (1, 1, 9) := by unfold ip_sh; rw [h.1]; rfl
theorem gS_100 {M : ip_H} (h : ip_G M) : ip_sh M 100 = (0, 8, 4) := by unfold ip_sh; rw [h.1]; rfl
theorem gS_101 {M : ip_H} (h : ip_G M) : ip_sh M 101 = (0, 8, 4) := by unfold ip_sh; rw [h.1]; rfl
theorem gS_102 {M : ip_H} (h : ip_G M) : ip_sh M 102 = (0, 8, 4) := by unfold ip_sh; rw [h.1]; rfl
theorem gS_103 {M : ip_H} (h : ip_G M) : ip_sh M 103 = (0, 8, 4) := by unfold ip_sh; rw [h.1]; rfl
theorem gS_104 {M : ip_H} (h : ip_G M) : ip_sh M 104 = (0, 8, 4) := by unfold ip_sh; rw [h.1]; rfl
theorem gS_105 {M : ip_H} (h : ip_G M) : ip_sh M 105 = (0, 8, 4) := by unfold ip_sh; rw [h.1]; rfl
theorem gS_106 {M : ip_H} (h : ip_G M) : ip_sh M 106 = (0, 8, 4) := by unfold ip_sh; rw [h.1]; rfl
theorem gS_107 {M : ip_H} (h : ip_G M) : ip_sh M 107 = (0, 8, 4) := by unfold ip_sh; rw [h.1]; rfl
theorem gS_108 {M : ip_H} (h : ip_G M) : ip_sh M 108 = (0, 11, 48) := by unfold ip_sh; rw [h.1]; rfl
theorem gS_109 {M : ip_H} (h : ip_G M) : ip_sh M 109 = (1, 0, 821) := by unfold ip_sh; rw [h.1]; rfl
theorem gS_110 {M : ip_H} (h : ip_G M) : ip_sh M 110 = (1, 1, 9) := by unfold ip_sh; rw [h.1]; rfl
theorem gS_111 {M : ip_H} (h : ip_G M) : ip_sh M 111 = (1, 0, 7) := by unfold ip_sh; rw [h.1]; rfl
theorem gS_112 {M : ip_H} (h : ip_G M) : ip_sh M 112 = (1, 0, 6568) := by unfold ip_sh; rw [h.1]; rfl
theorem gS_113 {M : ip_H} (h : ip_G M) : ip_sh M 113 = (1, 0, 8) := by unfold ip_sh; rw [h.1]; rfl
theorem gS_114 {M : ip_H} (h : ip_G M) : ip_sh M 114 = (1, 0, 1642) := by unfold ip_sh; rw [h.1]; rfl
theorem gS_115 {M : ip_H} (h : ip_G M) : ip_sh M 115 = (1, 1, 72) := by unfold ip_sh; rw [h.1]; rfl
theorem gS_116 {M : ip_H} (h : ip_G M) : ip_sh M 116 = (1, 1, 18) := by unfold ip_sh; rw [h.1]; rfl
theorem gS_117 {M : ip_H} (h : ip_G M) : ip_sh M 117 = (1, 3, 2) := by unfold ip_sh; rw [h.1]; rfl
theorem gS_118 {M : ip_H} (h : ip_G M) : ip_sh M 118 = (1, 1, 9) := by unfold ip_sh; rw [h.1]; rfl
theorem gS_119 {M : ip_H} (h : ip_G M) : ip_sh M 119 = (1, 0, 8) := by unfold ip_sh; rw [h.1]; rfl
theorem gS_120 {M : ip_H} (h : ip_G M) : ip_sh M 120 = (1, 0, 200) := by unfold ip_sh; rw [h.1]; rfl
theorem gS_121 {M : ip_H} (h : ip_G M) : ip_sh M 121 = (1, 0, 120) := by unfold ip_sh; rw [h.1]; rfl
theorem gS_122 {M : ip_H} (h : ip_G M) : ip_sh M 122 = (1, 1, 200) := by unfold ip_sh; rw [h.1]; rfl
theorem gS_123 {M : ip_H} (h : ip_G M) : ip_sh M 123 = (1, 1, 9) := by unfold ip_sh; rw [h.1]; rfl
theorem gS_124 {M : ip_H} (h : ip_G M) : ip_sh M 124 = (1, 0, 4) := by unfold ip_sh; rw [h.1]; rfl
theorem gS_125 {M : ip_H} (h : ip_G M) : ip_sh M 125 = (1, 0, 4) := by unfold ip_sh; rw [h.1]; rfl
theorem gS_126 {M : ip_H} (h : ip_G M) : ip_sh M 126 = (1, 0, 821) := by unfold ip_sh; rw [h.1]; rfl
theorem gS_127 {M : ip_H} (h : ip_G M) : ip_sh M 127 = (1, 1, 9) := by unfold ip_sh; rw [h.1]; rfl
theorem gR_0_0 {M : ip_H} (h : ip_G M) : M.2.2.2 0 0 = some 1 := ip_gr h (by decide) (by decide) rfl
theorem gR_0_1 {M : ip_H} (h : ip_G M) : M.2.2.2 0 1 = some 5 := ip_gr h (by decide) (by decide) rfl
theorem gR_0_2 {M : ip_H} (h : ip_G M) : M.2.2.2 0 2 = some 6 := ip_gr h (by decide) (by decide) rfl
theorem gR_0_3 {M : ip_H} (h : ip_G M) : M.2.2.2 0 3 = some 17 := ip_gr h (by decide) (by decide) rfl
theorem gR_0_4 {M : ip_H} (h : ip_G M) : M.2.2.2 0 4 = some 19 := ip_gr h (by decide) (by decide) rfl
theorem gR_0_5 {M : ip_H} (h : ip_G M) : M.2.2.2 0 5 = some 23 := ip_gr h (by decide) (by decide) rfl
theorem gR_0_6 {M : ip_H} (h : ip_G M) : M.2.2.2 0 6 = some 78 := ip_gr h (by decide) (by decide) rfl
theorem gR_0_9 {M : ip_H} (h : ip_G M) : M.2.2.2 0 9 = some 91 := ip_gr h (by decide) (by decide) rfl
theorem gR_0_10 {M : ip_H} (h : ip_G M) : M.2.2.2 0 10 = some 95 := ip_gr h (by decide) (by decide) rfl
theorem gR_0_11 {M : ip_H} (h : ip_G M) : M.2.2.2 0 11 = some 97 := ip_gr h (by decide) (by decide) rfl
theorem gR_0_12 {M : ip_H} (h : ip_G M) : M.2.2.2 0 12 = some 100 := ip_gr h (by decide) (by decide) rfl
theorem gR_0_13 {M : ip_H} (h : ip_G M) : M.2.2.2 0 13 = some 101 := ip_gr h (by decide) (by decide) rfl
theorem gR_1_3 {M : ip_H} (h : ip_G M) : M.2.2.2 1 3 = some 2 := ip_gr h (by decide) (by decide) rfl
theorem gR_2_0 {M : ip_H} (h : ip_G M) : M.2.2.2 2 0 = some 3 := ip_gr h (by decide) (by decide) rfl
theorem gR_5_0 {M : ip_H} (h : ip_G M) : M.2.2.2 5 0 = some 102 := ip_gr h (by decide) (by decide) rfl
theorem gR_5_1 {M : ip_H} (h : ip_G M) : M.2.2.2 5 1 = some 103 := ip_gr h (by decide) (by decide) rfl
theorem gR_5_2 {M : ip_H} (h : ip_G M) : M.2.2.2 5 2 = some 104 := ip_gr h (by decide) (by decide) rfl
theorem gR_5_3 {M : ip_H} (h : ip_G M) : M.2.2.2 5 3 = some 105 := ip_gr h (by decide) (by decide) rfl
theorem gR_5_4 {M : ip_H} (h : ip_G M) : M.2.2.2 5 4 = some 106 := ip_gr h (by decide) (by decide) rfl
theorem gR_5_5 {M : ip_H} (h : ip_G M) : M.2.2.2 5 5 = some 107 := ip_gr h (by decide) (by decide) rfl
theorem gR_6_0 {M : ip_H} (h : ip_G M) : M.2.2.2 6 0 = some 7 := ip_gr h (by decide) (by decide) rfl
theorem gR_6_1 {M : ip_H} (h : ip_G M) : M.2.2.2 6 1 = some 8 := ip_gr h (by decide) (by decide) rfl
theorem gR_6_2 {M : ip_H} (h : ip_G M) : M.2.2.2 6 2 = some 9 := ip_gr h (by decide) (by decide) rfl
theorem gR_6_7 {M : ip_H} (h : ip_G M) : M.2.2.2 6 7 = some 11 := ip_gr h (by decide) (by decide) rfl
theorem gR_6_8 {M : ip_H} (h : ip_G M) : M.2.2.2 6 8 = some 13 := ip_gr h (by decide) (by decide) rfl
theorem gR_6_9 {M : ip_H} (h : ip_G M) : M.2.2.2 6 9 = some 14 := ip_gr h (by decide) (by decide) rfl
theorem gR_6_10 {M : ip_H} (h : ip_G M) : M.2.2.2 6 10 = some 15 := ip_gr h (by decide) (by decide) rfl
theorem gR_6_11 {M : ip_H} (h : ip_G M) : M.2.2.2 6 11 = some 16 := ip_gr h (by decide) (by decide) rfl
theorem gR_9_0 {M : ip_H} (h : ip_G M) : M.2.2.2 9 0 = some 10 := ip_gr h (by decide) (by decide) rfl
theorem gR_11_0 {M : ip_H} (h : ip_G M) : M.2.2.2 11 0 = some 12 := ip_gr h (by decide) (by decide) rfl
theorem gR_17_0 {M : ip_H} (h : ip_G M) : M.2.2.2 17 0 = some 18 := ip_gr h (by decide) (by decide) rfl
theorem gR_19_0 {M : ip_H} (h : ip_G M) : M.2.2.2 19 0 = some 20 := ip_gr h (by decide) (by decide) rfl
theorem gR_19_1 {M : ip_H} (h : ip_G M) : M.2.2.2 19 1 = some 21 := ip_gr h (by decide) (by decide) rfl
theorem gR_21_0 {M : ip_H} (h : ip_G M) : M.2.2.2 21 0 = some 22 := ip_gr h (by decide) (by decide) rfl
theorem gR_23_0 {M : ip_H} (h : ip_G M) : M.2.2.2 23 0 = some 24 := ip_gr h (by decide) (by decide) rfl
theorem gR_23_1 {M : ip_H} (h : ip_G M) : M.2.2.2 23 1 = some 25 := ip_gr h (by decide) (by decide) rfl
theorem gR_23_2 {M : ip_H} (h : ip_G M) : M.2.2.2 23 2 = some 26 := ip_gr h (by decide) (by decide) rfl
theorem gR_23_3 {M : ip_H} (h : ip_G M) : M.2.2.2 23 3 = some 27 := ip_gr h (by decide) (by decide) rfl
theorem gR_24_0 {M : ip_H} (h : ip_G M) : M.2.2.2 24 0 = some 28 := ip_gr h (by decide) (by decide) rfl
theorem gR_24_1 {M : ip_H} (h : ip_G M) : M.2.2.2 24 1 = some 33 := ip_gr h (by decide) (by decide) rfl
theorem gR_24_2 {M : ip_H} (h : ip_G M) : M.2.2.2 24 2 = some 38 := ip_gr h (by decide) (by decide) rfl
theorem gR_24_3 {M : ip_H} (h : ip_G M) : M.2.2.2 24 3 = some 43 := ip_gr h (by decide) (by decide) rfl
theorem gR_24_4 {M : ip_H} (h : ip_G M) : M.2.2.2 24 4 = some 48 := ip_gr h (by decide) (by decide) rfl
theorem gR_24_5 {M : ip_H} (h : ip_G M) : M.2.2.2 24 5 = some 53 := ip_gr h (by decide) (by decide) rfl
theorem gR_24_6 {M : ip_H} (h : ip_G M) : M.2.2.2 24 6 = some 58 := ip_gr h (by decide) (by decide) rfl
theorem gR_24_7 {M : ip_H} (h : ip_G M) : M.2.2.2 24 7 = some 63 := ip_gr h (by decide) (by decide) rfl
theorem gR_26_0 {M : ip_H} (h : ip_G M) : M.2.2.2 26 0 = some 68 := ip_gr h (by decide) (by decide) rfl
theorem gR_26_1 {M : ip_H} (h : ip_G M) : M.2.2.2 26 1 = some 73 := ip_gr h (by decide) (by decide) rfl
theorem gR_28_3 {M : ip_H} (h : ip_G M) : M.2.2.2 28 3 = some 29 := ip_gr h (by decide) (by decide) rfl
theorem gR_28_4 {M : ip_H} (h : ip_G M) : M.2.2.2 28 4 = some 30 := ip_gr h (by decide) (by decide) rfl
theorem gR_28_5 {M : ip_H} (h : ip_G M) : M.2.2.2 28 5 = some 32 := ip_gr h (by decide) (by decide) rfl
theorem gR_30_0 {M : ip_H} (h : ip_G M) : M.2.2.2 30 0 = some 31 := ip_gr h (by decide) (by decide) rfl
theorem gR_33_3 {M : ip_H} (h : ip_G M) : M.2.2.2 33 3 = some 34 := ip_gr h (by decide) (by decide) rfl
theorem gR_33_4 {M : ip_H} (h : ip_G M) : M.2.2.2 33 4 = some 35 := ip_gr h (by decide) (by decide) rfl
theorem gR_33_5 {M : ip_H} (h : ip_G M) : M.2.2.2 33 5 = some 37 := ip_gr h (by decide) (by decide) rfl
theorem gR_35_0 {M : ip_H} (h : ip_G M) : M.2.2.2 35 0 = some 36 := ip_gr h (by decide) (by decide) rfl
theorem gR_38_3 {M : ip_H} (h : ip_G M) : M.2.2.2 38 3 = some 39 := ip_gr h (by decide) (by decide) rfl
theorem gR_38_4 {M : ip_H} (h : ip_G M) : M.2.2.2 38 4 = some 40 := ip_gr h (by decide) (by decide) rfl
theorem gR_38_5 {M : ip_H} (h : ip_G M) : M.2.2.2 38 5 = some 42 := ip_gr h (by decide) (by decide) rfl
theorem gR_40_0 {M : ip_H} (h : ip_G M) : M.2.2.2 40 0 = some 41 := ip_gr h (by decide) (by decide) rfl
theorem gR_43_3 {M : ip_H} (h : ip_G M) : M.2.2.2 43 3 = some 44 := ip_gr h (by decide) (by decide) rfl
theorem gR_43_4 {M : ip_H} (h : ip_G M) : M.2.2.2 43 4 = some 45 := ip_gr h (by decide) (by decide) rfl
theorem gR_43_5 {M : ip_H} (h : ip_G M) : M.2.2.2 43 5 = some 47 := ip_gr h (by decide) (by decide) rfl
theorem gR_45_0 {M : ip_H} (h : ip_G M) : M.2.2.2 45 0 = some 46 := ip_gr h (by decide) (by decide) rfl
theorem gR_48_3 {M : ip_H} (h : ip_G M) : M.2.2.2 48 3 = some 49 := ip_gr h (by decide) (by decide) rfl
theorem gR_48_4 {M : ip_H} (h : ip_G M) : M.2.2.2 48 4 = some 50 := ip_gr h (by decide) (by decide) rfl
theorem gR_48_5 {M : ip_H} (h : ip_G M) : M.2.2.2 48 5 = some 52 := ip_gr h (by decide) (by decide) rfl
theorem gR_50_0 {M : ip_H} (h : ip_G M) : M.2.2.2 50 0 = some 51 := ip_gr h (by decide) (by decide) rfl
theorem gR_53_3 {M : ip_H} (h : ip_G M) : M.2.2.2 53 3 = some 54 := ip_gr h (by decide) (by decide) rfl
theorem gR_53_4 {M : ip_H} (h : ip_G M) : M.2.2.2 53 4 = some 55 := ip_gr h (by decide) (by decide) rfl
theorem gR_53_5 {M : ip_H} (h : ip_G M) : M.2.2.2 53 5 = some 57 := ip_gr h (by decide) (by decide) rfl
theorem gR_55_0 {M : ip_H} (h : ip_G M) : M.2.2.2 55 0 = some 56 := ip_gr h (by decide) (by decide) rfl
theorem gR_58_3 {M : ip_H} (h : ip_G M) : M.2.2.2 58 3 = some 59 := ip_gr h (by decide) (by decide) rfl
theorem gR_58_4 {M : ip_H} (h : ip_G M) : M.2.2.2 58 4 = some 60 := ip_gr h (by decide) (by decide) rfl
theorem gR_58_5 {M : ip_H} (h : ip_G M) : M.2.2.2 58 5 = some 62 := ip_gr h (by decide) (by decide) rfl
theorem gR_60_0 {M : ip_H} (h : ip_G M) : M.2.2.2 60 0 = some 61 := ip_gr h (by decide) (by decide) rfl
theorem gR_63_3 {M : ip_H} (h : ip_G M) : M.2.2.2 63 3 = some 64 := ip_gr h (by decide) (by decide) rfl
theorem gR_63_4 {M : ip_H} (h : ip_G M) : M.2.2.2 63 4 = some 65 := ip_gr h (by decide) (by decide) rfl
theorem gR_63_5 {M : ip_H} (h : ip_G M) : M.2.2.2 63 5 = some 67 := ip_gr h (by decide) (by decide) rfl
theorem gR_65_0 {M : ip_H} (h : ip_G M) : M.2.2.2 65 0 = some 66 := ip_gr h (by decide) (by decide) rfl
theorem gR_68_3 {M : ip_H} (h : ip_G M) : M.2.2.2 68 3 = some 69 := ip_gr h (by decide) (by decide) rfl
theorem gR_68_4 {M : ip_H} (h : ip_G M) : M.2.2.2 68 4 = some 70 := ip_gr h (by decide) (by decide) rfl
theorem gR_68_5 {M : ip_H} (h : ip_G M) : M.2.2.2 68 5 = some 72 := ip_gr h (by decide) (by decide) rfl
theorem gR_70_0 {M : ip_H} (h : ip_G M) : M.2.2.2 70 0 = some 71 := ip_gr h (by decide) (by decide) rfl
theorem gR_73_3 {M : ip_H} (h : ip_G M) : M.2.2.2 73 3 = some 74 := ip_gr h (by decide) (by decide) rfl
theorem gR_73_4 {M : ip_H} (h : ip_G M) : M.2.2.2 73 4 = some 75 := ip_gr h (by decide) (by decide) rfl
theorem gR_73_5 {M : ip_H} (h : ip_G M) : M.2.2.2 73 5 = some 77 := ip_gr h (by decide) (by decide) rfl
theorem gR_75_0 {M : ip_H} (h : ip_G M) : M.2.2.2 75 0 = some 76 := ip_gr h (by decide) (by decide) rfl
theorem gR_78_0 {M : ip_H} (h : ip_G M) : M.2.2.2 78 0 = some 79 := ip_gr h (by decide) (by decide) rfl
theorem gR_91_3 {M : ip_H} (h : ip_G M) : M.2.2.2 91 3 = some 92 := ip_gr h (by decide) (by decide) rfl
theorem gR_91_4 {M : ip_H} (h : ip_G M) : M.2.2.2 91 4 = some 94 := ip_gr h (by decide) (by decide) rfl
theorem gR_92_0 {M : ip_H} (h : ip_G M) : M.2.2.2 92 0 = some 93 := ip_gr h (by decide) (by decide) rfl
theorem gR_95_0 {M : ip_H} (h : ip_G M) : M.2.2.2 95 0 = some 96 := ip_gr h (by decide) (by decide) rfl
theorem gR_108_1 {M : ip_H} (h : ip_G M) : M.2.2.2 108 1 = some 109 := ip_gr h (by decide) (by decide) rfl
theorem gR_108_2 {M : ip_H} (h : ip_G M) : M.2.2.2 108 2 = some 110 := ip_gr h (by decide) (by decide) rfl
theorem gR_108_5 {M : ip_H} (h : ip_G M) : M.2.2.2 108 5 = some 111 := ip_gr h (by decide) (by decide) rfl
theorem gR_108_6 {M : ip_H} (h : ip_G M) : M.2.2.2 108 6 = some 112 := ip_gr h (by decide) (by decide) rfl
theorem gR_108_7 {M : ip_H} (h : ip_G M) : M.2.2.2 108 7 = some 113 := ip_gr h (by decide) (by decide) rfl
theorem gR_108_8 {M : ip_H} (h : ip_G M) : M.2.2.2 108 8 = some 114 := ip_gr h (by decide) (by decide) rfl
theorem gR_108_9 {M : ip_H} (h : ip_G M) : M.2.2.2 108 9 = some 115 := ip_gr h (by decide) (by decide) rfl
theorem gR_108_10 {M : ip_H} (h : ip_G M) : M.2.2.2 108 10 = some 116 := ip_gr h (by decide) (by decide) rfl
theorem gR_108_11 {M : ip_H} (h : ip_G M) : M.2.2.2 108 11 = some 117 := ip_gr h (by decide) (by decide) rfl
theorem gR_108_28 {M : ip_H} (h : ip_G M) : M.2.2.2 108 28 = some 118 := ip_gr h (by decide) (by decide) rfl
theorem gR_108_30 {M : ip_H} (h : ip_G M) : M.2.2.2 108 30 = some 119 := ip_gr h (by decide) (by decide) rfl
theorem gR_108_31 {M : ip_H} (h : ip_G M) : M.2.2.2 108 31 = some 120 := ip_gr h (by decide) (by decide) rfl
theorem gR_108_39 {M : ip_H} (h : ip_G M) : M.2.2.2 108 39 = some 121 := ip_gr h (by decide) (by decide) rfl
theorem gR_108_42 {M : ip_H} (h : ip_G M) : M.2.2.2 108 42 = some 122 := ip_gr h (by decide) (by decide) rfl
theorem gR_108_43 {M : ip_H} (h : ip_G M) : M.2.2.2 108 43 = some 123 := ip_gr h (by decide) (by decide) rfl
theorem gR_108_44 {M : ip_H} (h : ip_G M) : M.2.2.2 108 44 = some 124 := ip_gr h (by decide) (by decide) rfl
theorem gR_108_45 {M : ip_H} (h : ip_G M) : M.2.2.2 108 45 = some 125 := ip_gr h (by decide) (by decide) rfl
theorem gR_108_46 {M : ip_H} (h : ip_G M) : M.2.2.2 108 46 = some 126 := ip_gr h (by decide) (by decide) rfl
theorem gR_108_47 {M : ip_H} (h : ip_G M) : M.2.2.2 108 47 = some 127 := ip_gr h (by decide) (by decide) rfl
theorem ip_G_uI (M : ip_H) (k j : Nat) (x : Int32) : ip_G (ip_uI M k j x) = ip_G M := rfl
theorem ip_G_uL (M : ip_H) (k j : Nat) (x : Int64) : ip_G (ip_uL M k j x) = ip_G M := rfl
theorem ip_G_cpI (M : ip_H) (a b c d n : Nat) : ip_G (ip_cpI M a b c d n) = ip_G M := rfl
theorem ip_G_cpL (M : ip_H) (a b c d n : Nat) : ip_G (ip_cpL M a b c d n) = ip_G M := rfl
theorem ip_cpI_I (M : ip_H) (a b c d n p q : Nat) : (ip_cpI M a b c d n).2.1 p q = if p = b then va_cpy (M.2.1 a) (M.2.1 b) c d n q else M.2.1 p q := by
  unfold ip_cpI
  by_cases h : p = b
  · simp only [h, if_true]
  · simp only [h, if_false]
theorem ip_cpI_L (M : ip_H) (a b c d n : Nat) : (ip_cpI M a b c d n).2.2.1 = M.2.2.1 := rfl
theorem ip_cpI_R (M : ip_H) (a b c d n : Nat) : (ip_cpI M a b c d n).2.2.2 = M.2.2.2 := rfl
theorem ip_cpI_sh (M : ip_H) (a b c d n p : Nat) : ip_sh (ip_cpI M a b c d n) p = ip_sh M p := rfl
theorem ip_cpL_I (M : ip_H) (a b c d n : Nat) : (ip_cpL M a b c d n).2.1 = M.2.1 := rfl
theorem ip_cpL_L (M : ip_H) (a b c d n p q : Nat) : (ip_cpL M a b c d n).2.2.1 p q = if p = b then va_cpy (M.2.2.1 a) (M.2.2.1 b) c d n q else M.2.2.1 p q := by
  unfold ip_cpL
  by_cases h : p = b
  · simp only [h, if_true]
  · simp only [h, if_false]
theorem ip_cpL_R (M : ip_H) (a b c d n : Nat) : (ip_cpL M a b c d n).2.2.2 = M.2.2.2 := rfl
theorem ip_cpL_sh (M : ip_H) (a b c d n p : Nat) : ip_sh (ip_cpL M a b c d n) p = ip_sh M p := rfl
theorem ip_vr_some (k : Nat) : ip_vr (some k) = .ref k := rfl
end
